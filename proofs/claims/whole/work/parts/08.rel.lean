/-! How the small machine's values, cells, locals stand in the machine itself. -/
def am_T : List Cond := lw_tbl.filter goodWord
theorem am_T_of {i : Nat} {w : Cond} (h : lw_tbl[i]? = some w) (hg : goodWord w = true) : w ∈ am_T := List.mem_filter.mpr ⟨List.mem_of_getElem? h, hg⟩
theorem am_T_good {ws : List Cond} (h : ∀ w ∈ am_T, w ∈ ws) : GoodIn ws am_T := fun w hw => ⟨h w hw, good_of_word (List.mem_filter.mp hw).2⟩
def am_tys (cI cR : Nat → ClassId) : List (ClassId × FieldType) := [(cI 0, .int), (cI 1, .byte), (cI 2, .boolean), (cR 0, .object "java/lang/Object"), (cR 5, .object "ServantRegistry$Place"), (cR 9, .object "ServantRegistry$Servant")]
def am_ty (t : Nat) : FieldType := match t with
  | 0 => .int
  | 1 => .byte
  | _ => .boolean
def am_tr (t : Nat) : String := match t with
  | 5 => "ServantRegistry$Place"
  | 9 => "ServantRegistry$Servant"
  | _ => "java/lang/Object"
def am_rr (B : Nat) (ov : Nat → Option Nat) : Option Nat → Option Nat
  | none => none
  | some a => if a < am_K then ov a else some (B + (a - am_K))
def am_cv (B : Nat) (ov : Nat → Option Nat) : am_V → Value
  | .inl x => .int x
  | .inr (.inl x) => .long x
  | .inr (.inr r) => va_rf (am_rr B ov r)
theorem am_rr_new {B : Nat} {ov : Nat → Option Nat} {a : Nat} (h : am_K ≤ a) : am_rr B ov (some a) = some (B + (a - am_K)) := if_neg (Nat.not_lt.mpr h)
theorem am_rr_old {B : Nat} {ov : Nat → Option Nat} {a : Nat} (h : a < am_K) : am_rr B ov (some a) = ov a := if_pos h
theorem am_cv_cat (B : Nat) (ov : Nat → Option Nat) (v : am_V) : (am_cv B ov v).category = am_cat v := by
  rcases v with x | x | r
  · rfl
  · rfl
  · show (va_rf _).category = 1
    cases am_rr B ov r <;> rfl
theorem am_cv_sum (B : Nat) (ov : Nat → Option Nat) (st : List am_V) : ((st.map (am_cv B ov)).map fun v => v.category).sum = (st.map am_cat).sum := by
  rw [List.map_map]
  congr 1
  apply List.map_congr_left
  intro v _
  exact am_cv_cat B ov v
def am_at (B : Nat) (ov : Nat → Option Nat) (G : va_G) (cI cR : Nat → ClassId) (q : Nat) (x : am_Ce) (H : Heap) : Prop := match x with
  | .inl o => ∃ r : vw_C, vwCl[o.1]? = some r ∧ o.2.length = r.2.2 ∧ t_OB q (G.1 o.1) r.2.2 (G.2 o.1) H (vp_V (o.2.map (am_cv B ov)))
  | .inr (.inl x) => x.1 < 3 ∧ H[q]? = some (arrV (cI x.1) x.2.1 (fun j => .int (x.2.2 j)))
  | .inr (.inr x) => (x.1 = 0 ∨ x.1 = 5 ∨ x.1 = 9) ∧ H[q]? = some (arrV (cR x.1) x.2.1 (fun j => va_rf (am_rr B ov (x.2.2 j))))
theorem am_at.kept {B : Nat} {ov : Nat → Option Nat} {G : va_G} {cI cR : Nat → ClassId} {q : Nat} {x : am_Ce} {H H1 : Heap} (h : am_at B ov G cI cR q x H) (hq : H1[q]? = H[q]?) : am_at B ov G cI cR q x H1 := by
  rcases x with o | x | x
  · obtain ⟨r, h1, h2, h3⟩ := h
    exact ⟨r, h1, h2, h3.kept hq⟩
  · exact ⟨h.1, hq.trans h.2⟩
  · exact ⟨h.1, hq.trans h.2⟩
theorem am_at.lt {B : Nat} {ov : Nat → Option Nat} {G : va_G} {cI cR : Nat → ClassId} {q : Nat} {x : am_Ce} {H : Heap} (h : am_at B ov G cI cR q x H) : q < H.size := by
  rcases x with o | x | x
  · obtain ⟨r, h1, h2, cell, h3, -⟩ := h
    exact (Array.getElem?_eq_some_iff.mp h3).1
  · exact (Array.getElem?_eq_some_iff.mp h.2).1
  · exact (Array.getElem?_eq_some_iff.mp h.2).1
/-- the heap as the small machine sees it: old cells as they were, cell k + 32 at B + k -/
def am_Rl (B : Nat) (ov : Nat → Option Nat) (G : va_G) (cI cR : Nat → ClassId) (O : List am_Ce) (g : am_S) (H : Heap) : Prop :=
  am_K ≤ g.1.length ∧ H.size + am_K = B + g.1.length ∧ (∀ a, a < am_K → g.1[a]? = O[a]?) ∧ ∀ a x, am_K ≤ a → g.1[a]? = some x → am_at B ov G cI cR (B + (a - am_K)) x H
theorem am_Rl.set {B : Nat} {ov : Nat → Option Nat} {G : va_G} {cI cR : Nat → ClassId} {O : List am_Ce} {g : am_S} {H H1 : Heap} {a : Nat} {x : am_Ce} (h : am_Rl B ov G cI cR O g H) (ha : am_K ≤ a) (hx : am_at B ov G cI cR (B + (a - am_K)) x H1) (hz : H1.size = H.size) (oq : ∀ q, q ≠ B + (a - am_K) → H1[q]? = H[q]?) :
    am_Rl B ov G cI cR O (g.1.set a x, g.2) H1 := by
  obtain ⟨h1, h2, h3, h4⟩ := h
  refine ⟨by simpa using h1, by rw [hz]; simpa using h2, fun b hb => ?_, fun b y hb hy => ?_⟩
  · rw [← h3 b hb]
    exact List.getElem?_set_ne (by omega)
  · simp only at hy
    by_cases e : a = b
    · subst e
      rw [List.getElem?_set] at hy
      simp only [if_true] at hy
      split at hy
      · cases hy; exact hx
      · cases hy
    · rw [List.getElem?_set_ne e] at hy
      exact (h4 b y hb hy).kept (oq _ (by omega))
theorem am_Rl.new {B : Nat} {ov : Nat → Option Nat} {G : va_G} {cI cR : Nat → ClassId} {O : List am_Ce} {g : am_S} {H H1 : Heap} {x : am_Ce} {n : Nat} (h : am_Rl B ov G cI cR O g H) (hx : am_at B ov G cI cR H.size x H1) (hz : H1.size = H.size + 1) (oq : ∀ q, q < H.size → H1[q]? = H[q]?) :
    am_Rl B ov G cI cR O (g.1 ++ [x], n) H1 := by
  obtain ⟨h1, h2, h3, h4⟩ := h
  refine ⟨by simp; omega, by rw [hz]; simp; omega, fun b hb => ?_, fun b y hb hy => ?_⟩
  · rw [← h3 b hb]
    exact List.getElem?_append_left (by omega)
  · simp only at hy
    by_cases e : b < g.1.length
    · rw [List.getElem?_append_left e] at hy
      exact (h4 b y hb hy).kept (oq _ (h4 b y hb hy).lt)
    · rw [List.getElem?_append_right (by omega)] at hy
      have e1 : b = g.1.length := by
        have := (List.getElem?_eq_some_iff.mp hy).1
        simp at this
        omega
      subst e1
      simp at hy
      subst hy
      have e2 : B + (g.1.length - am_K) = H.size := by omega
      rw [e2]
      exact hx
theorem am_Rl.ad {B : Nat} {ov : Nat → Option Nat} {G : va_G} {cI cR : Nat → ClassId} {O : List am_Ce} {g : am_S} {H : Heap} (h : am_Rl B ov G cI cR O g H) : am_rr B ov (some g.1.length) = some H.size := by
  rw [am_rr_new h.1]
  have := h.2.1
  have := h.1
  congr 1
  omega
-- the locals
def am_LR (B : Nat) (ov : Nat → Option Nat) (ls : Array Slot) (nL : Nat) (lo : am_L) : Prop := ls.size = nL ∧ lo.length ≤ nL ∧ lv_wf ls ∧ ∀ (i : Nat) (v : am_V), lo[i]? = some (some v) → ls[i]? = some (Slot.val (am_cv B ov v))
def am_ll (B : Nat) (ov : Nat → Option Nat) (lo : am_L) : List (Nat × Value) := (List.range lo.length).filterMap fun i => match lo[i]? with
  | some (some v) => some (i, am_cv B ov v)
  | _ => none
theorem am_ll_in {B : Nat} {ov : Nat → Option Nat} {lo : am_L} {i : Nat} {v : am_V} (h : lo[i]? = some (some v)) : (i, am_cv B ov v) ∈ am_ll B ov lo := by
  unfold am_ll
  refine List.mem_filterMap.mpr ⟨i, List.mem_range.mpr (List.getElem?_eq_some_iff.mp h).1, ?_⟩
  rw [h]
theorem am_LR.has {B : Nat} {ov : Nat → Option Nat} {ls : Array Slot} {nL : Nat} {lo : am_L} (h : am_LR B ov ls nL lo) : lv_has ls nL (am_ll B ov lo) := by
  refine ⟨h.1, h.2.2.1, fun q hq => ?_⟩
  obtain ⟨i, -, hi⟩ := List.mem_filterMap.mp hq
  split at hi
  · cases hi
    exact h.2.2.2 _ _ (by assumption)
  · cases hi
theorem am_set_s {lo : am_L} {i j : Nat} {o : Option am_V} {v : am_V} (h : (lo.set i o)[j]? = some (some v)) : (i = j ∧ o = some v) ∨ (i ≠ j ∧ lo[j]? = some (some v)) := by
  by_cases e : i = j
  · subst e
    rw [List.getElem?_set] at h
    simp only [if_true] at h
    split at h
    · exact Or.inl ⟨rfl, Option.some.inj h⟩
    · cases h
  · rw [List.getElem?_set_ne e] at h
    exact Or.inr ⟨e, h⟩
theorem am_kill_s {ks : List Nat} : ∀ {lo : am_L} {j : Nat} {v : am_V}, (am_kill ks lo)[j]? = some (some v) → lo[j]? = some (some v) := by
  induction ks with
  | nil => intro lo j v h; exact h
  | cons k ks ih =>
    intro lo j v h
    rcases am_set_s (ih h) with ⟨-, h⟩ | ⟨-, h⟩
    · cases h
    · exact h
theorem am_kill_len {ks : List Nat} : ∀ {lo : am_L}, (am_kill ks lo).length = lo.length := by
  induction ks with
  | nil => intro lo; rfl
  | cons k ks ih => intro lo; show (am_kill ks (lo.set k none)).length = _; rw [ih, List.length_set]
theorem am_LR.kill {B : Nat} {ov : Nat → Option Nat} {ls : Array Slot} {nL : Nat} {lo : am_L} (h : am_LR B ov ls nL lo) (ks : List Nat) : am_LR B ov ls nL (am_kill ks lo) :=
  ⟨h.1, by rw [am_kill_len]; exact h.2.1, h.2.2.1, fun i v hv => h.2.2.2 i v (am_kill_s hv)⟩
theorem am_un_len {lo : am_L} {i : Nat} : (am_un lo i).length = lo.length := by
  unfold am_un; split
  · rfl
  · split
    · simp
    · rfl
theorem am_un_s {lo : am_L} {i j : Nat} {v : am_V} (h : (am_un lo i)[j]? = some (some v)) : lo[j]? = some (some v) ∧ ¬ (j + 1 = i ∧ am_cat v = 2) := by
  unfold am_un at h
  split at h
  · exact ⟨h, fun q => by omega⟩
  · rename_i k
    split at h
    · rcases am_set_s h with ⟨-, h⟩ | ⟨h1, h⟩
      · cases h
      · exact ⟨h, fun q => h1 (by omega)⟩
    · rename_i hn
      refine ⟨h, fun q => ?_⟩
      have e : j = k := by omega
      subst e
      rcases v with x | x | x
      · exact absurd q.2 (by show ¬ (1 : Nat) = 2; decide)
      · exact hn _ h
      · exact absurd q.2 (by show ¬ (1 : Nat) = 2; decide)
theorem am_LR_sto {B : Nat} {ov : Nat → Option Nat} {ls : Array Slot} {nL : Nat} {lo : am_L} {i : Nat} {v : am_V} (hn : lo.length ≤ nL) (h : lv_has ls nL ((i, am_cv B ov v) :: (am_ll B ov lo).filter (fun q => !(q.1 == i) && !(q.1 + 1 == i && q.2.category == 2)))) : am_LR B ov ls nL (am_sto lo i v) := by
  refine ⟨h.1, by unfold am_sto; rw [List.length_set, am_un_len]; exact hn, h.2.1, fun j w hw => ?_⟩
  rcases am_set_s hw with ⟨rfl, e⟩ | ⟨e, hw⟩
  · cases e
    exact h.2.2 _ List.mem_cons_self
  · obtain ⟨h1, h2⟩ := am_un_s hw
    refine h.2.2 (j, am_cv B ov w) (List.mem_cons_of_mem _ (List.mem_filter.mpr ⟨am_ll_in h1, ?_⟩))
    have h3 : ¬ (j + 1 = i ∧ (am_cv B ov w).category = 2) := by rw [am_cv_cat]; exact h2
    simp only [Bool.and_eq_true, Bool.not_eq_true', beq_eq_false_iff_ne, ne_eq, Bool.and_eq_false_iff]
    refine ⟨fun q => e q.symm, ?_⟩
    by_cases q : j + 1 = i
    · exact Or.inr fun z => h3 ⟨q, z⟩
    · exact Or.inl q
theorem am_LR_sto2 {B : Nat} {ov : Nat → Option Nat} {ls : Array Slot} {nL : Nat} {lo : am_L} {i : Nat} {v : am_V} (hn : lo.length ≤ nL) (h : lv_has ls nL ((i, am_cv B ov v) :: (am_ll B ov lo).filter (fun q => !(q.1 == i) && (!(q.1 == i + 1) && !(q.1 + 1 == i && q.2.category == 2))))) : am_LR B ov ls nL (am_sto2 lo i v) := by
  refine ⟨h.1, by unfold am_sto2; rw [List.length_set, List.length_set, am_un_len]; exact hn, h.2.1, fun j w hw => ?_⟩
  rcases am_set_s hw with ⟨rfl, e⟩ | ⟨e, hw⟩
  · cases e
    exact h.2.2 _ List.mem_cons_self
  · rcases am_set_s hw with ⟨-, e2⟩ | ⟨e2, hw⟩
    · cases e2
    · obtain ⟨h1, h2⟩ := am_un_s hw
      refine h.2.2 (j, am_cv B ov w) (List.mem_cons_of_mem _ (List.mem_filter.mpr ⟨am_ll_in h1, ?_⟩))
      have h3 : ¬ (j + 1 = i ∧ (am_cv B ov w).category = 2) := by rw [am_cv_cat]; exact h2
      simp only [Bool.and_eq_true, Bool.not_eq_true', beq_eq_false_iff_ne, ne_eq, Bool.and_eq_false_iff]
      refine ⟨fun q => e q.symm, fun q => e2 q.symm, ?_⟩
      by_cases q : j + 1 = i
      · exact Or.inr fun z => h3 ⟨q, z⟩
      · exact Or.inl q
-- what is known of the machine all the while: the classes, words that aren't of the tables alone, the old cells
def am_cst : List (String × String) := [("[I", "java/lang/Cloneable"), ("java/util/ArrayList", "java/lang/Object"), ("ServantRegistry$Ask", "java/lang/Object"), ("ServantRegistry$Chain", "java/lang/Object"), ("ServantRegistry$Dealing", "java/lang/Object"), ("ServantRegistry$Ledger", "java/lang/Object"), ("ServantRegistry$Place", "java/lang/Object"), ("ServantRegistry$Placing", "java/lang/Object"), ("ServantRegistry$RuleReader", "java/lang/Object"), ("ServantRegistry$Rulebook", "java/lang/Object"), ("ServantRegistry$Servant", "java/lang/Object"), ("ServantRegistry$Statement", "java/lang/Object"), ("ServantRegistry$Testimony", "java/lang/Object"), ("ServantRegistry", "java/lang/Object"), ("ServantRegistryModel", "java/lang/Object")]
def am_oc (B : Nat) (ov : Nat → Option Nat) (a : Nat) (x : am_Ce) (U : State) (H : Heap) : Prop := match x with
  | .inl o => o.1 = 50 → ∃ (q : Nat) (v w : am_V), ov a = some q ∧ o.2 = [v, w] ∧ va_O "java/lang/String" q (fun z => B ≤ z) U H ∧ va_OF "java/lang/String" "value" "[B" (am_cv B ov v) q (fun z => B ≤ z) U H ∧ va_OF "java/lang/String" "coder" "B" (am_cv B ov w) q (fun z => B ≤ z) U H
  | .inr (.inl y) => ∃ q : Nat, ov a = some q ∧ y.1 < 3 ∧ va_T (am_ty y.1) q y.2.1 (fun j => .int (y.2.2 j)) (fun z => B ≤ z) U H
  | .inr (.inr y) => ∃ q : Nat, ov a = some q ∧ y.1 = 0 ∧ va_T (.object "java/lang/Object") q y.2.1 (fun j => va_rf (am_rr B ov (y.2.2 j))) (fun z => B ≤ z) U H
def am_KK (B : Nat) (ov : Nat → Option Nat) (G : va_G) (cI cR : Nat → ClassId) (O : List am_Ce) (U : State) (H : Heap) : Prop :=
  va_K G vwCl (am_tys cI cR) U ∧ (∀ q ∈ am_cst, va_Nw (.castable q.1 q.2) U) ∧ (∀ q ∈ am_nst, va_Nw (.methodLinkNest q.1 q.2.1 q.2.2.1 q.2.2.2) U) ∧ (va_AO "java/lang/Object" U ∧ va_AO "ServantRegistry$Place" U ∧ va_AO "ServantRegistry$Servant" U) ∧ (∃ mi, ov 2 = some mi ∧ va_Mi "[Ljava/lang/Object;" mi U) ∧ va_Dc U ∧
  (∀ q ∈ am_sls, ∃ a, ov q.2.2.1 = some a ∧ vk_R q.1 q.2.1 q.2.2.2 a U) ∧ (va_Z "java/util/ArrayList" "DEFAULTCAPACITY_EMPTY_ELEMENTDATA" "[Ljava/lang/Object;" (va_rf (ov 1)) (fun z => B ≤ z) U H ∧ va_Z "java/lang/String" "COMPACT_STRINGS" "Z" (.int 1) (fun z => B ≤ z) U H ∧ va_Z "jdk/internal/util/Preconditions" "SIOOBE_FORMATTER" "Ljava/util/function/BiFunction;" (va_rf (ov 3)) (fun z => B ≤ z) U H) ∧
  (∀ a x, a < am_K → O[a]? = some x → am_oc B ov a x U H) ∧ ∀ (a c : Nat) (fs : List am_V), a < am_K → O[a]? = some (.inl (c, fs)) → 14 ≤ c
theorem am_oc.kept {B : Nat} {ov : Nat → Option Nat} {a : Nat} {x : am_Ce} {U : State} {H H1 : Heap} (h : am_oc B ov a x U H) (hq : ∀ a : Nat, a < H.size → ¬ B ≤ a → H1[a]? = H[a]?) : am_oc B ov a x U H1 := by
  rcases x with o | x | x
  · intro e
    obtain ⟨q, v, w, h1, h2, h3, h4, h5⟩ := h e
    exact ⟨q, v, w, h1, h2, h3.kept hq, h4.kept hq, h5.kept hq⟩
  · obtain ⟨q, h1, h2, h3⟩ := h
    exact ⟨q, h1, h2, h3.kept hq⟩
  · obtain ⟨q, h1, h2, h3⟩ := h
    exact ⟨q, h1, h2, h3.kept hq⟩
theorem am_oc.moved {B : Nat} {ov : Nat → Option Nat} {a : Nat} {x : am_Ce} {u U : State} {H : Heap} (hvm : u.vm.Alike U.vm) (h : am_oc B ov a x u H) : am_oc B ov a x U H := by
  rcases x with o | x | x
  · intro e
    obtain ⟨q, v, w, h1, h2, h3, h4, h5⟩ := h e
    exact ⟨q, v, w, h1, h2, h3.moved hvm, h4.moved hvm, h5.moved hvm⟩
  · obtain ⟨q, h1, h2, h3⟩ := h
    exact ⟨q, h1, h2, h3.moved hvm⟩
  · obtain ⟨q, h1, h2, h3⟩ := h
    exact ⟨q, h1, h2, h3.moved hvm⟩
theorem am_KK.kept {B : Nat} {ov : Nat → Option Nat} {G : va_G} {cI cR : Nat → ClassId} {O : List am_Ce} {U : State} {H H1 : Heap} (h : am_KK B ov G cI cR O U H) (hq : ∀ a : Nat, a < H.size → ¬ B ≤ a → H1[a]? = H[a]?) : am_KK B ov G cI cR O U H1 := by
  obtain ⟨h1, h2, h3, h4, h5, h6, h7, ⟨h8, h9, h10⟩, h11, h12⟩ := h
  exact ⟨h1, h2, h3, h4, h5, h6, h7, ⟨h8.kept hq, h9.kept hq, h10.kept hq⟩, fun a x ha hx => (h11 a x ha hx).kept hq, h12⟩
theorem am_KK.warm {B : Nat} {ov : Nat → Option Nat} {G : va_G} {cI cR : Nat → ClassId} {O : List am_Ce} {s U : State} {H : Heap} (hW : s.WarmedH U.vm) (h : am_KK B ov G cI cR O s H) : am_KK B ov G cI cR O U H := by
  obtain ⟨h1, h2, h3, ⟨h4, h4b, h4c⟩, ⟨mi, h5, h5b⟩, h6, h7, ⟨h8, h9, h10⟩, h11, h12⟩ := h
  have hal := hW.alike
  exact ⟨va_K.moved hal h1, fun q hq => va_Nw.warmC hW (h2 q hq), fun q hq => va_Nw.warmM hW (h3 q hq), ⟨h4.moved hal, h4b.moved hal, h4c.moved hal⟩, ⟨mi, h5, h5b.moved hal⟩, h6.moved hal, fun q hq => (let ⟨a, e, z⟩ := h7 q hq; ⟨a, e, vk_R.warm hW z⟩), ⟨h8.moved hal, h9.moved hal, h10.moved hal⟩, fun a x ha hx => (h11 a x ha hx).moved hal, h12⟩
theorem am_KK.same {B : Nat} {ov : Nat → Option Nat} {G : va_G} {cI cR : Nat → ClassId} {O : List am_Ce} {s U : State} {H : Heap} (hv : U.vm = s.vm) (h : am_KK B ov G cI cR O s H) : am_KK B ov G cI cR O U H := by
  obtain ⟨h1, h2, h3, ⟨h4, h4b, h4c⟩, ⟨mi, h5, h5b⟩, h6, h7, ⟨h8, h9, h10⟩, h11, h12⟩ := h
  have hal : s.vm.Alike U.vm := by rw [hv]; exact Vm.Alike.refl _
  exact ⟨va_K.moved hal h1, fun q hq => va_Nw.same rfl hv.symm (h2 q hq), fun q hq => va_Nw.same rfl hv.symm (h3 q hq), ⟨h4.moved hal, h4b.moved hal, h4c.moved hal⟩, ⟨mi, h5, h5b.moved hal⟩, h6.moved hal, fun q hq => (let ⟨a, e, z⟩ := h7 q hq; ⟨a, e, vk_R.same hv z⟩), ⟨h8.moved hal, h9.moved hal, h10.moved hal⟩, fun a x ha hx => (h11 a x ha hx).moved hal, h12⟩
/-- the method that runs: its code, its locals, its class, its words, what is known -/
def am_Cx (p : Program) (s : State) (m : MethodId) (args : Array Value) (c : Code) (cc : ByteArray) (nL : Nat) (own : String) (B : Nat) (ov : Nat → Option Nat) (G : va_G) (cI cR : Nat → ClassId) (O : List am_Ce) : Prop :=
  p.tables.exec = Jvm.exec ∧ c.code = cc ∧ c.maxLocals = nL ∧ s.vm.findClass own = some m.cls ∧ (∀ w ∈ am_T, w.before args s = true) ∧ am_KK B ov G cI cR O s s.heap
/-- from a frame of the small machine the machine comes to Q -/
def am_Ok (p : Program) (l : Launch) (e : Env) (R : Room) (s : State) (m : MethodId) (args : Array Value) (below : List Frame) (meth : Method) (c : Code) (B : Nat) (ov : Nat → Option Nat) (G : va_G) (cI cR : Nat → ClassId) (O : List am_Ce) (n0 k0 : Nat) (Q : State → Prop) (nL : Nat) (pc : Nat) (lo : am_L) (st : List am_V) (g : am_S) : Prop :=
  ∀ (H : Heap) (locs : List Loc) (ls : Array Slot), am_Rl B ov G cI cR O g H → va_S (fun q => B ≤ q) s.heap H locs → am_LR B ov ls nL lo → n0 ≤ g.1.length → k0 ≤ g.2 → W p l e R s m args below meth c H locs (g.1.length - n0) (g.2 - k0) Q (F0 m pc ls (st.map (am_cv B ov)))
