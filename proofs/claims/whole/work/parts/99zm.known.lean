/-! What is known at the law's start. -/
abbrev st_F : List Cond := flatC (Jvm.Cond.and given_1 narrow_1)
theorem st_in {i : Nat} {w : Cond} (h : lw_tbl[i]? = some w) : w ∈ lw_tbl := List.mem_of_getElem? h
theorem st_fl {i : Nat} {w : Cond} (h : st_F[i]? = some w) : w ∈ st_F := List.mem_of_getElem? h
def st_ix : List Nat := [56, 68, 83, 85, 87, 92, 96, 135, 144, 153, 128, 130]
abbrev st_tm (i : Nat) : Term := Term.string RX6 (st_ix.getD i 0)
abbrev st_ln : List Nat := sts.map List.length
abbrev st_by : List (List Int32) := sts.map fun l => l.map wz
theorem st_b2 (i j : Nat) : (st_by.getD i []).getD j 0 = wz (stc i j) := by
  unfold stc
  show ((sts.map fun l => l.map wz).getD i []).getD j 0 = wz ((sts.getD i []).getD j 0)
  rw [List.getD_eq_getElem?_getD, List.getD_eq_getElem?_getD, List.getD_eq_getElem?_getD, List.getD_eq_getElem?_getD, List.getElem?_map]
  cases sts[i]? with
  | none => rfl
  | some l =>
    show (l.map wz)[j]?.getD 0 = wz (l[j]?.getD 0)
    rw [List.getElem?_map]
    cases l[j]? <;> rfl
theorem st_l2 (i : Nat) : st_ln.getD i 0 = (sts.getD i []).length := by
  show (sts.map List.length).getD i 0 = _
  rw [List.getD_eq_getElem?_getD, List.getD_eq_getElem?_getD, List.getElem?_map]
  cases sts[i]? <;> rfl

set_option maxRecDepth 1000000 in
theorem st_ex : ∀ i : Nat, i < 12 → Cond.exactly (st_tm i) "java/lang/String" ∈ st_F := by decide +kernel
set_option maxRecDepth 1000000 in
theorem st_co : ∀ i : Nat, i < 12 → Cond.eq (.field (st_tm i) "java/lang/String" "coder" "B") (.int 0) ∈ st_F := by decide +kernel
set_option maxRecDepth 1000000 in
theorem st_ar : ∀ i : Nat, i < 12 → Cond.arrayOf (.field (st_tm i) "java/lang/String" "value" "[B") .byte ∈ st_F := by decide +kernel
set_option maxRecDepth 1000000 in
theorem st_le : ∀ i : Nat, i < 12 → Cond.eq (.length (.field (st_tm i) "java/lang/String" "value" "[B")) (.int (Int32.ofNat (st_ln.getD i 0))) ∈ st_F := by decide +kernel
set_option maxRecDepth 1000000 in
theorem st_el : ∀ i : Nat, i < 12 → ∀ j : Nat, j < st_ln.getD i 0 → Cond.eq (.elem (.field (st_tm i) "java/lang/String" "value" "[B") (.int (Int32.ofNat j))) (.int ((st_by.getD i []).getD j 0)) ∈ st_F := by decide +kernel
set_option maxRecDepth 1000000 in
theorem st_ne : ∀ i : Nat, i < 12 → ∀ j : Nat, j < 12 → i ≠ j → Cond.not (Cond.eq (st_tm i) (st_tm j)) ∈ st_F ∨ Cond.not (Cond.eq (st_tm j) (st_tm i)) ∈ st_F := by decide +kernel
theorem st_sm : ∀ i : Nat, i < 12 → st_ln.getD i 0 < 2 ^ 31 := by decide +kernel
/-- the texts at the start -/
theorem st_S {args : Array Value} {s : State} (hs : ∀ w ∈ st_F, w.before args s = true) : ∃ adK adV : Nat → Nat, vk_S 12 st_ln st_by adK adV (fun z => s.heap.size ≤ z) s s.heap ∧ ∀ i : Nat, i < 12 → (st_tm i).eval args s none [] s = some (.ref (adK i)) :=
  vk_Sof st_sm (fun i hi => hs _ (st_ex i hi)) (fun i hi => hs _ (st_co i hi)) (fun i hi => hs _ (st_ar i hi)) (fun i hi => hs _ (st_le i hi)) (fun i hi j hj => hs _ (st_el i hi j hj)) (fun i j hi hj h => (st_ne i hi j hj h).imp (hs _) (hs _)) (fun a h => Nat.not_le.mpr h)
/-- where the old things stand -/
def st_ov (b e mi : Nat) (fm : Option Nat) (adK adV : Nat → Nat) (a : Nat) : Option Nat := if a = 0 then some b else if a = 1 then some e else if a = 2 then some mi else if a = 3 then fm else if a < 16 then some (adK (a - 4)) else if a < 28 then some (adV (a - 16)) else none
theorem st_ovK {b e mi : Nat} {fm : Option Nat} {adK adV : Nat → Nat} {i : Nat} (hi : i < 12) : st_ov b e mi fm adK adV (4 + i) = some (adK i) := by
  unfold st_ov
  rw [if_neg (by omega), if_neg (by omega), if_neg (by omega), if_neg (by omega), if_pos (by omega), Nat.add_sub_cancel_left]
theorem st_ovV {b e mi : Nat} {fm : Option Nat} {adK adV : Nat → Nat} {i : Nat} (hi : i < 12) : st_ov b e mi fm adK adV (16 + i) = some (adV i) := by
  unfold st_ov
  rw [if_neg (by omega), if_neg (by omega), if_neg (by omega), if_neg (by omega), if_neg (by omega), if_pos (by omega), Nat.add_sub_cancel_left]
/-- the classes -/
theorem st_G {args : Array Value} {s : State} (hts : ∀ w ∈ am_T, w.before args s = true) : ∃ G : va_G, ∀ (c : Nat) (q : vw_C), vwCl[c]? = some q → u_Kn s q.1 q.2.1 q.2.2 (G.1 c) (G.2 c) := by
  have h : ∀ c : Nat, ∃ g : ClassId × (Nat → Nat), ∀ q : vw_C, vwCl[c]? = some q → u_Kn s q.1 q.2.1 q.2.2 g.1 g.2 := by
    intro c
    cases hv : vwCl[c]? with
    | none => exact ⟨(0, fun _ => 0), fun q h => by cases h⟩
    | some r =>
      obtain ⟨C, T, N⟩ := r
      obtain ⟨h1, h2, -⟩ := am_cls c C T N hv
      obtain ⟨cC, iS, hk⟩ := u_known (n := N) hts h1 (hts _ h2)
      exact ⟨(cC, iS), fun q h => by cases h; exact hk⟩
  obtain ⟨g, hg⟩ := Classical.axiomOfChoice h
  exact ⟨(fun c => (g c).1, fun c => (g c).2), hg⟩
/-- rows of numbers -/
theorem st_I {args : Array Value} {s : State} {ty : FieldType} (hn : ∀ C, ty ≠ .object C) (h : (Cond.arrayClass ty).before args s = true) : ∃ c : ClassId, ArrOfT s c ty ∧ va_RA s c ty := by
  obtain ⟨c, k, comp, h1, h2, h3⟩ := Cond.arrayClass_spec h
  refine ⟨c, fun n z => ⟨(fun k h => by cases h), k, h2, comp, h3⟩, ?_⟩
  cases ty with
  | object C => exact absurd rfl (hn C)
  | _ => exact h1
/-- rows of references -/
theorem st_R {args : Array Value} {s : State} {C : String} (h : (Cond.arrayOver (.object C)).before args s = true) : ∃ c : ClassId, ArrOfT s c (.object C) ∧ va_RA s c (.object C) := by
  obtain ⟨comp, c, k, h1, -, h3, h4, h5⟩ := Cond.arrayOver_spec h
  exact ⟨c, fun n z => ⟨(fun k h => by cases h), k, h3, comp, h4⟩, k, comp, h3, h4, h1, h5⟩

set_option maxRecDepth 1000000 in
theorem st_cst {args : Array Value} {s : State} (hts : ∀ w ∈ lw_tbl, w.before args s = true) : ∀ q ∈ am_cst, va_Nw (.castable q.1 q.2) s :=
  am_fc (va_Nw.of rfl (hts _ (st_in (i := 996) rfl))) (am_fc (va_Nw.of rfl (hts _ (st_in (i := 1960) rfl))) (am_fc (va_Nw.of rfl (hts _ (st_in (i := 1970) rfl))) (am_fc (va_Nw.of rfl (hts _ (st_in (i := 1965) rfl))) (am_fc (va_Nw.of rfl (hts _ (st_in (i := 1964) rfl))) (am_fc (va_Nw.of rfl (hts _ (st_in (i := 1963) rfl))) (am_fc (va_Nw.of rfl (hts _ (st_in (i := 1957) rfl))) (am_fc (va_Nw.of rfl (hts _ (st_in (i := 1967) rfl))) (am_fc (va_Nw.of rfl (hts _ (st_in (i := 1962) rfl))) (am_fc (va_Nw.of rfl (hts _ (st_in (i := 1961) rfl))) (am_fc (va_Nw.of rfl (hts _ (st_in (i := 1958) rfl))) (am_fc (va_Nw.of rfl (hts _ (st_in (i := 1968) rfl))) (am_fc (va_Nw.of rfl (hts _ (st_in (i := 1969) rfl))) (am_fc (va_Nw.of rfl (hts _ (st_in (i := 1959) rfl))) (am_fc (va_Nw.of rfl (hts _ (st_in (i := 1966) rfl))) (am_fn)))))))))))))))
set_option maxRecDepth 1000000 in
theorem st_nst {args : Array Value} {s : State} (hts : ∀ w ∈ lw_tbl, w.before args s = true) : ∀ q ∈ am_nst, va_Nw (.methodLinkNest q.1 q.2.1 q.2.2.1 q.2.2.2) s :=
  am_fc (va_Nw.of rfl (hts _ (st_in (i := 208) rfl))) (am_fc (va_Nw.of rfl (hts _ (st_in (i := 245) rfl))) (am_fc (va_Nw.of rfl (hts _ (st_in (i := 262) rfl))) (am_fc (va_Nw.of rfl (hts _ (st_in (i := 294) rfl))) (am_fc (va_Nw.of rfl (hts _ (st_in (i := 1118) rfl))) (am_fn)))))
set_option maxRecDepth 1000000 in
theorem st_sls {args : Array Value} {s : State} {ov : Nat → Option Nat} {adK : Nat → Nat} (hts : ∀ w ∈ lw_tbl, w.before args s = true) (ho : ∀ i, i < 12 → ov (4 + i) = some (adK i)) (he : ∀ i : Nat, i < 12 → (st_tm i).eval args s none [] s = some (.ref (adK i))) : ∀ q ∈ am_sls, ∃ a, ov q.2.2.1 = some a ∧ vk_R q.1 q.2.1 q.2.2.2 a s :=
  am_fc ⟨adK 0, ho 0 (by decide), vk_R.of (hts _ (st_in (i := 801) rfl)) (he 0 (by decide))⟩ (am_fc ⟨adK 1, ho 1 (by decide), vk_R.of (hts _ (st_in (i := 890) rfl)) (he 1 (by decide))⟩ (am_fc ⟨adK 2, ho 2 (by decide), vk_R.of (hts _ (st_in (i := 895) rfl)) (he 2 (by decide))⟩ (am_fc ⟨adK 3, ho 3 (by decide), vk_R.of (hts _ (st_in (i := 896) rfl)) (he 3 (by decide))⟩ (am_fc ⟨adK 4, ho 4 (by decide), vk_R.of (hts _ (st_in (i := 897) rfl)) (he 4 (by decide))⟩ (am_fc ⟨adK 5, ho 5 (by decide), vk_R.of (hts _ (st_in (i := 898) rfl)) (he 5 (by decide))⟩ (am_fc ⟨adK 6, ho 6 (by decide), vk_R.of (hts _ (st_in (i := 899) rfl)) (he 6 (by decide))⟩ (am_fc ⟨adK 7, ho 7 (by decide), vk_R.of (hts _ (st_in (i := 912) rfl)) (he 7 (by decide))⟩ (am_fc ⟨adK 8, ho 8 (by decide), vk_R.of (hts _ (st_in (i := 925) rfl)) (he 8 (by decide))⟩ (am_fc ⟨adK 9, ho 9 (by decide), vk_R.of (hts _ (st_in (i := 930) rfl)) (he 9 (by decide))⟩ (am_fc ⟨adK 10, ho 10 (by decide), vk_R.of (hts _ (st_in (i := 986) rfl)) (he 10 (by decide))⟩ (am_fc ⟨adK 11, ho 11 (by decide), vk_R.of (hts _ (st_in (i := 987) rfl)) (he 11 (by decide))⟩ (am_fn))))))))))))
/-- the old cells -/
theorem st_old {s : State} {b e mi L : Nat} {xs : Nat → Int32} {fm : Option Nat} {adK adV : Nat → Nat} (hX : va_X b L xs s s.heap) (hb : b < s.heap.size) (hE : va_T (.object "java/lang/Object") e 0 (fun _ => .null) (fun z => s.heap.size ≤ z) s s.heap) (hS : vk_S 12 st_ln st_by adK adV (fun z => s.heap.size ≤ z) s s.heap) :
    ∀ a x, a < am_K → (old (fun i => (xs i.toNat).toInt) L)[a]? = some x → am_oc s.heap.size (st_ov b e mi fm adK adV) a x s s.heap := by
  have hc : ∀ i, i < 12 → am_oc s.heap.size (st_ov b e mi fm adK adV) (4 + i) (odc i) s s.heap := by
    intro i hi _
    obtain ⟨h1, h2, h3, -⟩ := hS.1 i hi
    refine ⟨adK i, am_r (some (16 + i)), am_i 0, st_ovK hi, rfl, h1, ?_, h2⟩
    have ev : am_cv s.heap.size (st_ov b e mi fm adK adV) (am_r (some (16 + i))) = .ref (adV i) := by
      show va_rf (am_rr _ _ (some (16 + i))) = _
      rw [am_rr_old (by show 16 + i < 32; omega), st_ovV hi]; rfl
    rw [ev]; exact h3
  have hv : ∀ i, i < 12 → am_oc s.heap.size (st_ov b e mi fm adK adV) (16 + i) (odb i) s s.heap := by
    intro i hi
    obtain ⟨-, -, -, h4⟩ := hS.1 i hi
    refine ⟨adV i, st_ovV hi, (show (1 : Nat) < 3 by decide), ?_⟩
    rw [st_l2] at h4
    have ef : (fun j : Nat => Value.int ((st_by.getD i []).getD j 0)) = fun j : Nat => Value.int (wz (stc i j)) := by funext j; rw [st_b2]
    rw [ef] at h4
    exact h4
  have hn : ∀ a, am_oc s.heap.size (st_ov b e mi fm adK adV) a odx s s.heap := fun a h => absurd h (by decide)
  have h0 : am_oc s.heap.size (st_ov b e mi fm adK adV) 0 (scr (fun i => (xs i.toNat).toInt) L) s s.heap := by
    obtain ⟨cell, q1, q2, q3, q4, q5⟩ := hX
    refine ⟨b, rfl, (show (0 : Nat) < 3 by decide), cell, q1, q2, q3, Nat.le_of_eq q4.symm, by rw [q4]; try rfl, fun j hj => ?_, Nat.not_le.mpr hb⟩
    rw [q5 j hj]
    show some (Value.int (xs j)) = some (Value.int (wz (xs (j : Int).toNat).toInt))
    rw [wz_of]; rfl
  have h1 : am_oc s.heap.size (st_ov b e mi fm adK adV) 1 (.inr (.inr (0, 0, fun _ => none))) s s.heap := ⟨e, rfl, rfl, by
    obtain ⟨cell, q1, q2, q3, q4, q5, -, q7⟩ := hE
    exact ⟨cell, q1, q2, q3, q4, q5, fun j hj => absurd hj (Nat.not_lt_zero j), q7⟩⟩
  intro a x ha hx
  match a, ha, hx with

  | 0, _, hx => exact (Option.some.inj hx) ▸ (h0)
  | 1, _, hx => exact (Option.some.inj hx) ▸ (h1)
  | 2, _, hx => exact (Option.some.inj hx) ▸ (hn 2)
  | 3, _, hx => exact (Option.some.inj hx) ▸ (hn 3)
  | 4, _, hx => exact (Option.some.inj hx) ▸ (hc 0 (by decide))
  | 5, _, hx => exact (Option.some.inj hx) ▸ (hc 1 (by decide))
  | 6, _, hx => exact (Option.some.inj hx) ▸ (hc 2 (by decide))
  | 7, _, hx => exact (Option.some.inj hx) ▸ (hc 3 (by decide))
  | 8, _, hx => exact (Option.some.inj hx) ▸ (hc 4 (by decide))
  | 9, _, hx => exact (Option.some.inj hx) ▸ (hc 5 (by decide))
  | 10, _, hx => exact (Option.some.inj hx) ▸ (hc 6 (by decide))
  | 11, _, hx => exact (Option.some.inj hx) ▸ (hc 7 (by decide))
  | 12, _, hx => exact (Option.some.inj hx) ▸ (hc 8 (by decide))
  | 13, _, hx => exact (Option.some.inj hx) ▸ (hc 9 (by decide))
  | 14, _, hx => exact (Option.some.inj hx) ▸ (hc 10 (by decide))
  | 15, _, hx => exact (Option.some.inj hx) ▸ (hc 11 (by decide))
  | 16, _, hx => exact (Option.some.inj hx) ▸ (hv 0 (by decide))
  | 17, _, hx => exact (Option.some.inj hx) ▸ (hv 1 (by decide))
  | 18, _, hx => exact (Option.some.inj hx) ▸ (hv 2 (by decide))
  | 19, _, hx => exact (Option.some.inj hx) ▸ (hv 3 (by decide))
  | 20, _, hx => exact (Option.some.inj hx) ▸ (hv 4 (by decide))
  | 21, _, hx => exact (Option.some.inj hx) ▸ (hv 5 (by decide))
  | 22, _, hx => exact (Option.some.inj hx) ▸ (hv 6 (by decide))
  | 23, _, hx => exact (Option.some.inj hx) ▸ (hv 7 (by decide))
  | 24, _, hx => exact (Option.some.inj hx) ▸ (hv 8 (by decide))
  | 25, _, hx => exact (Option.some.inj hx) ▸ (hv 9 (by decide))
  | 26, _, hx => exact (Option.some.inj hx) ▸ (hv 10 (by decide))
  | 27, _, hx => exact (Option.some.inj hx) ▸ (hv 11 (by decide))
  | 28, _, hx => exact (Option.some.inj hx) ▸ (hn 28)
  | 29, _, hx => exact (Option.some.inj hx) ▸ (hn 29)
  | 30, _, hx => exact (Option.some.inj hx) ▸ (hn 30)
  | 31, _, hx => exact (Option.some.inj hx) ▸ (hn 31)
  | a + 32, ha, _ => exact absurd ha (by show ¬ a + 32 < 32; omega)
/-- objects among them are of no class of the machine -/
theorem st_14 {ys : Int → Int} {L : Nat} : ∀ (a c : Nat) (fs : List am_V), a < am_K → (old ys L)[a]? = some (.inl (c, fs)) → 14 ≤ c := by
  intro a c fs ha hx
  match a, ha, hx with

  | 0, _, hx => cases hx
  | 1, _, hx => cases hx
  | 2, _, hx => cases hx; decide
  | 3, _, hx => cases hx; decide
  | 4, _, hx => cases hx; decide
  | 5, _, hx => cases hx; decide
  | 6, _, hx => cases hx; decide
  | 7, _, hx => cases hx; decide
  | 8, _, hx => cases hx; decide
  | 9, _, hx => cases hx; decide
  | 10, _, hx => cases hx; decide
  | 11, _, hx => cases hx; decide
  | 12, _, hx => cases hx; decide
  | 13, _, hx => cases hx; decide
  | 14, _, hx => cases hx; decide
  | 15, _, hx => cases hx; decide
  | 28, _, hx => cases hx; decide
  | 29, _, hx => cases hx; decide
  | 30, _, hx => cases hx; decide
  | 31, _, hx => cases hx; decide
  | 16, _, hx => cases hx
  | 17, _, hx => cases hx
  | 18, _, hx => cases hx
  | 19, _, hx => cases hx
  | 20, _, hx => cases hx
  | 21, _, hx => cases hx
  | 22, _, hx => cases hx
  | 23, _, hx => cases hx
  | 24, _, hx => cases hx
  | 25, _, hx => cases hx
  | 26, _, hx => cases hx
  | 27, _, hx => cases hx
  | a + 32, ha, _ => exact absurd ha (by show ¬ a + 32 < 32; omega)
set_option maxRecDepth 1000000 in
/-- all that is known at the start -/
theorem st_KK {s : State} {b L : Nat} {xs : Nat → Int32} (hts : ∀ w ∈ lw_tbl, w.before #[Value.ref b] s = true) (hX : va_X b L xs s s.heap) (hb : b < s.heap.size) (hgv : (Jvm.Cond.and given_1 narrow_1).before #[Value.ref b] s = true) :
    ∃ (ov : Nat → Option Nat) (G : va_G) (cI cR : Nat → ClassId), ov 0 = some b ∧ am_KK s.heap.size ov G cI cR (old (fun i => (xs i.toNat).toInt) L) s s.heap := by
  have hs := flat_of_before _ hgv
  have hA : ∀ a : Nat, a < s.heap.size → ¬ (fun z : Nat => s.heap.size ≤ z) a := fun a h => Nat.not_le.mpr h
  obtain ⟨G, hG⟩ := st_G (args := #[Value.ref b]) (s := s) (fun w hw => hts w (List.mem_filter.mp hw).1)
  obtain ⟨c0, i0⟩ := st_I (ty := .int) (fun C h => by cases h) (hts _ (st_in (i := 150) rfl))
  obtain ⟨c1, i1⟩ := st_I (ty := .byte) (fun C h => by cases h) (hts _ (st_in (i := 242) rfl))
  obtain ⟨c2, i2⟩ := st_I (ty := .boolean) (fun C h => by cases h) (hts _ (st_in (i := 1561) rfl))
  have o0 : (Cond.arrayOver (.object "java/lang/Object")).before #[Value.ref b] s = true := hts _ (st_in (i := 496) rfl)
  have o5 : (Cond.arrayOver (.object "ServantRegistry$Place")).before #[Value.ref b] s = true := hts _ (st_in (i := 299) rfl)
  have o9 : (Cond.arrayOver (.object "ServantRegistry$Servant")).before #[Value.ref b] s = true := hts _ (st_in (i := 301) rfl)
  obtain ⟨r0, j0⟩ := st_R o0
  obtain ⟨r5, j5⟩ := st_R o5
  obtain ⟨r9, j9⟩ := st_R o9
  obtain ⟨mi, hmi⟩ := va_Mi.of (C := "[Ljava/lang/Object;") (hs _ (st_fl (i := 13) rfl))
  have hDc : va_Dc s := va_Dc.of (hts _ (st_in (i := 1974) rfl))
  obtain ⟨adK, adV, hS, hE⟩ := st_S hs
  obtain ⟨em, he1, he2⟩ := va_Tof (tm := Term.static "java/util/ArrayList" "DEFAULTCAPACITY_EMPTY_ELEMENTDATA" "[Ljava/lang/Object;") (ty := .object "java/lang/Object") (N := 0) (f := fun _ => .null) (A := fun z => s.heap.size ≤ z) (by decide) (hs _ (st_fl (i := 5) rfl)) (va_eqt (z := 0) (hs _ (st_fl (i := 7) rfl))) (fun j hj => absurd hj (Nat.not_lt_zero j)) hA
  have z1 : va_Z "java/util/ArrayList" "DEFAULTCAPACITY_EMPTY_ELEMENTDATA" "[Ljava/lang/Object;" (.ref em) (fun z => s.heap.size ≤ z) s s.heap := va_Zof (hts _ (st_in (i := 137) rfl)) (hts _ (st_in (i := 92) rfl)) he1 hA
  have z2 : va_Z "java/lang/String" "COMPACT_STRINGS" "Z" (.int 1) (fun z => s.heap.size ≤ z) s s.heap := va_Zof (hts _ (st_in (i := 819) rfl)) (hts _ (st_in (i := 110) rfl)) (va_eqt (hs _ (st_fl (i := 8) rfl))) hA
  have z3 : va_Zq "jdk/internal/util/Preconditions" "SIOOBE_FORMATTER" "Ljava/util/function/BiFunction;" (fun z => s.heap.size ≤ z) s s.heap := va_Zqof (hts _ (st_in (i := 835) rfl)) (hts _ (st_in (i := 106) rfl)) (hs _ (st_fl (i := 9) rfl)) hA
  obtain ⟨fm, z3⟩ : ∃ fm : Option Nat, va_Z "jdk/internal/util/Preconditions" "SIOOBE_FORMATTER" "Ljava/util/function/BiFunction;" (va_rf fm) (fun z => s.heap.size ≤ z) s s.heap := by
    rcases z3 with h | ⟨t, h⟩
    · exact ⟨none, h⟩
    · exact ⟨some t, h⟩
  refine ⟨st_ov b em mi fm adK adV, G, fun t => if t = 0 then c0 else if t = 1 then c1 else c2, fun t => if t = 0 then r0 else if t = 5 then r5 else r9, rfl, ⟨hG, fun k q hk => ?_⟩, st_cst hts, st_nst hts, ⟨va_AO.of o0, va_AO.of o5, va_AO.of o9⟩, ⟨mi, rfl, hmi⟩, hDc, st_sls hts (fun i hi => st_ovK hi) hE, ⟨z1, z2, z3⟩, st_old hX hb he2 hS, st_14⟩
  match k, hk with
  | 0, hk => cases hk; exact i0
  | 1, hk => cases hk; exact i1
  | 2, hk => cases hk; exact i2
  | 3, hk => cases hk; exact j0
  | 4, hk => cases hk; exact j5
  | 5, hk => cases hk; exact j9
  | k + 6, hk => cases hk

