/-! Adding to a list: what is shown. -/
section Ae
variable {n : Nat} {A A' : aA} {D D' : aD} {d : Nat} {s s' : am_S} {l : Int} {L : Nat}
def nu1 (f : Option (Nat × Nat)) : Bool := match f with
  | some q => q.2 != 1
  | none => true
theorem tvr_up {i x : Int} {m : Nat × Nat} (h : m.2 ≠ 1) : tvr (upA A 1 l L) i x m = tvr A i x m := by
  obtain ⟨k, u⟩ := m
  have hu : u ≠ 1 := h
  have e : ∀ j, upA A 1 l L u j = A u j := fun j => upA_t hu
  match k with
  | 0 => show some (upA A 1 l L u i) = some (A u i); rw [e]
  | 1 => show some (upA A 1 l L u x) = some (A u x); rw [e]
  | 2 => show (if x = 0 then none else some (upA A 1 l L u i)) = (if x = 0 then none else some (A u i)); rw [e]
  | 3 => show some (upA A 1 l L u (8 + i)) = some (A u (8 + i)); rw [e]
  | k + 4 => show (if x = 0 then none else some (upA A 1 l L u i)) = (if x = 0 then none else some (A u i)); rw [e]
theorem tvs_up {i : Int} : ∀ (fs : List (Option (Nat × Nat))) (c : Nat), fs.all nu1 = true → tvs (upA A 1 l L) D i c fs = tvs A D i c fs := by
  intro fs
  induction fs with
  | nil => intro c _; rfl
  | cons f fs ih =>
    intro c hf
    rw [List.all_cons, Bool.and_eq_true] at hf
    show tv1 (upA A 1 l L) i (D c i) f :: tvs (upA A 1 l L) D i (c + 1) fs = tv1 A i (D c i) f :: tvs A D i (c + 1) fs
    rw [ih (c + 1) hf.2]
    congr 1
    cases f with
    | none => rfl
    | some m =>
      show am_r (tvr (upA A 1 l L) i (D c i) m) = am_r (tvr A i (D c i) m)
      rw [tvr_up (by have := hf.1; unfold nu1 at this; simpa using this)]
theorem ety_ne (i : Int) : ety i ≠ 1 := by
  unfold ety
  repeat (split; decide)
  decide
theorem tfs_nu {t : Nat} {q : Nat × List (Option (Nat × Nat))} (h : tfs t = some q) (ht : t ≠ 0) : q.2.all nu1 = true := by
  unfold tfs at h
  split at h
  · exact absurd rfl ht
  all_goals first | (cases h; rfl) | cases h
theorem mkT_up1 {t : Nat} {i : Int} (h : ¬ (t = 0 ∧ i = l)) : mkT (upA A 1 l L) D t i = mkT A D t i := by
  by_cases h0 : t = 0
  · subst h0
    have hi : i ≠ l := fun e => h ⟨rfl, e⟩
    show (Sum.inl (0, [am_i (wz (D 1000 i)), am_r (some (upA A 1 l L 1 i)), am_i (wz (D 1002 i))]) : am_Ce) = Sum.inl (0, [am_i (wz (D 1000 i)), am_r (some (A 1 i)), am_i (wz (D 1002 i))])
    rw [upA_i hi]
  · unfold mkT
    cases hq : tfs t with
    | some q => simp only; rw [tvs_up q.2 _ (tfs_nu hq h0)]
    | none =>
      simp only
      simp only [upA_t (ety_ne i), upA_t (show (11 : Nat) ≠ 1 by decide), upA_t (show (10 : Nat) ≠ 1 by decide)]
theorem Rp0_wr2 (H : Rp0 A D s) (hf : D 900 l = 1) (hL : 32 ≤ L ∧ shp L = none) (hLi : ∀ t i, t < 50 → D (900 + t) i = 1 → A t i = L → t = 1 ∧ i = l)
    (hk : ∀ a c, a ≠ A 0 l → a ≠ L → s.1[a]? = some c → s'.1[a]? = some c)
    (h0 : s'.1[A 0 l]? = some (mkT (upA A 1 l L) D' 0 l)) (h1 : s'.1[L]? = some (mkT (upA A 1 l L) D' 1 l))
    (hD : ∀ c i, ¬ (i = l ∧ (c = 1000 ∨ c = 1002 ∨ c = 901 ∨ c = 1100)) → c ≠ 950 → c ≠ 951 → D' c i = D c i) (hT1 : D' 901 l = 1)
    (hl : D' 950 0 = s'.1.length ∧ D' 951 0 = s'.2) (hC : Cl (upA A 1 l L) D') : Rp0 (upA A 1 l L) D' s' := by
  obtain ⟨⟨q1, q1b⟩, q2, q3, q4, q5, q6⟩ := H
  obtain ⟨r0, r32, rs⟩ := q3 0 l (by decide) hf
  have hDf : ∀ c, c ≠ 1000 → c ≠ 1002 → c ≠ 901 → c ≠ 1100 → c ≠ 950 → c ≠ 951 → D' c = D c := fun c a1 a2 a3 a4 a5 a6 => funext fun i => hD c i (by rintro ⟨_, e | e | e | e⟩ <;> omega) a5 a6
  have hfl : ∀ t i, t < 50 → D' (900 + t) i = 1 → ¬ (t = 1 ∧ i = l) → D (900 + t) i = 1 := fun t i ht hx hn => by
    rw [← hD (900 + t) i (by rintro ⟨e, e' | e' | e' | e'⟩ <;> first | omega | exact hn ⟨by omega, e⟩) (by omega) (by omega)]; exact hx
  refine ⟨⟨?_, ?_⟩, ?_, ?_, ?_, hl, hC⟩
  · rw [hDf 0 (by decide) (by decide) (by decide) (by decide) (by decide) (by decide), hDf 1 (by decide) (by decide) (by decide) (by decide) (by decide) (by decide)]
    exact hk _ _ (by omega) (by omega) q1
  · intro a c ha hc
    have : a < 32 := (List.getElem?_eq_some_iff.mp hc).1
    exact hk _ _ (by omega) (by omega) (q1b a c ha hc)
  · intro a sh ha
    have hg := shp_ge ha
    rw [hDf a (by omega) (by omega) (by omega) (by omega) (by omega) (by omega), mkS_A (A := A) ha]
    · exact hk _ _ (fun e => by rw [e, rs] at ha; cases ha) (fun e => by rw [e, hL.2] at ha; cases ha) (q2 a sh ha)
    · intro t i hx
      refine upA_t ?_
      intro e; subst e; unfold fxt at hx; simp at hx
  · intro t i ht hx
    by_cases e1 : t = 1 ∧ i = l
    · obtain ⟨rfl, rfl⟩ := e1
      rw [upA_eq]; exact ⟨h1, hL⟩
    · have hx' := hfl t i ht hx e1
      have eA : upA A 1 l L t i = A t i := if_neg e1
      rw [eA]
      by_cases e0 : t = 0 ∧ i = l
      · obtain ⟨rfl, rfl⟩ := e0
        exact ⟨h0, r32, rs⟩
      · obtain ⟨w1, w2, w3⟩ := q3 t i ht hx'
        refine ⟨?_, w2, w3⟩
        rw [mkT_up1 e0]
        rw [mkT_cg (D' := D') (D := D)]
        · exact hk _ _ (fun e => e0 (q4 t i 0 l ht (by decide) hx' hf e)) (fun e => e1 (hLi t i ht hx' e)) w1
        · intro hz c c1 c2
          refine hD c i ?_ (by omega) (by omega)
          rintro ⟨rfl, e⟩
          have t0 : t ≠ 0 := fun e => e0 ⟨e, rfl⟩
          have t1 : t ≠ 1 := fun e => e1 ⟨e, rfl⟩
          omega
        · intro _
          refine hD _ i ?_ (by omega) (by omega)
          rintro ⟨rfl, e⟩
          have t0 : t ≠ 0 := fun e => e0 ⟨e, rfl⟩
          have t1 : t ≠ 1 := fun e => e1 ⟨e, rfl⟩
          omega
        · intro e
          exact hD _ i (fun w => e1 ⟨e, w.1⟩) (by decide) (by decide)
        · intro _ k
          exact ⟨hD 1200 k (by rintro ⟨_, e | e | e | e⟩ <;> cases e) (by decide) (by decide), hD 1201 k (by rintro ⟨_, e | e | e | e⟩ <;> cases e) (by decide) (by decide)⟩
        · intro h3 _ k _
          exact hD _ _ (by rintro ⟨_, e⟩; omega) (by omega) (by omega)
  · intro t i t' i' ht ht' hx hx' e
    by_cases e1 : t = 1 ∧ i = l
    · by_cases e2 : t' = 1 ∧ i' = l
      · exact ⟨e1.1.trans e2.1.symm, e1.2.trans e2.2.symm⟩
      · have hy := hfl t' i' ht' hx' e2
        rw [show upA A 1 l L t i = L from if_pos e1, show upA A 1 l L t' i' = A t' i' from if_neg e2] at e
        exact absurd (hLi t' i' ht' hy e.symm) e2
    · have hy := hfl t i ht hx e1
      by_cases e2 : t' = 1 ∧ i' = l
      · rw [show upA A 1 l L t i = A t i from if_neg e1, show upA A 1 l L t' i' = L from if_pos e2] at e
        exact absurd (hLi t i ht hy e) e1
      · rw [show upA A 1 l L t i = A t i from if_neg e1, show upA A 1 l L t' i' = A t' i' from if_neg e2] at e
        exact q4 t i t' i' ht ht' hy (hfl t' i' ht' hx' e2) e
theorem rw_addn {la ea cap : Nat} {mc sz : Int} {x : Option Nat} {f : Nat → Option Nat} (hl : s.1[la]? = some (.inl (0, [am_i (wz mc), am_r (some ea), am_i (wz sz)]))) (h32 : 32 ≤ la) (he : s.1[ea]? = some (.inr (.inr (0, cap, f)))) (he32 : 32 ≤ ea) (hz : 0 ≤ sz ∧ sz < cap) (hc : cap ≤ 65536) (hx : am_asg s.1 0 x = true) (hne : ea ≠ la) : dn (d + 2) 233 [am_r (some la), am_r x] s = some (some (am_i (wz 1)), ((s.1.set ea (.inr (.inr (0, cap, va_up f sz.toNat x)))).set la (.inl (0, [am_i (wz (wr (mc + 1))), am_r (some ea), am_i (wz (sz + 1))])), s.2)) := by
  refine rw_add0 hl h32 ?_
  rw [rw_ad3n (s := (s.1.set la _, s.2)) (set_at hl) h32 ((set_ne hne.symm).trans he) he32 hz hc (asg_set hl hx) hne]
  show some (none, (((s.1.set la _).set ea _).set la _, s.2)) = _
  rw [List.set_comm _ _ hne, List.set_set, List.set_comm _ _ hne.symm]
theorem rw_adda {la : Nat} {mc : Int} {x : Option Nat} (hl : s.1[la]? = some (.inl (0, [am_i (wz mc), am_r (some 1), am_i (wz 0)]))) (h32 : 32 ≤ la) (h1 : s.1[1]? = some (.inr (.inr (0, 0, fun _ => none)))) (hx : am_asg s.1 0 x = true) : dn (d + 4) 233 [am_r (some la), am_r x] s = some (some (am_i (wz 1)), (s.1.set la (.inl (0, [am_i (wz (wr (mc + 1))), am_r (some s.1.length), am_i (wz 1)])) ++ [.inr (.inr (0, 10, va_up (fun _ => none) 0 x))], s.2 + 10)) := by
  refine rw_add0 hl h32 ?_
  rw [rw_ad3a (s := (s.1.set la _, s.2)) (set_at hl) h32 ((set_ne (by omega)).trans h1) (asg_set hl hx)]
  show some (none, ((s.1.set la _).set la (.inl (0, [_, am_r (some (s.1.set la _).length), _])) ++ _, s.2 + 10)) = _
  rw [List.set_set, List.length_set]
theorem rw_addb {la ea cap : Nat} {mc : Int} {x : Option Nat} {f : Nat → Option Nat} (hl : s.1[la]? = some (.inl (0, [am_i (wz mc), am_r (some ea), am_i (wz (cap : Int))]))) (h32 : 32 ≤ la) (he : s.1[ea]? = some (.inr (.inr (0, cap, f)))) (he32 : 32 ≤ ea) (hc : 0 < cap ∧ cap < 1024) (hel : ∀ k, k < cap → am_asg s.1 0 (f k) = true) (hx : am_asg s.1 0 x = true) (hne : ea ≠ la) : dn (d + 6) 233 [am_r (some la), am_r x] s = some (some (am_i (wz 1)), (s.1.set la (.inl (0, [am_i (wz (wr (mc + 1))), am_r (some s.1.length), am_i (wz ((cap : Int) + 1))])) ++ [.inr (.inr (0, cap + max 1 (cap / 2), va_up (fun k => if k < cap then f k else none) cap x))], s.2 + (cap + max 1 (cap / 2)))) := by
  refine rw_add0 hl h32 ?_
  rw [rw_ad3b (s := (s.1.set la _, s.2)) (set_at hl) h32 ((set_ne hne.symm).trans he) he32 hc (fun k hk => asg_set hl (hel k hk)) (asg_set hl hx)]
  show some (none, ((s.1.set la _).set la (.inl (0, [_, am_r (some (s.1.set la _).length), _])) ++ _, s.2 + (cap + max 1 (cap / 2)))) = _
  rw [List.set_set, List.length_set]
theorem ety_r (l : Int) : 10 ≤ ety l ∧ ety l ≤ 16 := by
  unfold ety
  repeat (split; decide)
  decide
theorem Cl_ad (H : Cl A D) (hf : D 900 l = 1)
    (hD : ∀ c i, ¬ (i = l ∧ (c = 1000 ∨ c = 1002 ∨ c = 901 ∨ c = 1100)) → c ≠ 950 → c ≠ 951 → D' c i = D c i) (hT1 : D' 901 l = 1)
    (h2 : D' 1002 l = D 1002 l + 1) (hs : D 1002 l < 1000) (hc : D' 1002 l ≤ D' 1100 l ∧ D' 1100 l ≤ 65536) (hx : D (900 + ety l) (ebs l + D 1002 l) = 1) : Cl (upA A 1 l L) D' := by
  obtain ⟨c1, c2, c3, c4, c5, c6, c7, c8, c9, c10, c11, c12⟩ := H
  have hE : ∀ c i, c ≠ 1000 → c ≠ 1002 → c ≠ 901 → c ≠ 1100 → c ≠ 950 → c ≠ 951 → D' c i = D c i := fun c i a1 a2 a3 a4 a5 a6 => hD c i (by rintro ⟨_, e | e | e | e⟩ <;> omega) a5 a6
  refine ⟨?_, ?_, ?_, ?_, ?_, ?_, ?_, ?_, ?_, ?_, ?_, ?_⟩
  · intro l' q
    rw [hE 900 l' (by decide) (by decide) (by decide) (by decide) (by decide) (by decide)] at q
    obtain ⟨w1, w2, w3⟩ := c1 l' q
    by_cases e : l' = l
    · subst e
      exact ⟨by omega, by omega, Or.inl ⟨hT1, hc.1, hc.2⟩⟩
    · have g : ∀ c, c ≠ 950 → c ≠ 951 → D' c l' = D c l' := fun c a b => hD c l' (fun z => e z.1) a b
      rw [g 1002 (by decide) (by decide), g 901 (by decide) (by decide), g 1100 (by decide) (by decide), upA_i e]
      exact ⟨w1, w2, w3⟩
  · intro l' i q a b
    rw [hE 900 l' (by decide) (by decide) (by decide) (by decide) (by decide) (by decide)] at q
    have hr := ety_r l'
    rw [hE (900 + ety l') _ (by omega) (by omega) (by omega) (by omega) (by omega) (by omega)]
    by_cases e : l' = l
    · subst e
      by_cases e' : i = D 1002 l'
      · subst e'; exact hx
      · exact c2 l' i q a (by omega)
    · rw [hD 1002 l' (fun z => e z.1) (by decide) (by decide)] at b
      exact c2 l' i q a b
  · intro i q
    rw [hE 920 _ (by decide) (by decide) (by decide) (by decide) (by decide) (by decide)]
    rw [hE 910 _ (by decide) (by decide) (by decide) (by decide) (by decide) (by decide)] at q
    exact c3 i q
  · intro i q
    rw [hE 921 _ (by decide) (by decide) (by decide) (by decide) (by decide) (by decide)]
    rw [hE 911 _ (by decide) (by decide) (by decide) (by decide) (by decide) (by decide)] at q
    exact c4 i q
  · intro i q
    simp (disch := decide) only [hE] at q ⊢
    exact c5 i q
  · intro i q
    simp (disch := decide) only [hE] at q ⊢
    exact c6 i q
  · intro i q
    simp (disch := decide) only [hE] at q ⊢
    exact c7 i q
  · intro i q
    simp (disch := decide) only [hE] at q ⊢
    exact c8 i q
  · intro k
    simp (disch := decide) only [hE]
    exact c9 k
  · intro k
    simp (disch := decide) only [hE]
    exact c10 k
  · intro t i a b q
    rw [hE (900 + t) _ (by omega) (by omega) (by omega) (by omega) (by omega) (by omega)] at q
    rw [hE (1000 + 100 * t) _ (by omega) (by omega) (by omega) (by omega) (by omega) (by omega)]
    exact c11 t i a b q
  · simp (disch := decide) only [hE]
    exact c12
/-- what adding changes -/
abbrev addG (D : aD) (l : Int) : Prop := D 901 l ≠ 1 ∨ D 1002 l = D 1100 l
def addC (D : aD) (l : Int) : Int := if D 901 l = 1 then D 1100 l + max 1 (D 1100 l / 2) else 10
def addA (A : aA) (D : aD) (l : Int) : aA := if addG D l then upA A 1 l (D 950 0).toNat else A
def addM (D : aD) (l : Int) : aD := up (up D 1000 l (wr (D 1000 l + 1))) 1002 l (D 1002 l + 1)
def addX (D : aD) (l C : Int) : aD := up (up (up (up (addM D l) 901 l 1) 1100 l C) 950 0 (D 950 0 + 1)) 951 0 (D 951 0 + C)
def addD (D : aD) (l : Int) : aD := if addG D l then addX D l (addC D l) else addM D l
theorem asg_th {j : Int} (H : Rp0 A D s) (h : D (900 + ety l) j = 1) : am_asg s.1 0 (some (A (ety l) j)) = true := by
  have hr := ety_r l
  obtain ⟨h1, h2, _⟩ := H.2.2.1 (ety l) j (by omega) h
  have hk : ∃ q, tfs (ety l) = some q ∧ q.1 < 14 := by
    unfold ety
    repeat (split; exact ⟨_, rfl, by decide⟩)
    exact ⟨_, rfl, by decide⟩
  obtain ⟨q, hq, hq'⟩ := hk
  unfold mkT at h1
  rw [hq] at h1
  unfold am_asg
  simp only [h1]
  rw [Nat.ble_eq_true_of_le (show am_K ≤ _ from h2)]
  simp [Nat.blt_eq, hq']
theorem up_n {c c0 : Nat} {i i0 v : Int} (h : ¬ (c = c0 ∧ i = i0)) : up D c0 i0 v c i = D c i := if_neg h
theorem addM_o (c : Nat) (i : Int) (h : ¬ (i = l ∧ (c = 1000 ∨ c = 1002 ∨ c = 901 ∨ c = 1100))) : addM D l c i = D c i := by
  unfold addM
  rw [up_n (fun e => h ⟨e.2, by omega⟩), up_n (fun e => h ⟨e.2, by omega⟩)]
theorem addM_0 : addM D l 1000 l = wr (D 1000 l + 1) := by unfold addM; rw [up_c (by decide), up_eq]
theorem addM_2 : addM D l 1002 l = D 1002 l + 1 := by unfold addM; rw [up_eq]
theorem addM_f (c : Nat) (i : Int) (a : c ≠ 1000) (b : c ≠ 1002) : addM D l c i = D c i := by unfold addM; rw [up_c b, up_c a]
theorem addX_o {C : Int} (c : Nat) (i : Int) (h : ¬ (i = l ∧ (c = 1000 ∨ c = 1002 ∨ c = 901 ∨ c = 1100))) (a : c ≠ 950) (b : c ≠ 951) : addX D l C c i = D c i := by
  unfold addX
  rw [up_c b, up_c a, up_n (fun e => h ⟨e.2, by omega⟩), up_n (fun e => h ⟨e.2, by omega⟩), addM_o c i h]
theorem addX_0 {C : Int} : addX D l C 1000 l = wr (D 1000 l + 1) := by
  unfold addX; rw [up_c (by decide), up_c (by decide), up_c (by decide), up_c (by decide), addM_0]
theorem addX_2 {C : Int} : addX D l C 1002 l = D 1002 l + 1 := by
  unfold addX; rw [up_c (by decide), up_c (by decide), up_c (by decide), up_c (by decide), addM_2]
theorem addX_1 {C : Int} : addX D l C 901 l = 1 := by
  unfold addX; rw [up_c (by decide), up_c (by decide), up_c (by decide), up_eq]
theorem addX_c {C : Int} : addX D l C 1100 l = C := by
  unfold addX; rw [up_c (by decide), up_c (by decide), up_eq]
theorem addX_h {C : Int} : addX D l C 950 0 = D 950 0 + 1 ∧ addX D l C 951 0 = D 951 0 + C := by
  unfold addX; rw [up_c (by decide), up_eq, up_eq]; exact ⟨rfl, rfl⟩
theorem arr_eq {g : Nat → Option Nat} {z : Int} (hz : 0 ≤ z) (h : ∀ k : Nat, (k : Int) < z → g k = some (A (ety l) (ebs l + k))) (h' : ∀ k : Nat, z < k → g k = none) : va_up g z.toNat (some (A (ety l) (ebs l + z))) = fun k : Nat => if (k : Int) < z + 1 then some (A (ety l) (ebs l + k)) else none := by
  funext k
  unfold va_up
  by_cases e : k = z.toNat
  · rw [if_pos e, if_pos (by omega), show (k : Int) = z by omega]
  · rw [if_neg e]
    by_cases e' : (k : Int) < z
    · rw [if_pos (by omega), h k e']
    · rw [if_neg (by omega), h' k (by omega)]
theorem mkT0 : mkT A D 0 l = .inl (0, [am_i (wz (D 1000 l)), am_r (some (A 1 l)), am_i (wz (D 1002 l))]) := rfl
theorem mkT1 : mkT A D 1 l = .inr (.inr (0, (D 1100 l).toNat, fun k => if (k : Int) < D 1002 l then some (A (ety l) (ebs l + k)) else none)) := rfl
/-- with a new array -/
theorem Rp0_addg {C : Nat} {g : Nat → Option Nat} (H : Rp0 A D s) (hf : D 900 l = 1) (hs : D 1002 l < 1000) (hx : D (900 + ety l) (ebs l + D 1002 l) = 1) (hC : D 1002 l < C ∧ C ≤ 65536) (h : ∀ k : Nat, (k : Int) < D 1002 l → g k = some (A (ety l) (ebs l + k))) (h' : ∀ k : Nat, D 1002 l < k → g k = none) : Rp0 (upA A 1 l (D 950 0).toNat) (addX D l C) (s.1.set (A 0 l) (.inl (0, [am_i (wz (wr (D 1000 l + 1))), am_r (some s.1.length), am_i (wz (D 1002 l + 1))])) ++ [.inr (.inr (0, C, va_up g (D 1002 l).toNat (some (A (ety l) (ebs l + D 1002 l)))))], s.2 + C) := by
  have h135 := Rp0_135 H
  have hcl := H.2.2.2.2.2
  have hlen := H.2.2.2.2.1
  obtain ⟨hl, h32, hsh⟩ := H.2.2.1 0 l (by decide) hf
  have b1 := (hcl.1 l hf).1
  have eL : (D 950 0).toNat = s.1.length := by omega
  rw [eL]
  have hle : (s.1.set (A 0 l) (.inl (0, [am_i (wz (wr (D 1000 l + 1))), am_r (some s.1.length), am_i (wz (D 1002 l + 1))]) : am_Ce)).length = s.1.length := List.length_set
  refine Rp0_wr2 H hf ⟨by omega, shp_135 h135⟩ ?_ ?_ ?_ ?_ addX_o addX_1 ⟨?_, ?_⟩ (Cl_ad hcl hf addX_o addX_1 addX_2 hs ?_ hx)
  · intro t i ht hq e
    have := (List.getElem?_eq_some_iff.mp (H.2.2.1 t i ht hq).1).1
    omega
  · intro a c n0 n1 hc
    show (s.1.set _ _ ++ [_])[a]? = _
    exact ap_lt ((set_ne n0.symm).trans hc)
  · rw [mkT0, addX_0, addX_2, upA_eq]
    exact ap_lt (set_at hl)
  · rw [mkT1, addX_c, addX_2]
    have e := arr_eq (A := A) (l := l) (g := g) b1 h h'
    show (s.1.set _ _ ++ [_])[s.1.length]? = _
    simp only [upA_t (ety_ne l)]
    rw [← e]
    refine (congrArg (fun z => (_ ++ [_])[z]?) hle.symm).trans ?_
    exact ap_at
  · show _ = (((s.1.set _ _ ++ [_] : List am_Ce)).length : Int)
    rw [List.length_append, hle, addX_h.1, hlen.1]; rfl
  · show _ = ((s.2 + C : Nat) : Int)
    rw [addX_h.2, hlen.2]; omega
  · rw [addX_2, addX_c]; omega
theorem upA_id {t : Nat} {i : Int} : upA A t i (A t i) = A := by
  funext t' i'
  unfold upA
  split
  · rename_i e; rw [e.1, e.2]
  · rfl
theorem Rp0_addn {g : Nat → Option Nat} (H : Rp0 A D s) (hf : D 900 l = 1) (h1 : D 901 l = 1) (hs : D 1002 l < 1000) (hx : D (900 + ety l) (ebs l + D 1002 l) = 1) (hC : D 1002 l < D 1100 l) (h : ∀ k : Nat, (k : Int) < D 1002 l → g k = some (A (ety l) (ebs l + k))) (h' : ∀ k : Nat, D 1002 l < k → g k = none) : Rp0 A (addM D l) ((s.1.set (A 1 l) (.inr (.inr (0, (D 1100 l).toNat, va_up g (D 1002 l).toNat (some (A (ety l) (ebs l + D 1002 l))))))).set (A 0 l) (.inl (0, [am_i (wz (wr (D 1000 l + 1))), am_r (some (A 1 l)), am_i (wz (D 1002 l + 1))])), s.2) := by
  have hcl := H.2.2.2.2.2
  have hlen := H.2.2.2.2.1
  obtain ⟨hl, h32, hsh⟩ := H.2.2.1 0 l (by decide) hf
  obtain ⟨hl1, h321, hsh1⟩ := H.2.2.1 1 l (by decide) h1
  obtain ⟨b1, b2, b3⟩ := hcl.1 l hf
  have hne : A 1 l ≠ A 0 l := fun e => absurd (H.2.2.2.1 1 l 0 l (by decide) (by decide) h1 hf e).1 (by decide)
  have hw := Rp0_wr2 (L := A 1 l) (D' := addM D l) (s' := ((s.1.set (A 1 l) (.inr (.inr (0, (D 1100 l).toNat, va_up g (D 1002 l).toNat (some (A (ety l) (ebs l + D 1002 l))))))).set (A 0 l) (.inl (0, [am_i (wz (wr (D 1000 l + 1))), am_r (some (A 1 l)), am_i (wz (D 1002 l + 1))])), s.2)) H hf ⟨h321, hsh1⟩ (fun t i ht hq e => H.2.2.2.1 t i 1 l ht (by decide) hq h1 e) ?_ ?_ ?_ (fun c i q _ _ => addM_o c i q) ((addM_f 901 l (by decide) (by decide)).trans h1) ⟨?_, ?_⟩ (Cl_ad hcl hf (fun c i q _ _ => addM_o c i q) ((addM_f 901 l (by decide) (by decide)).trans h1) addM_2 hs ?_ hx)
  · rw [upA_id] at hw; exact hw
  · intro a c n0 n1 hc
    show ((s.1.set _ _).set _ _)[a]? = _
    rw [set_ne n0.symm, set_ne n1.symm]; exact hc
  · rw [upA_id, mkT0, addM_0, addM_2]
    exact set_at ((set_ne hne).trans hl)
  · rw [upA_id, mkT1, addM_f 1100 l (by decide) (by decide), addM_2, ← arr_eq (A := A) (l := l) (g := g) b1 h h']
    show ((s.1.set _ _).set _ _)[A 1 l]? = _
    rw [set_ne hne.symm]
    exact set_at hl1
  · show _ = (((s.1.set _ _).set _ _).length : Int)
    rw [List.length_set, List.length_set, addM_f 950 0 (by decide) (by decide)]; exact hlen.1
  · show _ = ((s.2 : Nat) : Int)
    rw [addM_f 951 0 (by decide) (by decide)]; exact hlen.2
  · rw [addM_2, addM_f 1100 l (by decide) (by decide)]
    rcases b3 with ⟨_, _, e⟩ | ⟨_, e, _⟩
    · omega
    · exact absurd h1 e
theorem Rp0_add (H : Rp0 A D s) (hf : D 900 l = 1) (hs : D 1002 l < 1000) (hx : D (900 + ety l) (ebs l + D 1002 l) = 1) (hp : D 901 l = 1 → 0 < D 1100 l) : ∃ s', dn (d + 6) 233 [am_r (some (A 0 l)), am_r (some (A (ety l) (ebs l + D 1002 l)))] s = some (some (am_i (wz 1)), s') ∧ Rp0 (addA A D l) (addD D l) s' := by
  have hcl := H.2.2.2.2.2
  obtain ⟨hl, h32, hsh⟩ := H.2.2.1 0 l (by decide) hf
  rw [mkT0] at hl
  obtain ⟨b1, b2, b3⟩ := hcl.1 l hf
  have hxa : am_asg s.1 0 (some (A (ety l) (ebs l + D 1002 l))) = true := asg_th H hx
  rcases b3 with ⟨e1, e2, e3⟩ | ⟨e1, e2, e3⟩
  · obtain ⟨hl1, h321, hsh1⟩ := H.2.2.1 1 l (by decide) e1
    rw [mkT1] at hl1
    have hne : A 1 l ≠ A 0 l := fun e => absurd (H.2.2.2.1 1 l 0 l (by decide) (by decide) e1 hf e).1 (by decide)
    by_cases c : D 1002 l = D 1100 l
    · have hg : addG D l := Or.inr c
      have hc0 := hp e1
      have ec : ((D 1100 l).toNat : Int) = D 1002 l := by omega
      have ez : (D 1002 l).toNat = (D 1100 l).toNat := by omega
      rw [show addA A D l = upA A 1 l (D 950 0).toNat from if_pos hg, show addD D l = addX D l (addC D l) from if_pos hg]
      have eC : addC D l = (((D 1100 l).toNat + max 1 ((D 1100 l).toNat / 2) : Nat) : Int) := by unfold addC; rw [if_pos e1]; omega
      rw [eC]
      refine ⟨_, rw_addb (mc := D 1000 l) (by rw [ec]; exact hl) h32 hl1 h321 (by omega) (fun k hk => ?_) hxa hne, ?_⟩
      · have hk' : (k : Int) < D 1002 l := by omega
        show am_asg s.1 0 (if (k : Int) < D 1002 l then some (A (ety l) (ebs l + k)) else none) = true
        rw [if_pos hk']
        exact asg_th H (hcl.2.1 l k hf (by omega) hk')
      · rw [ec, ← ez]
        refine Rp0_addg H hf hs hx ⟨by omega, by omega⟩ (fun k hk => ?_) (fun k hk => ?_)
        · rw [if_pos (by omega), if_pos hk]
        · rw [if_neg (by omega)]
    · have hg : ¬ addG D l := by rintro (q | q) <;> contradiction
      rw [show addA A D l = A from if_neg hg, show addD D l = addM D l from if_neg hg]
      refine ⟨_, rw_addn (d := d + 4) hl h32 hl1 h321 (by omega) (by omega) hxa hne, ?_⟩
      exact Rp0_addn H hf e1 hs hx (by omega) (fun k hk => if_pos hk) (fun k hk => if_neg (by omega))
  · have hg : addG D l := Or.inl e2
    rw [show addA A D l = upA A 1 l (D 950 0).toNat from if_pos hg, show addD D l = addX D l (addC D l) from if_pos hg]
    have eC : addC D l = ((10 : Nat) : Int) := by unfold addC; rw [if_neg e2]; rfl
    rw [eC]
    rw [e1, e3] at hl
    refine ⟨_, rw_adda (d := d + 2) hl h32 (H.1.2 1 _ (by decide) rfl) hxa, ?_⟩
    have := Rp0_addg (C := 10) (g := fun _ => none) H hf hs hx ⟨by omega, by omega⟩ (fun k hk => by omega) (fun k hk => rfl)
    rw [e3] at this ⊢
    exact this
theorem mxx_addM {F : aD} : mxx n (addM D l) F = addM (mxx n D F) l := by
  unfold addM
  rw [mxx_up rfl, mxx_up rfl, mxx_v rfl, mxx_v rfl]
theorem mxx_addX {F : aD} {C : Int} : mxx n (addX D l C) F = addX (mxx n D F) l C := by
  unfold addX
  rw [mxx_up rfl, mxx_up rfl, mxx_up rfl, mxx_up rfl, mxx_addM, mxx_v rfl, mxx_v rfl]
theorem mxx_addC {F : aD} : addC (mxx n D F) l = addC D l := by
  unfold addC; rw [mxx_v rfl, mxx_v rfl]
theorem mxx_addG {F : aD} : addG (mxx n D F) l = addG D l := by
  unfold addG; rw [mxx_v rfl, mxx_v rfl, mxx_v rfl]
theorem mxx_addD {F : aD} : mxx n (addD D l) F = addD (mxx n D F) l := by
  by_cases c : addG D l
  · have c' : addG (mxx n D F) l := by rw [mxx_addG]; exact c
    rw [show addD D l = addX D l (addC D l) from if_pos c, show addD (mxx n D F) l = addX (mxx n D F) l (addC (mxx n D F) l) from if_pos c', mxx_addX, mxx_addC]
  · have c' : ¬ addG (mxx n D F) l := by rw [mxx_addG]; exact c
    rw [show addD D l = addM D l from if_neg c, show addD (mxx n D F) l = addM (mxx n D F) l from if_neg c', mxx_addM]
theorem mxx_addA {F : aD} : addA A (mxx n D F) l = addA A D l := by
  by_cases c : addG D l
  · have c' : addG (mxx n D F) l := by rw [mxx_addG]; exact c
    rw [show addA A D l = _ from if_pos c, show addA A (mxx n D F) l = _ from if_pos c', mxx_v rfl]
  · have c' : ¬ addG (mxx n D F) l := by rw [mxx_addG]; exact c
    rw [show addA A D l = _ from if_neg c, show addA A (mxx n D F) l = _ from if_neg c']
theorem lev_e : Nat.ble (lev (900 + ety l)) n = true := by
  have h : lev (900 + ety l) = 0 := by
    unfold ety
    repeat (split; rfl)
    rfl
  rw [h]; exact Nat.ble_eq_true_of_le (Nat.zero_le _)
theorem Rp_add (hr : Rp n A D s) (hf : D 900 l = 1) (hs : D 1002 l < 1000) (hx : D (900 + ety l) (ebs l + D 1002 l) = 1) (hp : D 901 l = 1 → 0 < D 1100 l) (hh : D 950 0 ≤ 1000000000 ∧ D 951 0 ≤ 1000000000) : ∃ s', dn (d + 6) 233 [am_r (some (A 0 l)), am_r (some (A (ety l) (ebs l + D 1002 l)))] s = some (some (am_i (wz 1)), s') ∧ Rp n (addA A D l) (addD D l) s' := by
  have hcl := (Rp_cl hr).1 l hf
  obtain ⟨hg, F, H⟩ := hr
  have e2 : mxx n D F 1002 l = D 1002 l := mxx_v rfl
  have k := Rp0_add (d := d) (l := l) H ((mxx_v rfl).trans hf) (by rw [e2]; exact hs) (by rw [e2, mxx_v lev_e]; exact hx) (by rw [mxx_v rfl, mxx_v rfl]; exact hp)
  rw [e2, mxx_addA, ← mxx_addD] at k
  obtain ⟨s', k1, k2⟩ := k
  refine ⟨s', k1, ?_, F, k2⟩
  have hM : ∀ c i, rg (addM D l c i) := rg_up (rg_up hg (rg_wr _)) ⟨by omega, by omega⟩
  by_cases c : addG D l
  · rw [show addD D l = addX D l (addC D l) from if_pos c]
    have hC : 0 ≤ addC D l ∧ addC D l ≤ 100000 := by
      unfold addC
      split
      · rename_i e
        rcases hcl.2.2 with ⟨_, a, b⟩ | ⟨_, a, _⟩
        · omega
        · exact absurd e a
      · omega
    have r0 := hg 950 0
    have r1 := hg 951 0
    unfold rg at r0 r1
    exact rg_up (rg_up (rg_up (rg_up hM ⟨by decide, by decide⟩) ⟨by omega, by omega⟩) ⟨by omega, by omega⟩) ⟨by omega, by omega⟩
  · rw [show addD D l = addM D l from if_neg c]; exact hM
theorem ev_add {ρ : Option am_V → Prop} (hf : D 900 l = 1) (hs : D 1002 l < 1000) (hx : D (900 + ety l) (ebs l + D 1002 l) = 1) (hp : D 901 l = 1 → 0 < D 1100 l) (hh : D 950 0 ≤ 1000000000 ∧ D 951 0 ≤ 1000000000) (hρ : ρ (some (am_i (wz 1)))) : Ev n 6 233 [am_r (some (A 0 l)), am_r (some (A (ety l) (ebs l + D 1002 l)))] A D ρ (addA A D l) (addD D l) := by
  intro d hd s hr
  obtain ⟨e, rfl⟩ : ∃ e, d = e + 6 := ⟨d - 6, by omega⟩
  obtain ⟨s', k1, k2⟩ := Rp_add (d := e) hr hf hs hx hp hh
  exact ⟨_, s', k1, hρ, k2⟩
end Ae
