/-! The class reads a single condition: not, in brackets, a comparison, too deep. -/
section Xsi
variable {n : Nat} {A : aA} {D D' : aD} {T : Int → Int} {N a : Int}
def wNot : List Int := [110, 111, 116]
def notR : Option Itm → Option Itm
  | none => none
  | some v => some (fun f => !v.1 f, v.2 ++ [-1])
theorem wr_s {d : Nat} (hd : d < 10) : wr ((d : Int) + 1) = ((d + 1 : Nat) : Int) := by rw [wr_id (by omega) (by omega)]; omega
theorem one_not {d : Nat} (hd : d < 10) (hT : Txt T N) (ht : Tok T N a) (hw : Wd T N a wNot) {r : Option Itm} {b : Int} (h : Sd T N (d + 1) (tN T N a) r b) : XR T N 45 (7 + 2 * (10 - d)) d a (notR r) b := by
  intro n A D hx h5 hb
  have hN := hT.1
  obtain ⟨t1, t2, ho, x1, _⟩ := h
  obtain ⟨p7, y7, n7⟩ := isw_x hT ht hx (k := 7) (w := wNot) (by decide) rfl
  obtain ⟨a1, a2, a3, a4⟩ := adv_x ht hx
  obtain ⟨l1, l2⟩ := Wd_tn ht hw
  have l3 : ((wNot).length : Int) = 3 := rfl
  obtain ⟨D1, v1, v2, v3⟩ := x1 n A (u_adv D) a1 (by omega) (by omega)
  have hpa := Xst_pa hT ht hx
  have tb := t1.1
  have go : ∀ D', (p_X6_emit D1 (-1)) ∧ (D' = (u_X6_emit D1 (-1))) → Ev (n + 1) (7 + 2 * (10 - d)) 45 [am_r (some 47), am_i (wz d)] A D rv A D' := by
    intro D' q
    have := rl_X6_readOne (n := n) (A := A) (D := D) (D' := D') (c := 6 + 2 * (10 - d)) (by omega) (d : Int) (rgb (by omega) (by omega)) ⟨p7, by
      simp only [y7 hw, show ¬ (1 : Int) = 0 by decide, if_false]
      rw [if_pos (by omega), wr_s hd]
      exact ⟨hpa, D1, Ev_le v1 (by omega), q⟩⟩
    exact Ev_le this (by omega)
  cases r with
  | none =>
    have v3' : D1 47 3 = b := v3.1
    have hf : D1 47 3 ≠ -1 := by omega
    obtain ⟨f1, f2⟩ := em_f hf (-1)
    exact ⟨D1, go D1 ⟨f1, f2.symm⟩, a2.trans v2, v3⟩
  | some v =>
    obtain ⟨o1, o2, o3⟩ := ho
    obtain ⟨z1, z2⟩ := v3
    have c1 := z2.1
    obtain ⟨m1, m2, m3, m4⟩ := em_x z1 (by omega) (by omega) (-1)
    exact ⟨u_X6_emit D1 (-1), go _ ⟨m1, rfl⟩, (a2.trans v2).trans m3, m2, ((cod_nil a3 a4).trans z2).trans m4⟩
theorem not_ok {d : Nat} (hd : d < 10) (ht : Tok T N a) (hw : Wd T N a wNot) {r : Option Itm} {b : Int} (h : Sd T N (d + 1) (tN T N a) r b) : Rok (2 * (10 - d) + 1) a b (notR r) := by
  cases r with
  | none => exact trivial
  | some v =>
    obtain ⟨t1, t2, ⟨o1, o2, o3⟩, _⟩ := h
    obtain ⟨l1, l2⟩ := Wd_tn ht hw
    have l3 : ((wNot).length : Int) = 3 := rfl
    refine ⟨by omega, ?_, fun c hc => ?_, fun f s => ?_⟩
    · show (((v.2 ++ [-1]).length : Nat) : Int) ≤ _
      simp only [List.length_append, List.length_cons, List.length_nil]; omega
    · rcases List.mem_append.mp hc with q | q
      · exact o3.1 c q
      · have : c = -1 := by simpa using q
        omega
    · obtain ⟨v1, v2⟩ := o3.2 f s
      show (v.2 ++ [-1]).foldl (ev1 f) s = _ ∧ LB _ f s (v.2 ++ [-1])
      rw [List.foldl_append, v1]
      refine ⟨rfl, LB_app (LB_le v2 (by omega)) ?_⟩
      rw [v1]
      refine LB_one ?_ ?_
      · simp only [List.length_cons]; omega
      · show ((!v.1 f) :: s).length ≤ _
        simp only [List.length_cons]; omega
def parR (T : Int → Int) (N b : Int) (r : Option Itm) : Option Itm × Int := if T b = 41 ∧ b < N then (r, if r = none then b else tN T N b) else (none, b)
theorem one_par {d : Nat} (hd : d < 10) (hT : Txt T N) (ht : Tok T N a) (hw : ¬ Wd T N a wNot) (hs : Sgn T N a 40) {r : Option Itm} {b : Int} (h : Ad T N (d + 1) (tN T N a) r b) : (r = none → XR T N 45 (7 + 2 * (10 - d)) d a none b) ∧ (Sgn T N b 41 → XR T N 45 (7 + 2 * (10 - d)) d a r (if r = none then b else tN T N b)) ∧ (¬ Sgn T N b 41 → XR T N 45 (7 + 2 * (10 - d)) d a none b) := by
  have hN := hT.1
  obtain ⟨t1, t2, ho, x1, _⟩ := h
  have tb := t1.1
  have ta := ht.1
  have e1 := tN_tok ht
  have main : ∀ (n : Nat) (A : aA) (D : aD), Xst T N a D → 0 ≤ D 47 5 → D 47 5 ≤ a → ∃ D1, Xfr D D1 ∧ Xo T N D D1 b r ∧ (p_X6_takeSign D1 41 → ∀ D', D' = u_X6_takeSign D1 41 → Ev (n + 1) (7 + 2 * (10 - d)) 45 [am_r (some 47), am_i (wz d)] A D rv A D') := by
    intro n A D hx h5 hb
    obtain ⟨p7, y7, n7⟩ := isw_x hT ht hx (k := 7) (w := wNot) (by decide) rfl
    have ps := isg_p hT ht hx 40
    have ys := (isg_x hx (c := 40) (by decide)).1 hs
    obtain ⟨a1, a2, a3, a4⟩ := adv_x ht hx
    obtain ⟨D1, v1, v2, v3⟩ := x1 n A (u_adv D) a1 (by omega) (by omega)
    have hpa := Xst_pa hT ht hx
    refine ⟨D1, a2.trans v2, ?_, fun q1 D' q2 => ?_⟩
    · cases r with
      | none => exact v3
      | some v => exact ⟨v3.1, (cod_nil a3 a4).trans v3.2⟩
    · have := rl_X6_readOne (n := n) (A := A) (D := D) (D' := D') (c := 6 + 2 * (10 - d)) (by omega) (d : Int) (rgb (by omega) (by omega)) ⟨p7, by
        simp only [n7 hw, if_true]
        refine ⟨ps, ?_⟩
        simp only [ys, show ¬ (1 : Int) = 0 by decide, if_false]
        rw [if_pos (by omega), wr_s hd]
        exact ⟨hpa, D1, Ev_le v1 (by omega), q1, q2⟩⟩
      exact Ev_le this (by omega)
  have hno : r = none → XR T N 45 (7 + 2 * (10 - d)) d a none b := by
    intro q n A D hx h5 hb
    obtain ⟨D1, m1, m2, m3⟩ := main n A D hx h5 hb
    rw [q] at m2
    have m2' : D1 47 3 = b := m2.1
    have hf : D1 47 3 ≠ -1 := by omega
    obtain ⟨f1, f2⟩ := tsg_f hf 41
    exact ⟨D1, m3 f1 D1 f2.symm, m1, m2⟩
  refine ⟨hno, fun q => ?_, fun q => ?_⟩
  · cases r with
    | none => exact hno rfl
    | some v =>
      intro n A D hx h5 hb
      obtain ⟨D1, m1, m2, m3⟩ := main n A D hx h5 hb
      obtain ⟨z1, z2⟩ := m2
      obtain ⟨s1, s2, s3⟩ := tsg_x hT t1 z1 (c := 41) (by decide)
      obtain ⟨b1, b2, b3, b4⟩ := adv_x t1 z1
      exact ⟨u_adv D1, m3 s1 _ (s2 q).symm, m1.trans b2, by rw [if_neg (fun z => nomatch z)]; exact b1, cod_eq b3 b4 z2⟩
  · cases r with
    | none => exact hno rfl
    | some v =>
      intro n A D hx h5 hb
      obtain ⟨D1, m1, m2, m3⟩ := main n A D hx h5 hb
      obtain ⟨z1, z2⟩ := m2
      obtain ⟨s1, s2, s3⟩ := tsg_x hT t1 z1 (c := 41) (by decide)
      obtain ⟨r1, r2⟩ := ref_x z1
      have r5 := ref_5 z1
      have c5 := z2.1
      obtain ⟨o1, o2, o3⟩ := ho
      exact ⟨u_X6_refuse D1, m3 s1 _ (s3 q).symm, m1.trans r2, r1, by omega, by omega⟩
theorem one_deep (hT : Txt T N) (ht : Tok T N a) (hw : Wd T N a wNot ∨ Sgn T N a 40) : XR T N 45 (7 + 2 * (10 - 10)) 10 a none a := by
  intro n A D hx h5 hb
  obtain ⟨p7, y7, n7⟩ := isw_x hT ht hx (k := 7) (w := wNot) (by decide) rfl
  have ps := isg_p hT ht hx 40
  have ys := (isg_x hx (c := 40) (by decide)).1
  obtain ⟨r1, r2⟩ := ref_x hx
  have r5 := ref_5 hx
  have hN := hT.1
  have ta := ht.1
  refine ⟨u_X6_refuse D, ?_, r2, r1, by omega, by omega⟩
  have := rl_X6_readOne (n := n) (A := A) (D := D) (D' := u_X6_refuse D) (c := 6) (by omega) 10 (rgb (by omega) (by omega)) ⟨p7, by
    by_cases q : Wd T N a wNot
    · simp only [y7 q, show ¬ (1 : Int) = 0 by decide, show ¬ (10 : Int) < 10 by decide, if_false]
    · have hs : Sgn T N a 40 := by
        rcases hw with z | z
        · exact absurd z q
        · exact z
      simp only [n7 q, if_true]
      refine ⟨ps, ?_⟩
      simp only [ys hs, show ¬ (1 : Int) = 0 by decide, show ¬ (10 : Int) < 10 by decide, if_false]⟩
  exact Ev_le this (by omega)
def lfR (T : Int → Int) (N a : Int) : Itm := (fun f => lfv f (wix T N a 8) (lfs (cix T N (tN T N a))) (lfV T N a), [lfc (wix T N a 8) (cix T N (tN T N a)) (lfV T N a)])
theorem one_lf {d : Nat} (hd : d ≤ 10) (hT : Txt T N) (ht : Tok T N a) (hw : ¬ Wd T N a wNot) (hs : ¬ Sgn T N a 40) : (Lok T N a → XR T N 45 (7 + 2 * (10 - d)) d a (some (lfR T N a)) (lfE T N a)) ∧ (¬ Lok T N a → XR T N 45 (7 + 2 * (10 - d)) d a none (lfE T N a)) := by
  have main : ∀ (n : Nat) (A : aA) (D : aD), Xst T N a D → 0 ≤ D 47 5 → D 47 5 ≤ a → ∃ D', Ev (n + 1) (7 + 2 * (10 - d)) 45 [am_r (some 47), am_i (wz d)] A D rv A D' ∧ Xfr D D' ∧ (Lok T N a → Xst T N (lfE T N a) D' ∧ cod D D' (lfR T N a).2) ∧ (¬ Lok T N a → D' 47 3 = lfE T N a ∧ D' 47 5 = D 47 5) := by
    intro n A D hx h5 hb
    obtain ⟨p7, y7, n7⟩ := isw_x hT ht hx (k := 7) (w := wNot) (by decide) rfl
    have ps := isg_p hT ht hx 40
    have ys := (isg_x hx (c := 40) (by decide)).2 hs
    obtain ⟨q1, q2, q3, q4, D', q5, q6, q7, q8⟩ := leaf_x hT ht hx h5 hb
    refine ⟨D', ?_, q6, q7, q8⟩
    have := rl_X6_readOne (n := n) (A := A) (D := D) (D' := D') (c := 6 + 2 * (10 - d)) (by omega) (d : Int) (rgb (by omega) (by omega)) ⟨p7, by
      simp only [n7 hw, if_true]
      refine ⟨ps, ?_⟩
      simp only [ys, if_true]
      exact ⟨q1, q2, q3, q4, q5⟩⟩
    exact Ev_le this (by omega)
  refine ⟨fun q n A D hx h5 hb => ?_, fun q n A D hx h5 hb => ?_⟩
  · obtain ⟨D', m1, m2, m3, m4⟩ := main n A D hx h5 hb
    exact ⟨D', m1, m2, m3 q⟩
  · obtain ⟨D', m1, m2, m3, m4⟩ := main n A D hx h5 hb
    have hN := hT.1
    have ta := ht.1
    obtain ⟨m5, m6⟩ := m4 q
    exact ⟨D', m1, m2, m5, by omega, by omega⟩
theorem lf_w {k : Nat} (ht : Tok T N a) (h : wix T N a k ≠ -1) : a < N ∧ tK T N a = 1 := by
  have k1 : tK T N a = 1 := by
    by_cases q : tK T N a = 1
    · exact q
    · exact absurd (by unfold wix; rw [if_neg q]) h
  exact ⟨(tE_let k1).2.2, k1⟩
end Xsi
