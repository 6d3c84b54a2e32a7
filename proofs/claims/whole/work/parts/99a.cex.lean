/-! Every condition of a text is read alike by both. -/
section Cex
variable {n : Nat} {A : aA} {D D' : aD} {T : Int → Int} {N a : Int}
theorem any_m {d : Nat} (hd : d ≤ 10) (hT : Txt T N) {its : List (Bool × Itm)} {v : Itm} {b : Int} {e : Option Bool} {a' : Int} (h1 : Sd T N d a (some v) b) (h2 : Sq T N d b its e a') : MR T N 160 (6 + 3 * (10 - d)) (2 * (10 - d) + 3) d 50 (8 * d - 50) a (anyR v its e) a' := by
  intro n A D hm h27 hp h31
  have hN := hT.1
  have ha := (Mst_tok hT hm).1
  obtain ⟨n1, n2, n3, n4, n5, n6, n7, n8⟩ := nod_m (D := D) (k := 0) (by omega) (by omega)
  have m4 : Mst T N a (u_X12_node D 0) := Mst_cg hm (n3.1 107 (by decide) (Or.inr (by decide))) (n8 29 (by decide)) (n8 30 (by decide))
  obtain ⟨x, D', k1, k2, k3, k4⟩ := K_any_m (n := n) (A := A) hd hT its.length its (Nat.le_refl _) a v b e a' (u_X12_node D 0) [] (-1) (D 70 27) (Or.inl ⟨⟨⟨h27, by omega⟩, n5, n6, n7⟩, rfl, rfl⟩) h1 h2 m4 (by omega) (by rw [n8 31 (by decide), h31])
  have ev := rl_X12_any (n := n) (A := A) (D := D) (D' := D') (c := 5 + 3 * (10 - d)) (by omega) (x := x) ⟨n2, by rw [n1]; exact k1⟩
  refine ⟨x, D', Ev_le ev (by omega), n3.trans k2, ?_⟩
  unfold anyR
  cases e with
  | some k => exact k3 (fun q => nomatch q)
  | none =>
    obtain ⟨j1, j2, j3, j4, j5, j6, ψ, j7, j8⟩ := k4 rfl
    have e1 : ψ = val false v.1 v.1 its := funext fun f => by rw [j8 f]; simp
    rw [e1] at j7
    exact ⟨j1, j2, by rw [j3, h31], by omega, by omega, j4, j7⟩
theorem any_m0 {d : Nat} (hd : d ≤ 10) (hT : Txt T N) {a' : Int} (h1 : Sd T N d a none a') : MR T N 160 (6 + 3 * (10 - d)) (2 * (10 - d) + 3) d 50 (8 * d - 50) a none a' := by
  intro n A D hm h27 hp h31
  have hN := hT.1
  have ha := (Mst_tok hT hm).1
  obtain ⟨n1, n2, n3, n4, n5, n6, n7, n8⟩ := nod_m (D := D) (k := 0) (by omega) (by omega)
  have m4 : Mst T N a (u_X12_node D 0) := Mst_cg hm (n3.1 107 (by decide) (Or.inr (by decide))) (n8 29 (by decide)) (n8 30 (by decide))
  obtain ⟨D', w1, w2, w3⟩ := all_ev0 (n := n) (A := A) hd hT h1 m4 (by omega) (by omega) (by rw [n8 31 (by decide), h31])
  have ev := rl_X12_any (n := n) (A := A) (D := D) (D' := D') (c := 5 + 3 * (10 - d)) (by omega) (x := -1) ⟨n2, by rw [n1]; exact an_rule (by omega) ⟨by omega, by omega⟩ (Or.inl rfl) w1 (by rw [if_pos rfl]; exact ⟨rfl, rfl⟩)⟩
  exact ⟨-1, D', Ev_le ev (by omega), n3.trans (w2.low (by omega)), rfl, w3⟩
theorem Ad_ex {d : Nat} (hd : d ≤ 10) (hT : Txt T N) (ht : Tok T N a) (H : ∀ b, Tok T N b → a ≤ b → ∃ r b', Sd T N d b r b') : ∃ r a', Ad T N d a r a' := by
  obtain ⟨r, b, hs⟩ := H a ht (Int.le_refl _)
  cases r with
  | none => exact ⟨none, b, hs.1, hs.2.1, trivial, any_x0 hd hs, any_m0 hd hT hs⟩
  | some v =>
    have hb := hs.2.1
    obtain ⟨its, e, a', q1, q2, q3⟩ := Sq_ex (a := a) H (N - b).toNat b hs.1 hb (by omega)
    exact ⟨anyR v its e, a', q2, by omega, any_ok hs q1 q3, any_x hd hT hs q1, any_m hd hT hs q1⟩
theorem Sd_ex (hT : Txt T N) : ∀ (m : Nat) (d : Nat) (a : Int), d ≤ 10 → Tok T N a → N - a ≤ m → ∃ r a', Sd T N d a r a' := by
  have leaf : ∀ (d : Nat) (a : Int), d ≤ 10 → Tok T N a → ¬ Wd T N a wNot → ¬ Sgn T N a 40 → ∃ r a', Sd T N d a r a' := by
    intro d a hd ht hw hs
    have ho := one_lf hd hT ht hw hs
    have hm := sin_lf (d := d) hd hT hw hs
    obtain ⟨l1, l2⟩ := lfE_tok ht
    by_cases q : Lok T N a
    · exact ⟨some (lfR T N a), lfE T N a, l1, l2, lf_ok ht q, ho.1 q, hm.1 q⟩
    · exact ⟨none, lfE T N a, l1, l2, trivial, ho.2 q, hm.2 q⟩
  intro m
  induction m with
  | zero =>
    intro d a hd ht hm
    exact leaf d a hd ht (fun q => by have := (Wd_tn ht q).2; omega) (fun q => by have := q.1; omega)
  | succ m ih =>
    intro d a hd ht hm
    obtain ⟨t1, t2, t3, t4⟩ := tN_tok ht
    by_cases c1 : Wd T N a wNot
    · by_cases c2 : d = 10
      · subst c2
        exact ⟨none, a, ht, Int.le_refl _, trivial, one_deep hT ht (Or.inl c1), sin_deep hT (Or.inl c1)⟩
      · have t5 := t4 (Wd_tn ht c1).2
        obtain ⟨r, b, hs⟩ := ih (d + 1) (tN T N a) (by omega) t1 (by omega)
        have hb := hs.2.1
        exact ⟨notR r, b, hs.1, by omega, not_ok (by omega) ht c1 hs, one_not (by omega) hT ht c1 hs, sin_not (by omega) hT c1 hs⟩
    · by_cases c3 : Sgn T N a 40
      · by_cases c2 : d = 10
        · subst c2
          exact ⟨none, a, ht, Int.le_refl _, trivial, one_deep hT ht (Or.inr c3), sin_deep hT (Or.inr c3)⟩
        · have t5 := t4 c3.1
          obtain ⟨r, b, hs⟩ := Ad_ex (d := d + 1) (by omega) hT t1 (fun b hb hb2 => ih (d + 1) b (by omega) hb (by omega))
          have hb := hs.2.1
          obtain ⟨o1, o2, o3⟩ := one_par (d := d) (by omega) hT ht c1 c3 hs
          obtain ⟨m1, m2, m3⟩ := sin_par (d := d) (by omega) hT c1 c3 hs
          by_cases q : Sgn T N b 41
          · cases r with
            | none => exact ⟨none, b, hs.1, by omega, trivial, o1 rfl, m1 rfl⟩
            | some v =>
              have o2' := o2 q
              have m2' := m2 q
              rw [if_neg (fun z => nomatch z)] at o2' m2'
              obtain ⟨u1, u2, u3, u4⟩ := tN_tok hs.1
              obtain ⟨p1, p2, p3⟩ := hs.2.2.1
              refine ⟨some v, tN T N b, u1, by omega, ⟨by omega, by omega, ?_⟩, o2', m2'⟩
              rw [show 2 * (10 - d) + 1 = 2 * (10 - (d + 1)) + 3 by omega]
              exact p3
          · exact ⟨none, b, hs.1, by omega, trivial, o3 q, m3 q⟩
      · exact leaf d a hd ht c1 c3
theorem Cond_ex (hT : Txt T N) (ht : Tok T N a) : ∃ r a', Ad T N 0 a r a' :=
  Ad_ex (by decide) hT ht (fun b hb _ => Sd_ex hT (N - b).toNat 0 b (by decide) hb (by omega))
end Cex
