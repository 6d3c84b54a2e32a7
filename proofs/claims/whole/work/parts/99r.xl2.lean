/-! The class's loop over statements. -/
section Xl2
variable {n : Nat} {A A' : aA} {D D' E D0 : aD} {T : Int → Int} {N a b e g k : Int} {s f : Nat → Int} {w : Nat → Option Itm} {M : Nat} {o : Option Int}
theorem addD_m {l : Int} (h : ∀ k, D 901 k = 1 → D 900 k = 1 ∧ 0 < D 1100 k) : D 950 0 ≤ addD D l 950 0 ∧ D 951 0 ≤ addD D l 951 0 := by
  unfold addD; split
  · rw [addX_h.1, addX_h.2]
    refine ⟨by omega, ?_⟩
    unfold addC; split
    · rename_i q; have := (h l q).2; omega
    · omega
  · rw [addM_o 950 0 (by omega), addM_o 951 0 (by omega)]; exact ⟨Int.le_refl _, Int.le_refl _⟩
def sqn : Nat → Int
  | 0 => 0
  | j + 1 => sqn j + 16 + 2 * j
/-- the cells and slots that j statements take -/
def Rmj (s : Nat → Int) (j : Nat) (D0 D : aD) : Prop := (D0 950 0 ≤ D 950 0 ∧ D 950 0 ≤ D0 950 0 + 3 * j) ∧ (D0 951 0 ≤ D 951 0 ∧ D 951 0 ≤ D0 951 0 + sqn j + (s j - s 0))
/-- j statements stand in book k -/
def CL (T : Int → Int) (N : Int) (s : Nat → Int) (w : Nat → Option Itm) (k : Int) (D0 : aD) (j : Nat) (D : aD) : Prop :=
  Xst T N (s j) D ∧ D 1002 (8 + k) = j ∧ (∀ l, D 901 l = 1 → D 900 l = 1 ∧ 0 < D 1100 l) ∧ LF k D0 D ∧ Rmj s j D0 D ∧ (∀ p, p < j → Xw T N (kd T N (s p)) (tN T N (s p)) (64 * k + p) D ∧ XCd (64 * k + p) D (w p) ∧ D 916 (64 * k + p) = 1) ∧ HX T N s k j D ∧ ∀ i, 64 * k + j ≤ i → D 916 i = D0 916 i
/-- what holds as the loop begins -/
def CL0 (k : Int) (D0 : aD) : Prop := (0 ≤ k ∧ k < 8) ∧ D0 914 k = 1 ∧ D0 900 (8 + k) = 1 ∧ D0 3300 k = 6 ∧ (∀ i, 64 * k ≤ i → D0 916 i ≠ 1) ∧ (D0 950 0 ≤ 200000000 ∧ D0 951 0 ≤ 200000000)
theorem CL_pr {j : Nat} (hj : j < 30) (h0 : CL0 k D0) (h : CL T N s w k D0 j D) (hs : s j - s 0 ≤ 700) (hq : sqn j ≤ 2000) : Xpr k (64 * k + j) D := by
  obtain ⟨a1, a2, a3, a4, a5, a6⟩ := h0
  obtain ⟨c1, c2, c3, c4, c5, c6, c7, c8⟩ := h
  obtain ⟨⟨r1, r2⟩, r3, r4⟩ := c5
  refine ⟨a1.1, ?_, fun l hl => (c3 l hl).1, ?_, by rw [c2], by omega, fun q => (c3 _ q).2, ⟨by omega, by omega⟩, ?_⟩
  · rw [c4.1 914 (by decide) (by decide) (by decide) (by decide) (by decide) (by decide) (by decide) (by decide) (by decide) (by decide) (by decide) (by decide) (by decide) (by decide) (by decide)]; exact a2
  · rw [c8 _ (Int.le_refl _)]; exact a5 _ (by omega)
  · rw [c4.1 3300 (by decide) (by decide) (by decide) (by decide) (by decide) (by decide) (by decide) (by decide) (by decide) (by decide) (by decide) (by decide) (by decide) (by decide) (by decide)]; exact a4
theorem Xw_cg {i : Int} (h : Xw T N i b e D) (hc : ∀ c, 2600 ≤ c → c ≤ 2605 → E c e = D c e) : Xw T N i b e E := by
  unfold Xw
  rw [hc 2600 (by decide) (by decide), hc 2601 (by decide) (by decide), hc 2602 (by decide) (by decide), hc 2603 (by decide) (by decide), hc 2604 (by decide) (by decide)]
  exact h
theorem XCd_cg {v : Option Itm} (h : XCd e D v) (hc : E 2605 e = D 2605 e) (h2 : E 3200 e = D 3200 e) (h3 : ∀ j, 1024 * e ≤ j → j < 1024 * e + 1024 → E 3201 j = D 3201 j) (hl : ∀ x, v = some x → x.2.length ≤ 1024) : XCd e E v := by
  cases v with
  | none => show E 2605 e = 0; rw [hc]; exact h
  | some x =>
    obtain ⟨y1, y2, y3⟩ := h
    have := hl x rfl
    exact ⟨by rw [hc]; exact y1, by rw [h2]; exact y2, fun q hq => by rw [h3 _ (by omega) (by omega)]; exact y3 q hq⟩
theorem StOk_len {v : Itm} {f : Int} (hT : Txt T N) (ta : Tok T N a) (h : StOk T N a (some v) f) : v.2.length ≤ 700 := by
  obtain ⟨_, _, h3, _⟩ := h
  obtain ⟨tb, t2, _⟩ := tN_tok ta
  obtain ⟨tg, t3⟩ := gN_tok (T := T) (N := N) (atm (kd T N a)) (tN T N a) tb
  unfold Crk at h3
  split at h3
  · rcases h3 with ⟨_, h, _⟩ | ⟨_, q, h, h4⟩
    · exact (nomatch (Option.some.inj h))
    · cases q with
      | none => exact (nomatch h4)
      | some v' =>
        have e : some v = some v' := Option.some.inj h4
        have e2 : v = v' := Option.some.inj e
        subst e2
        obtain ⟨x1, _, ⟨_, x2, _⟩, _⟩ := h
        have := x1.1
        have := hT.1
        have := (tN_tok tg).1.1
        omega
  · exact (nomatch (Option.some.inj h3.1))
theorem cl_step {j : Nat} (hj : j < 30) (hT : Txt T N) (ta : Tok T N (s j)) (h0 : CL0 k D0) (h : CL T N s w k D0 j D) (hs : s j - s 0 ≤ 700) (hq : sqn j ≤ 2000) (hl : ∀ p x, p ≤ j → w p = some x → x.2.length ≤ 1024) (hst : StOk T N (s j) (w j) (f j)) (hn : s (j + 1) = tN T N (f j)) : ∃ A' D', Ev (n + 1) 29 43 [am_r (some 47), am_r (some (A 14 k))] A D rv A' D' ∧ A' 14 k = A 14 k ∧ CL T N s w k D0 (j + 1) D' := by
  obtain ⟨A1, E, e1, e2, e3, e4, e5, e6, e7, e8⟩ := xst_ok (n := n) (A := A) hT ta h.1 (CL_pr hj h0 h hs hq) hst
  obtain ⟨c1, c2, c3, c4, c5, c6, c7, c8⟩ := h
  obtain ⟨a1, a2, a3, a4, a5, a6⟩ := h0
  obtain ⟨t1, t2, t3, t4⟩ := StOk_tok hT ta hst
  have hof : E 2600 (64 * k + j) = 3 → 0 ≤ E 2601 (64 * k + j) ∧ E 2601 (64 * k + j) < 6 := by
    intro q
    have k3 : kd T N (s j) = 3 := by rw [← e7.1]; exact q
    rw [e7.2.1]
    have hg := hst.2.1
    rw [k3] at hg ⊢
    have hgw : wix T N (tN T N (s j)) 3 ≠ -1 := hg.1
    exact (wix_b (T := T) (N := N) (a := tN T N (s j)) 3).resolve_left hgw
  have lfE : LF k D E := e3.lf ⟨by omega, by omega⟩
  have s1002 : E 1002 (8 + k) = j := by
    rw [e3.1 1002 (by decide) (by decide) (by decide) (by decide) (by decide) (by decide) (by decide) (by decide) (by decide)]; exact c2
  have hE9 : ∀ l, E 901 l = 1 → E 900 l = 1 ∧ 0 < E 1100 l := by
    intro l
    rw [e3.1 901 (by decide) (by decide) (by decide) (by decide) (by decide) (by decide) (by decide) (by decide) (by decide), e3.1 900 (by decide) (by decide) (by decide) (by decide) (by decide) (by decide) (by decide) (by decide) (by decide), e3.1 1100 (by decide) (by decide) (by decide) (by decide) (by decide) (by decide) (by decide) (by decide) (by decide)]
    exact c3 l
  have f900 : E 900 (8 + k) = 1 := by
    rw [e3.1 900 (by decide) (by decide) (by decide) (by decide) (by decide) (by decide) (by decide) (by decide) (by decide), c4.1 900 (by decide) (by decide) (by decide) (by decide) (by decide) (by decide) (by decide) (by decide) (by decide) (by decide) (by decide) (by decide) (by decide) (by decide) (by decide)]; exact a3
  have hX0 : HX T N s k j E := HX_cg c7 (fun c q1 q2 => e3.1 c (by omega) (by omega) (by omega) (by omega) (by omega) (by omega) (by omega) (by omega) (by omega)) (e3.1 3301 (by decide) (by decide) (by decide) (by decide) (by decide) (by decide) (by decide) (by decide) (by decide))
  have hX1 : HX T N s k j (addD E (8 + k)) := HX_cg hX0 (fun c q1 q2 => addD_f ⟨by omega, by omega, by omega, by omega, by omega, by omega⟩) (addD_f (by decide))
  have hxw : Xw T N (kd T N (s j)) (tN T N (s j)) (64 * k + j) (addD E (8 + k)) := Xw_cg e7 (fun c q1 q2 => by rw [addD_f ⟨by omega, by omega, by omega, by omega, by omega, by omega⟩])
  have hXf := HX_s (k := k) hX1 hxw
  have lfF : LF k D0 (adF (addD E (8 + k)) k (64 * k + j)) := ((c4.trans lfE).trans LF_add).trans (LF_adF (by rw [addD_f (by decide), addD_f (by decide)]; exact hof))
  have fin : ∀ c, c ≠ 1000 → c ≠ 1002 → c ≠ 901 → c ≠ 1100 → c ≠ 950 → c ≠ 951 → (c < 2406 ∨ 2411 < c) → c ≠ 3301 → adF (addD E (8 + k)) k (64 * k + j) c = E c := fun c q1 q2 q3 q4 q5 q6 q7 q8 => by
    rw [adF_f ⟨q7, q8⟩, addD_f ⟨q1, q2, q3, q4, q5, q6⟩]
  refine ⟨_, _, e1, ?_, ?_, ?_, ?_, lfF, ?_, fun p hp => ?_, hXf, fun i hi => ?_⟩
  · rw [addA_n (by decide)]; exact e2 14 k (by omega) (by omega)
  · rw [hn]
    exact Xst_cg e6 (fin 48 (by decide) (by decide) (by decide) (by decide) (by decide) (by decide) (by decide) (by decide)) (fun i _ _ _ => by rw [fin 47 (by decide) (by decide) (by decide) (by decide) (by decide) (by decide) (by decide) (by decide)])
  · rw [adF_f (by decide), addD_z, if_pos rfl, s1002]; omega
  · rw [adF_f (by decide), adF_f (by decide), adF_f (by decide)]
    exact addD_hp hE9 f900
  · have ah := addD_h (D := E) (l := 8 + k) (by omega)
    have ah0 := addD_m (D := E) (l := 8 + k) hE9
    obtain ⟨⟨r1, r2⟩, r3, r4⟩ := c5
    obtain ⟨⟨m1, m2⟩, m3, m4⟩ := e4
    unfold Rmj
    rw [adF_f (by decide), adF_f (by decide)]
    have hsq : sqn (j + 1) = sqn j + 16 + 2 * j := rfl
    rw [hsq, hn]
    refine ⟨⟨by omega, by omega⟩, by omega, by omega⟩
  · by_cases z : p = j
    · subst z
      refine ⟨Xw_cg e7 (fun c q1 q2 => by rw [fin c (by omega) (by omega) (by omega) (by omega) (by omega) (by omega) (by omega) (by omega)]), XCd_cg e8 (by rw [fin 2605 (by decide) (by decide) (by decide) (by decide) (by decide) (by decide) (by decide) (by decide)]) (by rw [fin 3200 (by decide) (by decide) (by decide) (by decide) (by decide) (by decide) (by decide) (by decide)]) (fun i _ _ => by rw [fin 3201 (by decide) (by decide) (by decide) (by decide) (by decide) (by decide) (by decide) (by decide)]) (fun x hx => hl p x (Nat.le_refl _) hx), by rw [fin 916 (by decide) (by decide) (by decide) (by decide) (by decide) (by decide) (by decide) (by decide)]; exact e5⟩
    · obtain ⟨y1, y2, y3⟩ := c6 p (by omega)
      have hne : (64 * k + p : Int) ≠ 64 * k + j := by omega
      refine ⟨Xw_cg y1 (fun c q1 q2 => by rw [fin c (by omega) (by omega) (by omega) (by omega) (by omega) (by omega) (by omega) (by omega)]; exact e3.2.1 c q1 q2 _ hne), XCd_cg y2 (by rw [fin 2605 (by decide) (by decide) (by decide) (by decide) (by decide) (by decide) (by decide) (by decide)]; exact e3.2.1 2605 (by decide) (by decide) _ hne) (by rw [fin 3200 (by decide) (by decide) (by decide) (by decide) (by decide) (by decide) (by decide) (by decide)]; exact (e3.2.2.1 _ hne).2.2) (fun i i1 i2 => by rw [fin 3201 (by decide) (by decide) (by decide) (by decide) (by decide) (by decide) (by decide) (by decide)]; exact e3.2.2.2.1 i (by omega)) (fun x hx => hl p x (by omega) hx), ?_⟩
      rw [fin 916 (by decide) (by decide) (by decide) (by decide) (by decide) (by decide) (by decide) (by decide), (e3.2.2.1 _ hne).1]; exact y3
  · rw [fin 916 (by decide) (by decide) (by decide) (by decide) (by decide) (by decide) (by decide) (by decide), (e3.2.2.1 i (by omega)).1]
    exact c8 i (by omega)
end Xl2
