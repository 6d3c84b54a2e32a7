/-! The reference's statement, whole. -/
section Sto
variable {n c : Nat} {A : aA} {D D' Z : aD} {T : Int → Int} {N a b k : Int} {r : Option (Option Itm)} {f : Int}
theorem Gok_Gf : ∀ (ws : List Atk) (b g : Int), Gok T N ws b → Gf T N ws b g → False
  | [], _, _, _, h => h
  | w :: ws, b, g, h, h2 => by
    rcases h2 with ⟨q, _⟩ | ⟨_, q⟩
    · exact q h.1
    · exact Gok_Gf ws _ g h.2 q
def Cwn (k : Int) (Z D' : aD) : Option Itm → Prop
  | none => D' 98 k = -1
  | some v => D' 98 k = Z 70 27 ∧ HN D' 23 (Z 70 27) (D' 70 27) v.1
def Cend (k i : Int) (Z D' : aD) (b f : Int) (w : Option Itm) : Prop := Z 70 27 ≤ D' 70 27 ∧ 25 * (D' 70 27 - Z 70 27) ≤ 21 * (f - b) + 8 ∧ (i = 0 ∨ i = 4 → Cwn k Z D' w)
/-- a statement of kind i, from b (behind its first word) on -/
def PSk (T : Int → Int) (N k i b : Int) (Z : aD) (x : Int) (D' : aD) (r : Option (Option Itm)) (f : Int) : Prop := (0 ≤ x ∧ x ≤ 1) ∧ Sfr k (Z 70 27) Z D' ∧ (∀ g, Gf T N (atm i) b g → x = 0 ∧ D' 70 30 = g) ∧ (Gok T N (atm i) b → (r = none → x = 0 ∧ D' 70 30 = f) ∧ ∀ w, r = some w → (¬ Sgn T N f 59 → x = 0 ∧ D' 70 30 = f) ∧ (Sgn T N f 59 → x = 1 ∧ Mst T N (tN T N f) D' ∧ Vm T N k i b D' ∧ Cend k i Z D' b f w))
def PSt (T : Int → Int) (N k a i : Int) (Z : aD) (x : Int) (D' : aD) (r : Option (Option Itm)) (f : Int) : Prop := (i = -1 ∧ (0 ≤ x ∧ x ≤ 1) ∧ Sfr k (Z 70 27) Z D' ∧ x = 0 ∧ D' 70 30 = a) ∨ (i ≠ -1 ∧ PSk T N k i (tN T N a) Z x D' r f)
theorem Cend_tr {i : Int} {Z' : aD} {w : Option Itm} (h : Cend k i Z' D' b f w) (e : Z' 70 27 = Z 70 27) : Cend k i Z D' b f w := by
  obtain ⟨h1, h2, h3⟩ := h
  rw [e] at h1 h2
  refine ⟨h1, h2, fun q => ?_⟩
  have := h3 q
  cases w with
  | none => exact this
  | some v => obtain ⟨x, y⟩ := this; rw [e] at x y; exact ⟨x, y⟩
theorem PSk_tr {i x : Int} {Z' : aD} (h : PSk T N k i b Z' x D' r f) (hs : Sfr k (Z 70 27) Z Z') (e : Z' 70 27 = Z 70 27) : PSk T N k i b Z x D' r f := by
  obtain ⟨h1, h2, h3, h4⟩ := h
  rw [e] at h2
  refine ⟨h1, hs.trans h2, h3, fun g => ⟨(h4 g).1, fun w q => ⟨((h4 g).2 w q).1, fun s => ?_⟩⟩⟩
  obtain ⟨y1, y2, y3, y4⟩ := ((h4 g).2 w q).2 s
  exact ⟨y1, y2, y3, Cend_tr y4 e⟩
theorem PSt_tr {i x : Int} {Z' : aD} (h : PSt T N k a i Z' x D' r f) (hs : Sfr k (Z 70 27) Z Z') (e : Z' 70 27 = Z 70 27) : PSt T N k a i Z x D' r f := by
  rcases h with ⟨h1, h2, h3, h4⟩ | ⟨h1, h2⟩
  · rw [e] at h3
    exact Or.inl ⟨h1, h2, hs.trans h3, h4⟩
  · exact Or.inr ⟨h1, PSk_tr h2 hs e⟩
theorem stm_fin {i y : Int} {E : aD} (hc : 5 ≤ c) (hT : Txt T N) (hb : Tok T N b) (hy : 0 ≤ y ∧ y ≤ 1) (hs : Sfr k (Z 70 27) Z E) (hl : Lpp T N k i b Z E y f r) (hr : Crk T N i (gN T N (atm i) b) r f) : ∃ x D', K_X12_statement_377 (n + 1) c A E y x D' ∧ PSk T N k i b Z x D' r f := by
  obtain ⟨l1, l2⟩ := hl
  have hg := (gN_tok (atm i) b hb).2
  by_cases d : y = 0
  · subst d
    refine ⟨0, E, stm_0 hc, ⟨by decide, by decide⟩, hs, l1, fun g => ?_⟩
    obtain ⟨_, m2⟩ := l2 g
    unfold CkM at m2
    by_cases q : i = 0 ∨ i = 4
    · rw [if_pos q] at m2
      cases r with
      | none => exact ⟨fun _ => m2, fun w h => (nomatch h)⟩
      | some o => cases o with
        | none => exact absurd m2.1 (by decide)
        | some v => exact absurd m2.1 (by decide)
    · rw [if_neg q] at m2; exact absurd m2.1 (by decide)
  · have hy1 : y = 1 := by omega
    subst hy1
    rcases G_ex (atm i) b with g | ⟨g, h⟩
    · obtain ⟨m1, m2⟩ := l2 g
      have key : r ≠ none ∧ Mst T N f E ∧ ∀ w, r = some w → Cend k i Z E b f w := by
        unfold CkM at m2
        unfold Crk at hr
        by_cases q : i = 0 ∨ i = 4
        · rw [if_pos q] at m2 hr
          cases r with
          | none => exact absurd m2.1 (by decide)
          | some o =>
            have hf : gN T N (atm i) b ≤ f := by
              rcases hr with ⟨_, _, h⟩ | ⟨_, s, h, _⟩
              · omega
              · have := h.2.1
                have := (tN_tok (gN_tok (atm i) b hb).1).2.1
                omega
            cases o with
            | none =>
              obtain ⟨d1, d2, d3, d4⟩ := m2
              refine ⟨by simp, d2, fun w h => ?_⟩
              have e : none = w := Option.some.inj h
              subst e
              exact ⟨by omega, by omega, fun _ => d3⟩
            | some v =>
              obtain ⟨d1, d2, d3, d4, d5, d6⟩ := m2
              refine ⟨by simp, d2, fun w h => ?_⟩
              have e : some v = w := Option.some.inj h
              subst e
              exact ⟨by omega, by omega, fun _ => ⟨d3, d4⟩⟩
        · rw [if_neg q] at m2 hr
          obtain ⟨d1, d2, d3⟩ := m2
          refine ⟨by rw [hr.1]; simp, d2, fun w h => ⟨by omega, by omega, fun g => absurd g q⟩⟩
      obtain ⟨k1, k2, k3⟩ := key
      obtain ⟨x, D', e1, e2, e3, e4, e5⟩ := stm_1 (n := n) (A := A) (c := c) hc hT k2
      have e27 : D' 70 27 = E 70 27 := e3.2 27 (by decide) (by decide) (by decide)
      refine ⟨x, D', e1, e2, hs.trans e3.sfr, fun g' h => (Gok_Gf _ _ _ g h).elim, fun _ => ⟨fun h => absurd h k1, fun w hw => ⟨e5, fun s => ?_⟩⟩⟩
      obtain ⟨s1, s2⟩ := e4 s
      refine ⟨s1, s2, ?_, ?_⟩
      · obtain ⟨v1, v2, v3, v4⟩ := m1
        unfold Vm
        rw [e3.1 94 (by decide), e3.1 95 (by decide), e3.1 96 (by decide), e3.1 97 (by decide)]
        exact ⟨v1, v2, v3, v4⟩
      · obtain ⟨c1, c2, c3⟩ := k3 w hw
        refine ⟨by omega, by omega, fun q => ?_⟩
        have := c3 q
        cases w with
        | none => show D' 98 k = -1; rw [e3.1 98 (by decide)]; exact this
        | some v =>
          obtain ⟨z1, z2⟩ := this
          refine ⟨by rw [e3.1 98 (by decide)]; exact z1, ?_⟩
          rw [e27]
          exact HN_x z2 (fun c q1 q2 q3 i i1 i2 => by rw [e3.1 c (by omega)]) (fun i i1 i2 => by rw [e3.1 101 (by decide)])
    · exact absurd (l1 g h).1 (by decide)
theorem link {P Q : aD → Int → aD → Prop} {i j : Int} (hT : Txt T N) (hm : Mst T N a Z) (h5 : Z 95 k = 0) (W : Int64) (w : List Int) (ws : List (List Int)) (hw : wlt w = true) (hW : W = Int64.ofNat (pw w)) (hi : i = if tK T N a = 1 then ixw T N a (w :: ws) j else -1) (hj : j ≠ -1)
    (hQ : ∀ Z' : aD, Mst T N a Z' → Z' 95 k = 0 → Z' 70 27 = Z 70 27 → Z' 70 30 = a → (i = if tK T N a = 1 then ixw T N a ws (j + 1) else -1) → ∃ x D', Q Z' x D' ∧ PSt T N k a i Z' x D' r f)
    (hP : ∀ Z' : aD, Mst T N (tN T N a) Z' → Z' 94 k = j → Z' 95 k = 0 → Z' 70 27 = Z 70 27 → i = j → ∃ x D', P Z' x D' ∧ PSk T N k j (tN T N a) Z' x D' r f) :
    ∃ x D', ((p_X12_takes Z W) ∧ (if w_tk Z W = 0 then Q (u_tk Z W) x D' else P (up (u_tk Z W) 94 k j) x D')) ∧ PSt T N k a i Z x D' r f := by
  have p := Mfl.p hT hm W
  rcases tk_s hT hm (ws := ws) (j := j) hw hW with ⟨e, q, m, g, x1⟩ | ⟨e, q, m, g, g', x1⟩
  · have e27 : (up (u_tk Z W) 94 k j) 70 27 = Z 70 27 := by rw [up_c (by decide), g.2 27 (by decide) (by decide) (by decide)]
    obtain ⟨x, D', y1, y2⟩ := hP (up (u_tk Z W) 94 k j) (Mst_cg m (up_cf (by decide)) (up_c (by decide)) (up_c (by decide))) up_eq (by rw [up_cf (by decide), g.1 95 (by decide)]; exact h5) e27 (by rw [hi, x1])
    refine ⟨x, D', ⟨p, by rw [e, if_neg (by decide)]; exact y1⟩, Or.inr ⟨by rw [hi, x1]; exact hj, ?_⟩⟩
    have z := PSk_tr y2 (g.sfr.ups ⟨by decide, by decide⟩) e27
    rw [hi, x1]; exact z
  · have e27 : (u_tk Z W) 70 27 = Z 70 27 := g.2 27 (by decide) (by decide) (by decide)
    obtain ⟨x, D', y1, y2⟩ := hQ (u_tk Z W) m (by rw [g.1 95 (by decide)]; exact h5) e27 g' (by rw [hi, x1])
    exact ⟨x, D', ⟨p, by rw [e, if_pos rfl]; exact y1⟩, PSt_tr y2 g.sfr e27⟩
def plL (n c : Nat) (A : aA) (Z : aD) (k x : Int) (D' : aD) : Prop := (p_X12_plain Z k) ∧ K_X12_statement_377 (n + 1) c A (u_X12_plain Z k) (v_X12_plain Z k) x D'
def feL (n c : Nat) (A : aA) (Z : aD) (k x : Int) (D' : aD) : Prop := ∃ x130 : Int, ∃ D131 : aD, (Ev (n + 1) c 166 [am_r (some 70), am_i (wz k)] A Z (ri x130) A D131 ∧ 0 ≤ x130 ∧ x130 ≤ 1) ∧ K_X12_statement_377 (n + 1) c A D131 x130 x D'
def agL (n c : Nat) (A : aA) (Z : aD) (k x : Int) (D' : aD) : Prop := (p_X12_ofPost Z k) ∧ K_X12_statement_377 (n + 1) c A (u_X12_ofPost Z k) (v_X12_ofPost Z k) x D'
def baL (n c : Nat) (A : aA) (Z : aD) (k x : Int) (D' : aD) : Prop := (p_X12_takes Z (109300298179432 : Int64)) ∧ K_X12_statement_377 (n + 1) c A (u_tk Z (109300298179432 : Int64)) (w_tk Z (109300298179432 : Int64)) x D'
def sT8 (n c : Nat) (A : aA) (k : Int) (Z : aD) (x : Int) (D' : aD) : Prop := (p_X12_takes (up Z 94 k 8) (448310438260 : Int64)) ∧ (if w_tk (up Z 94 k 8) (448310438260 : Int64) = 0 then K_X12_statement_377 (n + 1) c A (u_tk (up Z 94 k 8) (448310438260 : Int64)) 0 x D' else haL n c A (u_tk (up Z 94 k 8) (448310438260 : Int64)) k x D')
def sT7 (n c : Nat) (A : aA) (k : Int) (Z : aD) (x : Int) (D' : aD) : Prop := (p_X12_takes Z (6451064 : Int64)) ∧ (if w_tk Z (6451064 : Int64) = 0 then sT8 n c A k (u_tk Z (6451064 : Int64)) x D' else plL n c A (up (u_tk Z (6451064 : Int64)) 94 k 7) k x D')
def sT6 (n c : Nat) (A : aA) (k : Int) (Z : aD) (x : Int) (D' : aD) : Prop := (p_X12_takes Z (1937007984 : Int64)) ∧ (if w_tk Z (1937007984 : Int64) = 0 then sT7 n c A k (u_tk Z (1937007984 : Int64)) x D' else spL n c A (up (u_tk Z (1937007984 : Int64)) 94 k 6) k x D')
def sT5 (n c : Nat) (A : aA) (k : Int) (Z : aD) (x : Int) (D' : aD) : Prop := (p_X12_takes Z (6447474 : Int64)) ∧ (if w_tk Z (6447474 : Int64) = 0 then sT6 n c A k (u_tk Z (6447474 : Int64)) x D' else baL n c A (up (u_tk Z (6447474 : Int64)) 94 k 5) k x D')
def sT4 (n c : Nat) (A : aA) (k : Int) (Z : aD) (x : Int) (D' : aD) : Prop := (p_X12_takes Z (465557353332 : Int64)) ∧ (if w_tk Z (465557353332 : Int64) = 0 then sT5 n c A k (u_tk Z (465557353332 : Int64)) x D' else leL n c A (up (u_tk Z (465557353332 : Int64)) 94 k 4) k x D')
def sT3 (n c : Nat) (A : aA) (k : Int) (Z : aD) (x : Int) (D' : aD) : Prop := (p_X12_takes Z (6383461 : Int64)) ∧ (if w_tk Z (6383461 : Int64) = 0 then sT4 n c A k (u_tk Z (6383461 : Int64)) x D' else agL n c A (up (u_tk Z (6383461 : Int64)) 94 k 3) k x D')
def sT2 (n c : Nat) (A : aA) (k : Int) (Z : aD) (x : Int) (D' : aD) : Prop := (p_X12_takes Z (1650549611 : Int64)) ∧ (if w_tk Z (1650549611 : Int64) = 0 then sT3 n c A k (u_tk Z (1650549611 : Int64)) x D' else bkL n c A (up (u_tk Z (1650549611 : Int64)) 94 k 2) k x D')
def sT1 (n c : Nat) (A : aA) (k : Int) (Z : aD) (x : Int) (D' : aD) : Prop := (p_X12_takes Z (121424973488997 : Int64)) ∧ (if w_tk Z (121424973488997 : Int64) = 0 then sT2 n c A k (u_tk Z (121424973488997 : Int64)) x D' else plL n c A (up (u_tk Z (121424973488997 : Int64)) 94 k 1) k x D')
def sT0 (n c : Nat) (A : aA) (k : Int) (Z : aD) (x : Int) (D' : aD) : Prop := (p_X12_takes Z (6710629 : Int64)) ∧ (if w_tk Z (6710629 : Int64) = 0 then sT1 n c A k (u_tk Z (6710629 : Int64)) x D' else feL n c A (up (u_tk Z (6710629 : Int64)) 94 k 0) k x D')
theorem stm_all {i : Int} (hc : 38 ≤ c) (hT : Txt T N) (hk : 0 ≤ k ∧ k < 270) (hm : Mst T N a Z) (h5 : Z 95 k = 0) (h27 : 0 ≤ Z 70 27) (hp : 25 * Z 70 27 ≤ 104000 + 21 * a - 50) (hi : i = wix T N a 0) (hr : i ≠ -1 → Crk T N i (gN T N (atm i) (tN T N a)) r f) : ∃ x D', sT0 n c A k Z x D' ∧ PSt T N k a i Z x D' r f := by
  have ta := Mst_tok hT hm
  obtain ⟨tb, tb2, _, _⟩ := tN_tok ta
  have c5 : 5 ≤ c := by omega
  refine link (P := fun Z' x D' => feL n c A Z' k x D') (Q := sT1 n c A k) (j := 0) hT hm h5 6710629 [102, 101, 101] [[110, 111, 116, 105, 99, 101], [98, 97, 99, 107], [97, 103, 101], [108, 101, 97, 115, 116], [98, 97, 114], [115, 116, 101, 112], [98, 111, 120], [104, 97, 98, 105, 116]] (by decide) (by decide) hi (by decide) (fun Z1 m1 b1 d1 _ hi1 => ?_) (fun Z' m b4 b5 d e => ?_)
  rotate_left
  · obtain ⟨y, E, y1, y2, y3, y4⟩ := lf_f (n := n) (A := A) hT hk m b4 (by omega) (by omega) (by rw [← e]; exact hr (by omega))
    obtain ⟨x, D', z1, z2⟩ := stm_fin (n := n) (A := A) (c := c) c5 hT tb y1 y3 y4 (by rw [← e]; exact hr (by omega))
    exact ⟨x, D', ⟨y, E, ⟨Ev_le y2 hc, y1⟩, z1⟩, z2⟩
  refine link (P := fun Z' x D' => plL n c A Z' k x D') (Q := sT2 n c A k) (j := 0 + 1) hT m1 b1 121424973488997 [110, 111, 116, 105, 99, 101] [[98, 97, 99, 107], [97, 103, 101], [108, 101, 97, 115, 116], [98, 97, 114], [115, 116, 101, 112], [98, 111, 120], [104, 97, 98, 105, 116]] (by decide) (by decide) hi1 (by decide) (fun Z2 m2 b2 d2 _ hi2 => ?_) (fun Z' m b4 b5 d e => ?_)
  rotate_left
  · have e' : i = 1 := e
    obtain ⟨y1, y2⟩ := lf_p (i := 1) (by decide) hT hk m b4 b5 (by rw [← e']; exact hr (by omega))
    obtain ⟨s1, s2⟩ := plain_s hT m (k := k) (c0 := Z' 70 27)
    obtain ⟨x, D', z1, z2⟩ := stm_fin (n := n) (A := A) (c := c) c5 hT tb s2 s1 y2 (by rw [← e']; exact hr (by omega))
    exact ⟨x, D', ⟨y1, z1⟩, z2⟩
  refine link (P := fun Z' x D' => bkL n c A Z' k x D') (Q := sT3 n c A k) (j := 0 + 1 + 1) hT m2 b2 1650549611 [98, 97, 99, 107] [[97, 103, 101], [108, 101, 97, 115, 116], [98, 97, 114], [115, 116, 101, 112], [98, 111, 120], [104, 97, 98, 105, 116]] (by decide) (by decide) hi2 (by decide) (fun Z3 m3 b3 d3 _ hi3 => ?_) (fun Z' m b4 b5 d e => ?_)
  rotate_left
  · have e' : i = 2 := e
    obtain ⟨y, E, y1, y2, y3, y4⟩ := lf_b (n := n) (c := c) (A := A) hT hk m b4 b5 (by rw [← e']; exact hr (by omega))
    obtain ⟨x, D', z1, z2⟩ := stm_fin (n := n) (A := A) (c := c) c5 hT tb y1 y3 y4 (by rw [← e']; exact hr (by omega))
    exact ⟨x, D', y2 x D' z1, z2⟩
  refine link (P := fun Z' x D' => agL n c A Z' k x D') (Q := sT4 n c A k) (j := 0 + 1 + 1 + 1) hT m3 b3 6383461 [97, 103, 101] [[108, 101, 97, 115, 116], [98, 97, 114], [115, 116, 101, 112], [98, 111, 120], [104, 97, 98, 105, 116]] (by decide) (by decide) hi3 (by decide) (fun Z4 m4 b4 d4 _ hi4 => ?_) (fun Z' m b4 b5 d e => ?_)
  rotate_left
  · have e' : i = 3 := e
    have y2 := lf_a hT hk m b4 (by rw [← e']; exact hr (by omega))
    obtain ⟨p, s2, s1, _⟩ := ofp_m hT hk m (c0 := Z' 70 27)
    obtain ⟨x, D', z1, z2⟩ := stm_fin (n := n) (A := A) (c := c) c5 hT tb s2 s1 y2 (by rw [← e']; exact hr (by omega))
    exact ⟨x, D', ⟨p, z1⟩, z2⟩
  refine link (P := fun Z' x D' => leL n c A Z' k x D') (Q := sT5 n c A k) (j := 0 + 1 + 1 + 1 + 1) hT m4 b4 465557353332 [108, 101, 97, 115, 116] [[98, 97, 114], [115, 116, 101, 112], [98, 111, 120], [104, 97, 98, 105, 116]] (by decide) (by decide) hi4 (by decide) (fun Z5 m5 b5 d5 _ hi5 => ?_) (fun Z' m b4 b5 d e => ?_)
  rotate_left
  · have e' : i = 4 := e
    obtain ⟨y, E, y1, y2, y3, y4⟩ := lf_l (n := n) (c := c) (A := A) (by omega) hT hk m b4 (by omega) (by omega) (by rw [← e']; exact hr (by omega))
    obtain ⟨x, D', z1, z2⟩ := stm_fin (n := n) (A := A) (c := c) c5 hT tb y1 y3 y4 (by rw [← e']; exact hr (by omega))
    exact ⟨x, D', y2 x D' z1, z2⟩
  refine link (P := fun Z' x D' => baL n c A Z' k x D') (Q := sT6 n c A k) (j := 0 + 1 + 1 + 1 + 1 + 1) hT m5 b5 6447474 [98, 97, 114] [[115, 116, 101, 112], [98, 111, 120], [104, 97, 98, 105, 116]] (by decide) (by decide) hi5 (by decide) (fun Z6 m6 b6 d6 _ hi6 => ?_) (fun Z' m b4 b5 d e => ?_)
  rotate_left
  · have e' : i = 5 := e
    obtain ⟨p, y1, y3, y4⟩ := lf_c hT m b4 b5 (by rw [← e']; exact hr (by omega))
    obtain ⟨x, D', z1, z2⟩ := stm_fin (n := n) (A := A) (c := c) c5 hT tb y1 y3 y4 (by rw [← e']; exact hr (by omega))
    exact ⟨x, D', ⟨p, z1⟩, z2⟩
  refine link (P := fun Z' x D' => spL n c A Z' k x D') (Q := sT7 n c A k) (j := 0 + 1 + 1 + 1 + 1 + 1 + 1) hT m6 b6 1937007984 [115, 116, 101, 112] [[98, 111, 120], [104, 97, 98, 105, 116]] (by decide) (by decide) hi6 (by decide) (fun Z7 m7 b7 d7 _ hi7 => ?_) (fun Z' m b4 b5 d e => ?_)
  rotate_left
  · have e' : i = 6 := e
    obtain ⟨y, E, y1, y2, y3, y4⟩ := lf_s (n := n) (c := c) (A := A) hT hk m b4 (by rw [← e']; exact hr (by omega))
    obtain ⟨x, D', z1, z2⟩ := stm_fin (n := n) (A := A) (c := c) c5 hT tb y1 y3 y4 (by rw [← e']; exact hr (by omega))
    exact ⟨x, D', y2 x D' z1, z2⟩
  refine link (P := fun Z' x D' => plL n c A Z' k x D') (Q := sT8 n c A k) (j := 0 + 1 + 1 + 1 + 1 + 1 + 1 + 1) hT m7 b7 6451064 [98, 111, 120] [[104, 97, 98, 105, 116]] (by decide) (by decide) hi7 (by decide) (fun Z8 m8 b8 d8 a8 hi8 => ?_) (fun Z' m b4 b5 d e => ?_)
  rotate_left
  · have e' : i = 7 := e
    obtain ⟨y1, y2⟩ := lf_p (i := 7) (by decide) hT hk m b4 b5 (by rw [← e']; exact hr (by omega))
    obtain ⟨s1, s2⟩ := plain_s hT m (k := k) (c0 := Z' 70 27)
    obtain ⟨x, D', z1, z2⟩ := stm_fin (n := n) (A := A) (c := c) c5 hT tb s2 s1 y2 (by rw [← e']; exact hr (by omega))
    exact ⟨x, D', ⟨y1, z1⟩, z2⟩
  have m9 : Mst T N a (up Z8 94 k 8) := Mst_cg m8 (up_cf (by decide)) (up_c (by decide)) (up_c (by decide))
  have f9 : Sfr k (Z8 70 27) Z8 (up Z8 94 k 8) := (Sfr.refl _ _ _).ups ⟨by decide, by decide⟩
  have d9 : (up Z8 94 k 8) 70 27 = Z8 70 27 := up_c (by decide)
  have p9 := Mfl.p hT m9 448310438260
  rcases tk_s hT m9 (l := 448310438260) (w := [104, 97, 98, 105, 116]) (ws := []) (j := 8) (by decide) (by decide) with ⟨e, q, m, g, x1⟩ | ⟨e, q, m, g, g', x1⟩
  · have e' : i = 8 := by rw [hi8]; exact x1
    obtain ⟨y1, y2⟩ := lf_p (i := 8) (by decide) hT hk m (by rw [g.1 94 (by decide), up_eq]) (by rw [g.1 95 (by decide), up_cf (by decide)]; exact b8) (by rw [← e']; exact hr (by omega))
    obtain ⟨s1, s2⟩ := plain_s hT m (k := k) (c0 := (u_tk (up Z8 94 k 8) 448310438260) 70 27)
    obtain ⟨x, D', z1, z2⟩ := stm_fin (n := n) (A := A) (c := c) c5 hT tb s2 s1 y2 (by rw [← e']; exact hr (by omega))
    refine ⟨x, D', ⟨p9, ?_⟩, Or.inr ⟨by omega, ?_⟩⟩
    · rw [e, if_neg (by decide)]; exact haL_i y1 s2 z1
    · rw [e']
      exact PSk_tr z2 (f9.trans g.sfr) (by rw [g.2 27 (by decide) (by decide) (by decide), d9])
  · have e' : i = -1 := by rw [hi8]; refine Eq.trans x1 ?_; split <;> rfl
    refine ⟨0, _, ⟨p9, ?_⟩, Or.inl ⟨e', ⟨by decide, by decide⟩, f9.trans g.sfr, rfl, g'⟩⟩
    rw [e, if_pos rfl]; exact stm_0 c5
theorem stm_m {i : Int} (hT : Txt T N) (hk : 0 ≤ k ∧ k < 270) (hm : Mst T N a D) (h27 : 0 ≤ D 70 27) (hp : 25 * D 70 27 ≤ 104000 + 21 * a - 50) (hi : i = wix T N a 0) (hr : i ≠ -1 → Crk T N i (gN T N (atm i) (tN T N a)) r f) : ∃ x D', Ev (n + 1) 39 169 [am_r (some 70), am_i (wz k)] A D (ri x) A D' ∧ PSt T N k a i D x D' r f := by
  have m0 : Mst T N a (up D 95 k 0) := Mst_cg hm (up_cf (by decide)) (up_c (by decide)) (up_c (by decide))
  have e0 : (up D 95 k 0) 70 27 = D 70 27 := up_c (by decide)
  obtain ⟨x, D', y1, y2⟩ := stm_all (n := n) (A := A) (c := 38) (Z := up D 95 k 0) (by omega) hT hk m0 up_eq (by omega) (by omega) hi hr
  exact ⟨x, D', rl_X12_statement (n := n) (A := A) (c := 38) (by omega) k (rgb (by omega) (by omega)) ⟨hk, y1⟩, PSt_tr y2 ((Sfr.refl _ _ D).ups ⟨by decide, by decide⟩) e0⟩
end Sto
