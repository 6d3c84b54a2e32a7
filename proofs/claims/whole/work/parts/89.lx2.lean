/-! Numbers, signs and words of a text: both readers take them alike. -/
section Lx2
variable {n : Nat} {A : aA} {D D' : aD} {T : Int → Int} {N a : Int}
/-- a number of at most four digits, at most m -/
def Nm (T : Int → Int) (N a m : Int) : Prop := tK T N a = 2 ∧ tE T N a - a ≤ 4 ∧ nv T a (tE T N a) ≤ m
def Sgn (T : Int → Int) (N a c : Int) : Prop := a < N ∧ T a = c
theorem Nm_b {m : Int} (h : Nm T N a m) (h1 : a ≤ N) : 0 ≤ nv T a (tE T N a) ∧ nv T a (tE T N a) ≤ 9999 ∧ nv T a (tE T N a) ≤ m := by
  have e := tE_b (T := T) h1
  have := nv_b (T := T) (a := a) (e := tE T N a) e.1 (by have := h.2.1; omega) (tE_dig h.1)
  exact ⟨this.1, this.2, h.2.2⟩
theorem Sgn_e {c : Int} (h : Sgn T N a c) (hc : kc c = 3) : tE T N a = a + 1 ∧ tK T N a = 3 := by
  obtain ⟨h1, h2⟩ := h
  unfold tE tK
  rw [if_pos h1, if_pos h1, h2, hc, if_neg (by decide)]
  exact ⟨rfl, rfl⟩
theorem num_x (ht : Tok T N a) (h : Xst T N a D) (m : Int) : (Nm T N a m → w_num D m = nv T a (tE T N a) ∧ u_num D m = u_adv D) ∧ (¬ Nm T N a m → w_num D m = -1 ∧ u_num D m = u_X6_refuse D) := by
  obtain ⟨x1, x2, x3, x4, x5, x6⟩ := h
  have e : isN D m ↔ Nm T N a m := by
    unfold isN Nm
    rw [x1, x4, x5, x6]
    exact ⟨fun q => q.2, fun q => ⟨x3, q⟩⟩
  unfold w_num u_num
  constructor
  · intro q
    rw [if_pos (e.mpr q), if_pos (e.mpr q), x1, x4, x6]
    exact ⟨rfl, rfl⟩
  · intro q
    have : ¬ isN D m := fun z => q (e.mp z)
    rw [if_neg this, if_neg this]
    exact ⟨rfl, rfl⟩
theorem num_f (h : D 47 3 ≠ -1) (m : Int) : w_num D m = -1 ∧ u_num D m = D := by
  have : ¬ isN D m := fun z => h z.1
  unfold w_num u_num
  rw [if_neg this, if_neg this]
  exact ⟨rfl, ref_no h⟩
theorem isg_x (h : Xst T N a D) {c : Int} (hc : kc c = 3) : (Sgn T N a c → v_X6_isSign D c = 1) ∧ (¬ Sgn T N a c → v_X6_isSign D c = 0) := by
  obtain ⟨x1, x2, x3, x4, x5, x6⟩ := h
  unfold v_X6_isSign
  rw [x5, x1, x4]
  constructor
  · intro q
    rw [if_pos (Sgn_e q hc).2, if_pos q.2]
  · intro q
    by_cases g : tK T N a = 3
    · rw [if_pos g]
      have ha : a < N := by
        unfold tK at g
        by_cases z : a < N
        · exact z
        · rw [if_neg z] at g; omega
      rw [if_neg (fun z => q ⟨ha, z⟩)]
    · rw [if_neg g]
theorem isg_p (hT : Txt T N) (ht : Tok T N a) (h : Xst T N a D) (c : Int) : p_X6_isSign D c := by
  obtain ⟨x1, x2, x3, x4, x5, x6⟩ := h
  unfold p_X6_isSign
  have := hT.1
  have := ht.1
  by_cases g : D 47 6 = 3
  · rw [if_pos g]
    have ha : a < N := by
      rw [x5] at g
      unfold tK at g
      by_cases z : a < N
      · exact z
      · rw [if_neg z] at g; omega
    exact ⟨by omega, by omega⟩
  · rw [if_neg g]; trivial
theorem tsg_x (hT : Txt T N) (ht : Tok T N a) (h : Xst T N a D) {c : Int} (hc : kc c = 3) : p_X6_takeSign D c ∧ (Sgn T N a c → u_X6_takeSign D c = u_adv D) ∧ (¬ Sgn T N a c → u_X6_takeSign D c = u_X6_refuse D) := by
  have hp := isg_p hT ht h c
  have hs := isg_x h hc
  have ha := Xst_pa hT ht h
  have x3 : D 47 3 = -1 := h.2.2.1
  unfold p_X6_takeSign u_X6_takeSign
  rw [if_pos x3, if_pos x3]
  refine ⟨⟨hp, by
    split
    · trivial
    · exact ha⟩, fun q => ?_, fun q => ?_⟩
  · rw [hs.1 q, if_neg (by decide)]
  · rw [hs.2 q, if_pos rfl]
theorem tsg_f (h : D 47 3 ≠ -1) (c : Int) : p_X6_takeSign D c ∧ u_X6_takeSign D c = D := by
  unfold p_X6_takeSign u_X6_takeSign
  rw [if_neg h, if_neg h]
  exact ⟨trivial, ref_no h⟩
/-- which of a list's words begins at a -/
def wix (T : Int → Int) (N a : Int) (k : Nat) : Int := if tK T N a = 1 then ixw T N a (wds k) 0 else -1
def wok (k : Nat) : Bool := decide (sts.getD k [] = jn (wds k)) && ((wds k).all (fun v => v.all (fun c => decide (c ≠ 32))) && decide ((wds k).length ≠ 0))
theorem ix_y (h : Xst T N a D) {k : Nat} (hk : wok k = true) : w_ix D k = ixw T N a (wds k) 0 := by
  unfold wok at hk
  simp only [Bool.and_eq_true, decide_eq_true_eq, List.all_eq_true] at hk
  obtain ⟨k1, k2, k3⟩ := hk
  generalize hw : wds k = W at *
  cases W with
  | nil => exact absurd rfl k3
  | cons w ws => rw [ix_x h hw k1 k2, hw]
theorem tw_x (hT : Txt T N) (ht : Tok T N a) (h : Xst T N a D) {k : Nat} (hk : wok k = true) : p_X6_takeWord D k ∧ (wix T N a k ≠ -1 → v_X6_takeWord D k = wix T N a k ∧ u_X6_takeWord D k = u_adv D) ∧ (wix T N a k = -1 → v_X6_takeWord D k = -1 ∧ u_X6_takeWord D k = u_X6_refuse D) := by
  have e := ix_y h hk
  have ha := Xst_pa hT ht h
  have hi := Xst_pi hT ht h k
  have x3 : D 47 3 = -1 := h.2.2.1
  have x5 : D 47 6 = tK T N a := h.2.2.2.2.1
  unfold p_X6_takeWord v_X6_takeWord u_X6_takeWord wix
  rw [if_pos x3, if_pos x3, if_pos x3, x5, e]
  by_cases g : tK T N a = 1
  · simp only [if_pos g]
    refine ⟨⟨hi, by
    split
    · trivial
    · exact ha⟩, fun q => ?_, fun q => ?_⟩
    · rw [if_neg q, if_neg q]; exact ⟨rfl, rfl⟩
    · rw [if_pos q, if_pos q]; exact ⟨q, rfl⟩
  · simp only [if_neg g]
    exact ⟨trivial, fun q => absurd rfl q, fun _ => ⟨trivial, trivial⟩⟩
theorem tw_f (h : D 47 3 ≠ -1) (k : Nat) : p_X6_takeWord D k ∧ v_X6_takeWord D k = -1 ∧ u_X6_takeWord D k = D := by
  unfold p_X6_takeWord v_X6_takeWord u_X6_takeWord
  rw [if_neg h, if_neg h, if_neg h]
  exact ⟨trivial, rfl, ref_no h⟩
theorem ixw_s {w : List Int} {ws : List (List Int)} {j : Int} (h : tK T N a = 1) : (Wd T N a w → ixw T N a (w :: ws) j = j) ∧ (¬ Wd T N a w → ixw T N a (w :: ws) j = ixw T N a ws (j + 1)) :=
  ⟨fun q => if_pos q.2, fun q => if_neg (fun z => q ⟨h, z⟩)⟩
theorem isw_x (hT : Txt T N) (ht : Tok T N a) (h : Xst T N a D) {k : Nat} {w : List Int} (hk : wok k = true) (hw : wds k = [w]) : p_X6_isWord D k ∧ (Wd T N a w → v_X6_isWord D k = 1) ∧ (¬ Wd T N a w → v_X6_isWord D k = 0) := by
  have e := ix_y h hk
  have hi := Xst_pi hT ht h k
  have x5 : D 47 6 = tK T N a := h.2.2.2.2.1
  unfold p_X6_isWord v_X6_isWord
  rw [x5, e, hw]
  by_cases g : tK T N a = 1
  · have := ixw_s (w := w) (ws := []) (j := 0) g
    simp only [if_pos g]
    refine ⟨hi, fun q => ?_, fun q => ?_⟩
    · rw [this.1 q, if_pos rfl]
    · rw [this.2 q, if_neg (by show ¬ (-1 : Int) = 0; decide)]
  · simp only [if_neg g]
    exact ⟨trivial, fun q => absurd q.1 g, fun _ => trivial⟩
/-- the sign that compares -/
def cix (T : Int → Int) (N a : Int) : Int := if a < N then w_cmp (T a) else -1
theorem mn_m (hT : Txt T N) (h : Mst T N a D) (m : Int) : p_mnum D m ∧ (Nm T N a m → w_mn D m = 1 ∧ Mst T N (tN T N a) (u_mn D m) ∧ Mfl D (u_mn D m) ∧ (u_mn D m) 70 50 = nv T a (tE T N a)) ∧ (¬ Nm T N a m → w_mn D m = 0 ∧ Mst T N a (u_mn D m) ∧ Mfl D (u_mn D m) ∧ (u_mn D m) 70 30 = a) := by
  have ht := Mst_tok hT h
  have en : aNow D = a := Mst_now h
  have ed : dEnd D = rn (ofP T 2) N a := by
    unfold dEnd
    rw [Mst_now h, h.2.1, of_T h.1 ht.1.1]
  obtain ⟨b1, b2, b3⟩ := blk_m hT h
  have hr := rn_b (p := ofP T 2) ht.1.2
  have erd : rdv (D 107) a (rn (ofP T 2) N a) = rdv T a (rn (ofP T 2) N a) := by
    have key : ∀ k : Nat, a + k ≤ N → nvF (D 107) a k = nvF T a k := by
      intro k
      induction k with
      | zero => intro _; rfl
      | succ k ih =>
        intro hk
        show 10 * nvF (D 107) a k + D 107 (a + k) - 48 = 10 * nvF T a k + T (a + k) - 48
        rw [ih (by omega), h.1 (a + k) (by have := ht.1.1; omega) (by omega)]
    unfold rdv
    exact key _ (by split <;> omega)
  rw [w_mn_eq, u_mn_eq]
  unfold w_mnum u_mnum
  have hiff : isM D m ↔ Nm T N a m := by
    unfold isM Nm
    rw [en, ed, erd]
    by_cases g : tK T N a = 2
    · obtain ⟨g1, g2⟩ := tE_dg2 g
      rw [← g1]
      have eb := tE_b (T := T) ht.1.2
      constructor
      · rintro ⟨q1, q2, q3⟩
        unfold rdv at q3
        rw [if_pos q2] at q3
        exact ⟨g, q2, q3⟩
      · rintro ⟨q1, q2, q3⟩
        refine ⟨by have := eb.2.2 g2; omega, q2, ?_⟩
        unfold rdv
        rw [if_pos q2]
        exact q3
    · rw [nodig g ht.1.2]
      exact ⟨fun q => absurd rfl q.1, fun q => absurd q.1 g⟩
  refine ⟨Mst_p hT h, fun q => ?_, fun q => ?_⟩
  · rw [if_pos (hiff.mpr q), if_pos (hiff.mpr q), en, ed, erd]
    obtain ⟨g1, g2⟩ := tE_dg2 q.1
    have eb := tE_b (T := T) ht.1.2
    have hf : Mfl D (up (up (u_blk D) 70 50 (rdv T a (rn (ofP T 2) N a))) 70 30 (rn (ofP T 2) N a)) := (b2.up (Or.inr (Or.inr rfl))).up (Or.inl rfl)
    have := Mst_of (b := tE T N a) h hf (by rw [up_eq, g1]) (by have := ht.1.1; omega) eb.2.1
    refine ⟨rfl, this, hf, ?_⟩
    rw [up_i (by decide), up_eq, ← g1]
    unfold rdv
    rw [if_pos q.2.1]
    rfl
  · have hn : ¬ isM D m := fun z => q (hiff.mp z)
    rw [if_neg hn, if_neg hn, en, ed, erd]
    have hf : Mfl D (up (u_blk D) 70 50 (rdv T a (rn (ofP T 2) N a))) := b2.up (Or.inr (Or.inr rfl))
    have e : (up (u_blk D) 70 50 (rdv T a (rn (ofP T 2) N a))) 70 30 = a := by rw [up_i (by decide)]; exact b3
    exact ⟨rfl, Mst_at hT h hf e, hf, e⟩
theorem sg_m (hT : Txt T N) (h : Mst T N a D) {c : Int} (hc : kc c = 3) : p_X12_takesSign D c ∧ (Sgn T N a c → w_sg D c = 1 ∧ Mst T N (tN T N a) (u_sg D c) ∧ Mfl D (u_sg D c)) ∧ (¬ Sgn T N a c → w_sg D c = 0 ∧ Mst T N a (u_sg D c) ∧ Mfl D (u_sg D c) ∧ (u_sg D c) 70 30 = a) := by
  have ht := Mst_tok hT h
  obtain ⟨b1, b2, b3⟩ := blk_m hT h
  have e29 : u_blk D 70 29 = N := b1.2.1
  have e107 : a < N → u_blk D 107 a = T a := fun q => b1.1 a ht.1.1 q
  have hN := hT.1
  have ha := ht.1
  rw [w_sg_eq, u_sg_eq]
  unfold p_X12_takesSign v_X12_takesSign u_X12_takesSign
  rw [b3, e29]
  refine ⟨⟨Mst_p hT h, by
    split
    · trivial
    · exact ⟨by omega, by omega⟩⟩, fun q => ?_, fun q => ?_⟩
  · have q1 := q.1
    have gn : ¬ a = N := by omega
    rw [if_neg gn, if_neg gn, e107 q1, if_pos q.2, if_pos q.2, wr_id (by omega) (by omega)]
    have hf : Mfl D (up (u_blk D) 70 30 (a + 1)) := b2.up (Or.inl rfl)
    have := Mst_of (b := tE T N a) h hf (by rw [up_eq, (Sgn_e q hc).1]) (by rw [(Sgn_e q hc).1]; omega) (by rw [(Sgn_e q hc).1]; omega)
    exact ⟨rfl, this, hf⟩
  · by_cases g : a = N
    · rw [if_pos g, if_pos g]; exact ⟨rfl, b1, b2, b3⟩
    · have g1 : a < N := by omega
      have g2 : ¬ T a = c := fun z => q ⟨g1, z⟩
      rw [if_neg g, if_neg g, e107 g1, if_neg g2, if_neg g2]; exact ⟨rfl, b1, b2, b3⟩
end Lx2
