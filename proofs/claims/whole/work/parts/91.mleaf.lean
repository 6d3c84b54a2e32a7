/-! A single comparison, as the reference reads it. -/
section Mlf
variable {n : Nat} {A : aA} {D D' D0 P : aD} {T : Int → Int} {N a : Int}
def wsel (l : Int64) : List (List Int) → Int → Int
  | [], _ => -1
  | w :: ws, j => if o_lcmp l (Int64.ofNat (pw w)) = 0 then j else wsel l ws (j + 1)
theorem wsel_m (ha : a ≤ N) : ∀ (ws : List (List Int)) (j : Int), (∀ w ∈ ws, wlt w = true) → wsel (pW T a (rn (ofP T 1) N a)) ws j = if tK T N a = 1 then ixw T N a ws j else -1
  | [], j, _ => by unfold wsel ixw; split <;> rfl
  | w :: ws, j, h => by
    have ih := wsel_m ha ws (j + 1) (fun v hv => h v (List.mem_cons_of_mem _ hv))
    have hi := pW_iff (T := T) (N := N) (a := a) (h w (by simp)) ha
    unfold wsel
    by_cases q : Wd T N a w
    · rw [if_pos (lc_eq.mpr (hi.mpr q)), if_pos q.1, (ixw_s q.1).1 q]
    · rw [if_neg (fun z => q (hi.mp (lc_eq.mp z))), ih]
      by_cases k : tK T N a = 1
      · rw [if_pos k, if_pos k, (ixw_s k).2 q]
      · rw [if_neg k, if_neg k]
theorem told_m (h : Mst T N a D) (h0 : 0 ≤ a) (hN : a ≤ N) : v_X12_told D' (w_word D) = wix T N a 8 := by
  have e := wsel_m (T := T) (N := N) (a := a) hN (wds 8) 0 (by decide)
  rw [(word_m h h0 hN).1]
  unfold wix
  rw [← e]
  unfold v_X12_told
  simp only [wds, wsel]
  rw [show Int64.ofNat (pw [119, 97, 103, 101]) = 2002872165 by decide, show Int64.ofNat (pw [112, 111, 115, 116]) = 1886352244 by decide, show Int64.ofNat (pw [116, 111, 119, 110]) = 1953462126 by decide, show Int64.ofNat (pw [97, 103, 101]) = 6383461 by decide, show Int64.ofNat (pw [115, 107, 105, 108, 108, 115]) = 126905167408243 by decide, show Int64.ofNat (pw [100, 97, 121]) = 6578553 by decide]
  rfl
/-- what the reading of a condition may change -/
def Mfr (c0 : Int) (D D' : aD) : Prop := (∀ c, c ≠ 70 → (c < 99 ∨ 104 < c) → D' c = D c) ∧ (∀ i, i ≠ 27 → i ≠ 30 → i ≠ 31 → i ≠ 49 → i ≠ 50 → D' 70 i = D 70 i) ∧ ∀ c, 99 ≤ c → c ≤ 104 → ∀ i, i < c0 → D' c i = D c i
theorem Mfr.refl (c0 : Int) (D : aD) : Mfr c0 D D := ⟨fun _ _ _ => rfl, fun _ _ _ _ _ _ => rfl, fun _ _ _ _ _ => rfl⟩
theorem Mfr.trans {c0 : Int} {D1 D2 D3 : aD} (h : Mfr c0 D1 D2) (g : Mfr c0 D2 D3) : Mfr c0 D1 D3 := ⟨fun c a b => (g.1 c a b).trans (h.1 c a b), fun i a b c d e => (g.2.1 i a b c d e).trans (h.2.1 i a b c d e), fun c a b i hi => (g.2.2 c a b i hi).trans (h.2.2 c a b i hi)⟩
theorem Mfr.low {c0 c1 : Int} (h : Mfr c1 D D') (q : c0 ≤ c1) : Mfr c0 D D' := ⟨h.1, h.2.1, fun c a b i hi => h.2.2 c a b i (by omega)⟩
theorem Mfl.fr (h : Mfl D D') (c0 : Int) : Mfr c0 D D' := ⟨fun c a _ => h.1 c a, fun i _ b _ d e => h.2 i b d e, fun c a b i _ => by rw [h.1 c (by omega)]⟩
theorem Mfr.upn {c0 : Int} {c : Nat} {i v : Int} (h : Mfr c0 D D') (hc : 99 ≤ c ∧ c ≤ 104) (hi : c0 ≤ i) : Mfr c0 D (up D' c i v) :=
  ⟨fun c' a b => by rw [up_cf (by omega)]; exact h.1 c' a b, fun j a b d e f => by rw [up_c (by omega)]; exact h.2.1 j a b d e f, fun c' a b j hj => by rw [up_i (by omega)]; exact h.2.2 c' a b j hj⟩
theorem Mfr.upf {c0 : Int} {i v : Int} (h : Mfr c0 D D') (hi : i = 27 ∨ i = 30 ∨ i = 31 ∨ i = 49 ∨ i = 50) : Mfr c0 D (up D' 70 i v) :=
  ⟨fun c' a b => by rw [up_cf a]; exact h.1 c' a b, fun j a b d e f => by rw [up_i (by omega)]; exact h.2.1 j a b d e f, fun c' a b j hj => by rw [up_c (by omega)]; exact h.2.2 c' a b j hj⟩
theorem Mst_cg (h : Mst T N a D) (e1 : D' 107 = D 107) (e2 : D' 70 29 = D 70 29) (e3 : D' 70 30 = D 70 30) : Mst T N a D' := by
  unfold Mst
  rw [e1, e2, e3]
  exact h
def plN (P : aD) (K x : Int) (D' : aD) : Prop := (p_X12_takesPlain P) ∧ (if v_X12_takesPlain P = 0 then (x = (-1) ∧ D' = (u_X12_takesPlain P)) else (x = K ∧ D' = (up (u_X12_takesPlain P) 104 K ((u_X12_takesPlain P) 70 50))))
theorem pl_m {c : Int} (hT : Txt T N) (h : Mst T N c P) (K : Int) : ∃ x D', plN P K x D' ∧ (Nm T N c 9999 → x = K ∧ Mst T N (tN T N c) D' ∧ D' 104 K = nv T c (tE T N c)) ∧ (¬ Nm T N c 9999 → x = -1 ∧ D' 70 30 = c) ∧ (∀ c', c' ≠ 70 → c' ≠ 104 → D' c' = P c') ∧ (∀ i, i ≠ 30 → i ≠ 49 → i ≠ 50 → D' 70 i = P 70 i) ∧ Mfr K P D' := by
  obtain ⟨p, y, z⟩ := mn_m hT h 9999
  unfold plN p_X12_takesPlain v_X12_takesPlain u_X12_takesPlain
  by_cases q : Nm T N c 9999
  · obtain ⟨y1, y2, y3, y4⟩ := y q
    rw [y1]
    refine ⟨K, up (u_mn P 9999) 104 K ((u_mn P 9999) 70 50), ⟨p, by rw [if_neg (by decide)]; exact ⟨rfl, rfl⟩⟩, fun _ => ⟨rfl, ?_, ?_⟩, fun g => absurd q g, fun c' a b => ?_, fun i a b d => ?_, (y3.fr K).upn ⟨by decide, by decide⟩ (Int.le_refl _)⟩
    · exact Mst_cg y2 (up_cf (by decide)) (up_c (by decide)) (up_c (by decide))
    · rw [up_eq, y4]
    · rw [up_cf b]; exact y3.1 c' a
    · rw [up_c (by decide)]; exact y3.2 i a b d
  · obtain ⟨y1, y2, y3, y4⟩ := z q
    rw [y1]
    exact ⟨-1, u_mn P 9999, ⟨p, by rw [if_pos rfl]; exact ⟨rfl, rfl⟩⟩, fun g => absurd g q, fun _ => ⟨rfl, y4⟩, fun c' a b => y3.1 c' a, fun i a b d => y3.2 i a b d, y3.fr K⟩
def lfQ (E3 : aD) (K x : Int) (D' : aD) : Prop := (p_X12_takesSign E3 60) ∧ (if w_sg E3 60 = 0 then (p_X12_takesSign (u_sg E3 60) 62) ∧ (if w_sg (u_sg E3 60) 62 = 0 then (p_X12_takesSign (u_sg (u_sg E3 60) 62) 61) ∧ (if w_sg (u_sg (u_sg E3 60) 62) 61 = 0 then (x = (-1) ∧ D' = (up (u_sg (u_sg (u_sg E3 60) 62) 61) 103 K (-1))) else plN (up (u_sg (u_sg (u_sg E3 60) 62) 61) 103 K 61) K x D') else plN (up (u_sg (u_sg E3 60) 62) 103 K 62) K x D') else plN (up (u_sg E3 60) 103 K 60) K x D')
theorem q_m {E3 : aD} {b : Int} (hT : Txt T N) (h : Mst T N b E3) (K : Int) : ∃ x D', lfQ E3 K x D' ∧ (cix T N b ≠ -1 ∧ Nm T N (tN T N b) 9999 → x = K ∧ Mst T N (tN T N (tN T N b)) D' ∧ D' 103 K = lfs (cix T N b) ∧ D' 104 K = nv T (tN T N b) (tE T N (tN T N b))) ∧ (¬ (cix T N b ≠ -1 ∧ Nm T N (tN T N b) 9999) → x = -1 ∧ D' 70 30 = if cix T N b = -1 then b else tN T N b) ∧ (∀ c', c' ≠ 70 → c' ≠ 103 → c' ≠ 104 → D' c' = E3 c') ∧ (∀ i, i ≠ 30 → i ≠ 49 → i ≠ 50 → D' 70 i = E3 70 i) ∧ Mfr K E3 D' := by
  have fin : ∀ {S : aD} {s : Int}, Mst T N (tN T N b) S → Mfl E3 S → ∀ j, cix T N b = j → j ≠ -1 → lfs j = s → ∃ x D', plN (up S 103 K s) K x D' ∧ (cix T N b ≠ -1 ∧ Nm T N (tN T N b) 9999 → x = K ∧ Mst T N (tN T N (tN T N b)) D' ∧ D' 103 K = lfs (cix T N b) ∧ D' 104 K = nv T (tN T N b) (tE T N (tN T N b))) ∧ (¬ (cix T N b ≠ -1 ∧ Nm T N (tN T N b) 9999) → x = -1 ∧ D' 70 30 = if cix T N b = -1 then b else tN T N b) ∧ (∀ c', c' ≠ 70 → c' ≠ 103 → c' ≠ 104 → D' c' = E3 c') ∧ (∀ i, i ≠ 30 → i ≠ 49 → i ≠ 50 → D' 70 i = E3 70 i) ∧ Mfr K E3 D' := by
    intro S s hS hf j hj hj1 hs
    obtain ⟨x, D', p1, p2, p3, p4, p5, p6⟩ := pl_m hT (Mst_cg hS (D' := up S 103 K s) (up_cf (by decide)) (up_c (by decide)) (up_c (by decide))) K
    refine ⟨x, D', p1, fun q => ?_, fun q => ?_, fun c' a b d => ?_, fun i a b d => ?_, ((hf.fr K).upn ⟨by decide, by decide⟩ (Int.le_refl _)).trans p6⟩
    · obtain ⟨z1, z2, z3⟩ := p2 q.2
      refine ⟨z1, z2, ?_, z3⟩
      rw [p4 103 (by decide) (by decide), up_eq, hj, hs]
    · have hn : ¬ Nm T N (tN T N b) 9999 := fun z => q ⟨by rw [hj]; exact hj1, z⟩
      obtain ⟨z1, z2⟩ := p3 hn
      refine ⟨z1, ?_⟩
      rw [if_neg (by rw [hj]; exact hj1)]
      exact z2
    · rw [p4 c' a d, up_cf b]; exact hf.1 c' a
    · rw [p5 i a b d, up_c (by decide)]; exact hf.2 i a b d
  unfold lfQ
  obtain ⟨s1, s2, s3⟩ := sg_m hT h (c := 60) (by decide)
  by_cases c1 : Sgn T N b 60
  · obtain ⟨u1, u2, u3⟩ := s2 c1
    have hj : cix T N b = 0 := by unfold cix w_cmp; rw [if_pos c1.1, if_pos c1.2]
    obtain ⟨x, D', r1, r2⟩ := fin u2 u3 0 hj (by decide) (s := 60) rfl
    refine ⟨x, D', ⟨s1, ?_⟩, r2⟩
    rw [u1, if_neg (by decide)]; exact r1
  · obtain ⟨u1, u2, u3, u4⟩ := s3 c1
    obtain ⟨s1', s2', s3'⟩ := sg_m hT u2 (c := 62) (by decide)
    by_cases c2 : Sgn T N b 62
    · obtain ⟨v1, v2, v3⟩ := s2' c2
      have hj : cix T N b = 1 := by unfold cix w_cmp; rw [if_pos c2.1, if_neg (by rw [c2.2]; decide), if_pos c2.2]
      obtain ⟨x, D', r1, r2⟩ := fin v2 (u3.trans v3) 1 hj (by decide) (s := 62) rfl
      refine ⟨x, D', ⟨s1, ?_⟩, r2⟩
      rw [u1, if_pos rfl]
      refine ⟨s1', ?_⟩
      rw [v1, if_neg (by decide)]; exact r1
    · obtain ⟨v1, v2, v3, v4⟩ := s3' c2
      obtain ⟨s1'', s2'', s3''⟩ := sg_m hT v2 (c := 61) (by decide)
      by_cases c3 : Sgn T N b 61
      · obtain ⟨w1, w2, w3⟩ := s2'' c3
        have hj : cix T N b = 2 := by unfold cix w_cmp; rw [if_pos c3.1, if_neg (by rw [c3.2]; decide), if_neg (by rw [c3.2]; decide), if_pos c3.2]
        obtain ⟨x, D', r1, r2⟩ := fin w2 ((u3.trans v3).trans w3) 2 hj (by decide) (s := 61) rfl
        refine ⟨x, D', ⟨s1, ?_⟩, r2⟩
        rw [u1, if_pos rfl]
        refine ⟨s1', ?_⟩
        rw [v1, if_pos rfl]
        refine ⟨s1'', ?_⟩
        rw [w1, if_neg (by decide)]; exact r1
      · obtain ⟨w1, w2, w3, w4⟩ := s3'' c3
        have hj : cix T N b = -1 := by
          unfold cix
          by_cases g : b < N
          · rw [if_pos g]
            unfold w_cmp
            rw [if_neg (fun z => c1 ⟨g, z⟩), if_neg (fun z => c2 ⟨g, z⟩), if_neg (fun z => c3 ⟨g, z⟩)]
          · rw [if_neg g]
        have hf := (u3.trans v3).trans w3
        refine ⟨-1, up (u_sg (u_sg (u_sg E3 60) 62) 61) 103 K (-1), ⟨s1, ?_⟩, fun q => absurd hj q.1, fun _ => ⟨rfl, ?_⟩, fun c' a b d => ?_, fun i a b d => ?_, (hf.fr K).upn ⟨by decide, by decide⟩ (Int.le_refl _)⟩
        · rw [u1, if_pos rfl]
          refine ⟨s1', ?_⟩
          rw [v1, if_pos rfl]
          refine ⟨s1'', ?_⟩
          rw [w1, if_pos rfl]; exact ⟨rfl, rfl⟩
        · rw [if_pos hj, up_c (by decide)]; exact w4
        · rw [up_cf b]; exact hf.1 c' a
        · rw [up_c (by decide)]; exact hf.2 i a b d
def lfN (D0 : aD) (x : Int) (D' : aD) : Prop := (p_X12_node D0 3) ∧ (p_blk (u_X12_node D0 3)) ∧ (0 ≤ v_X12_node D0 3 ∧ v_X12_node D0 3 < 5200) ∧ (if v_X12_told (u_word (u_X12_node D0 3)) (w_word (u_X12_node D0 3)) = (-1) then (x = (-1) ∧ D' = (up (u_word (u_X12_node D0 3)) 102 (v_X12_node D0 3) (v_X12_told (u_word (u_X12_node D0 3)) (w_word (u_X12_node D0 3))))) else lfQ (up (up (u_word (u_X12_node D0 3)) 102 (v_X12_node D0 3) (v_X12_told (u_word (u_X12_node D0 3)) (w_word (u_X12_node D0 3)))) 70 30 ((u_word (u_X12_node D0 3)) 70 49)) (v_X12_node D0 3) x D')
theorem nod_m {k : Int} (h0 : 0 ≤ D 70 27) (h1 : D 70 27 < 5200) : v_X12_node D k = D 70 27 ∧ p_X12_node D k ∧ Mfr (D 70 27) D (u_X12_node D k) ∧ (u_X12_node D k) 70 27 = D 70 27 + 1 ∧ (u_X12_node D k) 99 (D 70 27) = k ∧ (u_X12_node D k) 100 (D 70 27) = -1 ∧ (u_X12_node D k) 101 (D 70 27) = -1 ∧ (∀ i, i ≠ 27 → (u_X12_node D k) 70 i = D 70 i) := by
  unfold v_X12_node p_X12_node u_X12_node
  rw [wr_id (z := D 70 27 + 1) (by omega) (by omega), show D 70 27 + 1 - 1 = D 70 27 by omega, wr_id (by omega) (by omega)]
  refine ⟨rfl, ⟨h0, h1⟩, ((((Mfr.refl _ D).upn ⟨by decide, by decide⟩ (Int.le_refl _)).upn ⟨by decide, by decide⟩ (Int.le_refl _)).upn ⟨by decide, by decide⟩ (Int.le_refl _)).upf (Or.inl rfl), up_eq, ?_, ?_, ?_, fun i hi => ?_⟩
  · rw [up_c (by decide), up_c (by decide), up_c (by decide), up_eq]
  · rw [up_c (by decide), up_c (by decide), up_eq]
  · rw [up_c (by decide), up_eq]
  · rw [up_i hi, up_c (by decide), up_c (by decide), up_c (by decide)]
theorem leaf_m (hT : Txt T N) (h : Mst T N a D0) (h0 : 0 ≤ D0 70 27) (h1 : D0 70 27 < 5200) : ∃ x D', lfN D0 x D' ∧ Mfr (D0 70 27) D0 D' ∧ D' 70 31 = D0 70 31 ∧ (Lok T N a → x = D0 70 27 ∧ Mst T N (lfE T N a) D' ∧ D' 70 27 = D0 70 27 + 1 ∧ D' 99 (D0 70 27) = 3 ∧ D' 101 (D0 70 27) = -1 ∧ D' 102 (D0 70 27) = wix T N a 8 ∧ D' 103 (D0 70 27) = lfs (cix T N (tN T N a)) ∧ D' 104 (D0 70 27) = lfV T N a) ∧ (¬ Lok T N a → x = -1 ∧ D' 70 30 = lfE T N a) := by
  obtain ⟨n1, n2, n3, n4, n5, n6, n7, n8⟩ := nod_m (D := D0) (k := 3) h0 h1
  unfold lfN
  rw [n1]
  have hN0 : Mst T N a (u_X12_node D0 3) := Mst_cg h (n3.1 107 (by decide) (Or.inr (by decide))) (n8 29 (by decide)) (n8 30 (by decide))
  have ht := Mst_tok hT h
  obtain ⟨w1, w2, w3, w4⟩ := uword_m hT hN0
  rw [told_m hN0 ht.1.1 ht.1.2]
  generalize u_X12_node D0 3 = N0 at *
  have hp := Mst_p hT hN0
  generalize hW : u_word N0 = W at *
  have f1 : Mfr (D0 70 27) D0 (up W 102 (D0 70 27) (wix T N a 8)) := (n3.trans (w2.fr _)).upn ⟨by decide, by decide⟩ (Int.le_refl _)
  have w31 : W 70 31 = D0 70 31 := by rw [w2.2 31 (by decide) (by decide) (by decide), n8 31 (by decide)]
  by_cases q : wix T N a 8 = -1
  · refine ⟨-1, up W 102 (D0 70 27) (wix T N a 8), ⟨n2, hp, ⟨h0, h1⟩, by rw [if_pos q]; exact ⟨rfl, rfl⟩⟩, f1, ?_, fun z => absurd q z.1, fun _ => ⟨rfl, ?_⟩⟩
    · rw [up_c (by decide)]; exact w31
    · rw [up_c (by decide), w3]; unfold lfE; rw [if_pos q]
  · have k1 : tK T N a = 1 := by
      by_cases k : tK T N a = 1
      · exact k
      · exact absurd (by unfold wix; rw [if_neg k]) q
    have eb := tE_b (T := T) ht.1.2
    have hf3 : Mfl W (up W 70 30 (W 70 49)) := (Mfl.refl W).up (Or.inl rfl)
    have m3 : Mst T N (tN T N a) (up W 70 30 (W 70 49)) := Mst_of (b := tE T N a) w1 hf3 (by rw [up_eq, w4, (tE_let k1).1]) (by have := ht.1.1; omega) eb.2.1
    have m4 : Mst T N (tN T N a) (up (up W 102 (D0 70 27) (wix T N a 8)) 70 30 (W 70 49)) := Mst_cg m3 (by rw [up_cf (by decide), up_cf (by decide), up_cf (by decide)]) (by rw [up_i (by decide), up_c (by decide), up_i (by decide)]) (by rw [up_eq, up_eq])
    obtain ⟨x, D', r1, r2, r3, r4, r5, r6⟩ := q_m hT m4 (D0 70 27)
    refine ⟨x, D', ⟨n2, hp, ⟨h0, h1⟩, by rw [if_neg q]; exact r1⟩, (f1.upf (Or.inr (Or.inl rfl))).trans r6, ?_, fun z => ?_, fun z => ?_⟩
    · rw [r5 31 (by decide) (by decide) (by decide), up_i (by decide), up_c (by decide)]; exact w31
    · obtain ⟨x1, x2, x3, x4⟩ := r2 z.2
      refine ⟨x1, ?_, ?_, ?_, ?_, ?_, x3, x4⟩
      · have : lfE T N a = tN T N (tN T N (tN T N a)) := by unfold lfE; rw [if_neg q, if_neg z.2.1]; exact if_pos z.2.2
        rw [this]; exact x2
      · rw [r5 27 (by decide) (by decide) (by decide), up_i (by decide), up_c (by decide), w2.2 27 (by decide) (by decide) (by decide)]; exact n4
      · rw [r4 99 (by decide) (by decide) (by decide), up_cf (by decide), up_cf (by decide), w2.1 99 (by decide)]; exact n5
      · rw [r4 101 (by decide) (by decide) (by decide), up_cf (by decide), up_cf (by decide), w2.1 101 (by decide)]; exact n7
      · rw [r4 102 (by decide) (by decide) (by decide), up_cf (by decide), up_eq]
    · have hz : ¬ (cix T N (tN T N a) ≠ -1 ∧ Nm T N (tN T N (tN T N a)) 9999) := fun g => z ⟨q, g⟩
      obtain ⟨x1, x2⟩ := r3 hz
      refine ⟨x1, ?_⟩
      rw [x2]
      unfold lfE
      rw [if_neg q]
      by_cases g : cix T N (tN T N a) = -1
      · rw [if_pos g, if_pos g]
      · rw [if_neg g, if_neg g]
        exact (if_neg (fun y => hz ⟨g, y⟩)).symm
end Mlf
