/-! Where the reference stands in a text. -/
section Mst_
variable {n : Nat} {A : aA} {D D' : aD} {T : Int → Int} {N a : Int}
def Mst (T : Int → Int) (N a : Int) (D : aD) : Prop := (∀ i, 0 ≤ i → i < N → D 107 i = T i) ∧ D 70 29 = N ∧ (0 ≤ D 70 30 ∧ D 70 30 ≤ N) ∧ tS T N (D 70 30) = a
/-- all but where it stands stays -/
def Mfl (D D' : aD) : Prop := (∀ c, c ≠ 70 → D' c = D c) ∧ ∀ i, i ≠ 30 → i ≠ 49 → i ≠ 50 → D' 70 i = D 70 i
theorem Mfl.refl (D : aD) : Mfl D D := ⟨fun _ _ => rfl, fun _ _ _ _ => rfl⟩
theorem Mfl.trans {D1 D2 D3 : aD} (h : Mfl D1 D2) (g : Mfl D2 D3) : Mfl D1 D3 := ⟨fun c c1 => (g.1 c c1).trans (h.1 c c1), fun i a b c => (g.2 i a b c).trans (h.2 i a b c)⟩
theorem Mfl.up {v i : Int} (h : Mfl D D') (q : i = 30 ∨ i = 49 ∨ i = 50) : Mfl D (up D' 70 i v) := ⟨fun c c1 => by rw [up_cf c1]; exact h.1 c c1, fun j a b c => by rw [up_i (by omega)]; exact h.2 j a b c⟩
theorem rn_T {p q : Int → Bool} (h : ∀ i, a ≤ i → i < N → p i = q i) : rn p N a = rn q N a := by
  unfold rn
  exact rn_cg (N := N) _ _ (fun i i1 i2 => h i i1 (by omega))
theorem tS_T {U : Int → Int} (h : ∀ i, 0 ≤ i → i < N → U i = T i) (h0 : 0 ≤ a) : tS U N a = tS T N a := rn_T (fun i i1 i2 => by unfold bkP; rw [h i (by omega) i2])
theorem of_T {U : Int → Int} {k : Int} (h : ∀ i, 0 ≤ i → i < N → U i = T i) (h0 : 0 ≤ a) : rn (ofP U k) N a = rn (ofP T k) N a := rn_T (fun i i1 i2 => by unfold ofP; rw [h i (by omega) i2])
theorem Mst_now (h : Mst T N a D) : tS (D 107) (D 70 29) (D 70 30) = a := by
  obtain ⟨m1, m2, m3, m4⟩ := h
  rw [m2, tS_T m1 m3.1]; exact m4
theorem Mst_p (hT : Txt T N) (h : Mst T N a D) : p_blk D := by
  obtain ⟨m1, m2, m3, m4⟩ := h
  have := hT.1
  exact ⟨m3.1, by omega, by omega⟩
theorem Mst_tok (hT : Txt T N) (h : Mst T N a D) : Tok T N a := by
  obtain ⟨m1, m2, m3, m4⟩ := h
  have := tS_b (T := T) m3.2
  exact ⟨⟨by omega, by omega⟩, by rw [← m4]; exact tS_tS m3.2⟩
theorem Mst_of {b : Int} (h : Mst T N a D) (hf : Mfl D D') (e : D' 70 30 = b) (h0 : 0 ≤ b) (h1 : b ≤ N) : Mst T N (tS T N b) D' := by
  obtain ⟨m1, m2, m3, m4⟩ := h
  refine ⟨?_, ?_, ?_, by rw [e]⟩
  · rw [hf.1 107 (by decide)]; exact m1
  · rw [hf.2 29 (by decide) (by decide) (by decide)]; exact m2
  · rw [e]; exact ⟨h0, h1⟩
theorem Mst_at (hT : Txt T N) (h : Mst T N a D) (hf : Mfl D D') (e : D' 70 30 = a) : Mst T N a D' := by
  have ht := Mst_tok hT h
  have := Mst_of h hf e ht.1.1 ht.1.2
  rw [ht.2] at this
  exact this
theorem blk_m (hT : Txt T N) (h : Mst T N a D) : Mst T N a (u_blk D) ∧ Mfl D (u_blk D) ∧ (u_blk D) 70 30 = a := by
  have e : u_blk D = up D 70 30 a := by unfold u_blk; rw [Mst_now h]
  have hf : Mfl D (up D 70 30 a) := (Mfl.refl D).up (Or.inl rfl)
  rw [e]
  exact ⟨Mst_at hT h hf up_eq, hf, up_eq⟩
theorem nolet (h : tK T N a ≠ 1) (h1 : a ≤ N) : rn (ofP T 1) N a = a := by
  by_cases q : a < N
  · unfold tK at h
    rw [if_pos q] at h
    exact rn_no (by unfold ofP; exact decide_eq_false h)
  · exact rn_end (by omega)
theorem nodig (h : tK T N a ≠ 2) (h1 : a ≤ N) : rn (ofP T 2) N a = a := by
  by_cases q : a < N
  · unfold tK at h
    rw [if_pos q] at h
    exact rn_no (by unfold ofP; exact decide_eq_false h)
  · exact rn_end (by omega)
theorem tE_dg2 (h : tK T N a = 2) : tE T N a = rn (ofP T 2) N a ∧ a < N := by
  unfold tK at h
  by_cases q : a < N
  · rw [if_pos q] at h
    unfold tE
    rw [if_pos q, if_pos (by omega), h]
    exact ⟨rfl, q⟩
  · rw [if_neg q] at h; omega
def wlt (w : List Int) : Bool := w.all (fun c => decide (97 ≤ c) && decide (c ≤ 122)) && (decide (0 < w.length) && decide (w.length ≤ 7))
theorem wlt_c {w : List Int} (h : wlt w = true) : (∀ i : Nat, i < w.length → 97 ≤ w.getD i 0 ∧ w.getD i 0 ≤ 122) ∧ 0 < w.length ∧ w.length ≤ 7 := by
  unfold wlt at h
  simp only [Bool.and_eq_true, List.all_eq_true, decide_eq_true_eq] at h
  refine ⟨fun i hi => ?_, h.2.1, h.2.2⟩
  have := h.1 (w.getD i 0) (by rw [List.getD_eq_getElem?_getD, List.getElem?_eq_getElem hi]; exact List.getElem_mem hi)
  exact this
def pw (w : List Int) : Nat := pN (fun i => w.getD i.toNat 0) 0 w.length
theorem mt_iff {e : Int} : ∀ (w : List Int) (b : Int), b + w.length ≤ e → (mt T e b w = true ↔ ∀ i : Nat, i < w.length → T (b + i) = w.getD i 0)
  | [], b, _ => ⟨fun _ i hi => absurd hi (by simp), fun _ => rfl⟩
  | c :: cs, b, h => by
    have hl : b + 1 + cs.length ≤ e := by simp only [List.length_cons] at h; omega
    have ih := mt_iff cs (b + 1) hl
    show (decide (b < e) && (decide (T b = c) && mt T e (b + 1) cs)) = true ↔ _
    rw [Bool.and_eq_true, Bool.and_eq_true, ih, decide_eq_true_eq, decide_eq_true_eq]
    constructor
    · rintro ⟨_, h2, h3⟩ i hi
      cases i with
      | zero => show T (b + 0) = c; rw [Int.add_zero]; exact h2
      | succ i =>
        have := h3 i (by simp only [List.length_cons] at hi; omega)
        rw [show b + ((i + 1 : Nat) : Int) = b + 1 + i by omega]
        exact this
    · intro q
      refine ⟨by omega, ?_, fun i hi => ?_⟩
      · have := q 0 (by simp)
        rw [show b + ((0 : Nat) : Int) = b by omega] at this
        exact this
      · have := q (i + 1) (by simp only [List.length_cons]; omega)
        rw [show b + ((i + 1 : Nat) : Int) = b + 1 + i by omega] at this
        exact this
theorem i64_inj {x y : Nat} (hx : x < 2 ^ 63) (hy : y < 2 ^ 63) (h : Int64.ofNat x = Int64.ofNat y) : x = y := by
  have h2 := congrArg (fun z => z.toBitVec.toNat) h
  have h3 : (BitVec.ofNat 64 x).toNat = (BitVec.ofNat 64 y).toNat := h2
  rw [BitVec.toNat_ofNat, BitVec.toNat_ofNat, Nat.mod_eq_of_lt (by omega), Nat.mod_eq_of_lt (by omega)] at h3
  exact h3
theorem pB7 : ∀ k, k ≤ 7 → pB k ≤ 2 ^ 56 := by
  intro k hk
  rcases (by omega : k = 0 ∨ k = 1 ∨ k = 2 ∨ k = 3 ∨ k = 4 ∨ k = 5 ∨ k = 6 ∨ k = 7) with rfl | rfl | rfl | rfl | rfl | rfl | rfl | rfl <;> decide
theorem pW_iff {w : List Int} (hw : wlt w = true) (ha : a ≤ N) : pW T a (rn (ofP T 1) N a) = Int64.ofNat (pw w) ↔ Wd T N a w := by
  obtain ⟨w1, w2, w3⟩ := wlt_c hw
  have hu : ∀ i, 0 ≤ i → i < 0 + (w.length : Int) → 1 ≤ w.getD i.toNat 0 ∧ w.getD i.toNat 0 ≤ 255 := fun i i1 i2 => by have := w1 i.toNat (by omega); omega
  have hb := pN_b (T := fun i => w.getD i.toNat 0) (a := 0) w.length hu
  have hb7 := pB7 w.length w3
  have hpos : 0 < pw w := by
    unfold pw
    rw [show w.length = w.length - 1 + 1 by omega]
    show 0 < 256 * _ + (w.getD ((0 : Int) + ((w.length - 1 : Nat) : Int)).toNat 0).toNat
    have := w1 ((0 : Int) + ((w.length - 1 : Nat) : Int)).toNat (by omega)
    omega
  have hlt : pw w < 2 ^ 63 := by unfold pw; omega
  have hne : (0 : Int64) ≠ Int64.ofNat (pw w) := fun q => by
    have : Int64.ofNat 0 = Int64.ofNat (pw w) := q
    have := i64_inj (by omega) hlt this
    omega
  by_cases k1 : tK T N a = 1
  · obtain ⟨e1, e2, e3⟩ := tE_let k1
    have eb := tE_b (T := T) ha
    rw [← e1]
    have hT : ∀ i, a ≤ i → i < tE T N a → 1 ≤ T i ∧ T i ≤ 255 := fun i i1 i2 => by have := kc1.mp (e2 i i1 i2); omega
    unfold pW
    by_cases l7 : tE T N a - a ≤ 7
    · rw [if_pos l7]
      have hb2 := pN_b (T := T) (a := a) (tE T N a - a).toNat (fun i i1 i2 => hT i i1 (by omega))
      have hb3 := pB7 (tE T N a - a).toNat (by omega)
      constructor
      · intro q
        have q2 := i64_inj (by omega) hlt q
        obtain ⟨q3, q4⟩ := pN_inj (T := T) (U := fun i => w.getD i.toNat 0) (a := a) (b := 0) _ _ (fun i i1 i2 => hT i i1 (by omega)) hu q2
        refine ⟨k1, (mt_iff w a (by omega)).mpr (fun i hi => ?_), by omega⟩
        have := q4 i (by omega)
        rw [this]
        show w.getD (0 + (i : Int)).toNat 0 = _
        rw [show (0 + (i : Int)).toNat = i by omega]
      · rintro ⟨_, q2, q3⟩
        have q4 := (mt_iff w a (by omega)).mp q2
        congr 1
        rw [show (tE T N a - a).toNat = w.length by omega]
        refine pN_cg w.length (fun i hi => ?_)
        rw [q4 i hi]
        show _ = w.getD (0 + (i : Int)).toNat 0
        rw [show (0 + (i : Int)).toNat = i by omega]
    · rw [if_neg l7]
      constructor
      · intro q; exact absurd q hne
      · rintro ⟨_, _, q3⟩; omega
  · rw [nolet k1 ha]
    constructor
    · intro q
      have : pW T a a = 0 := by unfold pW; rw [if_pos (by omega), show (a - a).toNat = 0 by omega]; rfl
      rw [this] at q
      exact absurd q hne
    · intro q; exact absurd q.1 k1
theorem word_m (h : Mst T N a D) (h0 : 0 ≤ a) (hN : a ≤ N) : w_word D = pW T a (rn (ofP T 1) N a) ∧ wEnd D = rn (ofP T 1) N a := by
  obtain ⟨m1, m2, m3, m4⟩ := h
  have e := Mst_now ⟨m1, m2, m3, m4⟩
  have e2 : wEnd D = rn (ofP T 1) N a := by unfold wEnd; rw [e, m2, of_T m1 h0]
  refine ⟨?_, e2⟩
  unfold w_word
  rw [e, e2]
  have hb := rn_b (p := ofP T 1) hN
  unfold pW
  by_cases q : rn (ofP T 1) N a - a ≤ 7
  · rw [if_pos q, if_pos q]
    congr 1
    exact pN_cg _ (fun i hi => m1 _ (by omega) (by omega))
  · rw [if_neg q, if_neg q]
theorem uword_m (hT : Txt T N) (h : Mst T N a D) : Mst T N a (u_word D) ∧ Mfl D (u_word D) ∧ (u_word D) 70 30 = a ∧ (u_word D) 70 49 = rn (ofP T 1) N a := by
  have ht := Mst_tok hT h
  obtain ⟨b1, b2, b3⟩ := blk_m hT h
  have hf : Mfl D (u_word D) := b2.up (Or.inr (Or.inl rfl))
  have e : (u_word D) 70 30 = a := by unfold u_word; rw [up_i (by decide)]; exact b3
  exact ⟨Mst_at hT h hf e, hf, e, by unfold u_word; rw [up_eq]; exact (word_m h ht.1.1 ht.1.2).2⟩
theorem lc_eq {x y : Int64} : o_lcmp x y = 0 ↔ x = y := by
  unfold o_lcmp
  constructor
  · intro h
    repeat' split at h
    all_goals first
      | omega
      | assumption
      | (apply Int64.le_antisymm <;> simp_all [Int64.not_lt])
  · intro h
    subst h
    simp
theorem tk_m (hT : Txt T N) (h : Mst T N a D) {l : Int64} {w : List Int} (hw : wlt w = true) (hl : l = Int64.ofNat (pw w)) : (Wd T N a w → w_tk D l = 1 ∧ Mst T N (tN T N a) (u_tk D l) ∧ Mfl D (u_tk D l)) ∧ (¬ Wd T N a w → w_tk D l = 0 ∧ Mst T N a (u_tk D l) ∧ Mfl D (u_tk D l) ∧ (u_tk D l) 70 30 = a) := by
  have ht := Mst_tok hT h
  obtain ⟨u1, u2, u3, u4⟩ := uword_m hT h
  have hi := pW_iff (T := T) (N := N) (a := a) hw ht.1.2
  rw [w_tk_eq, u_tk_eq]
  unfold v_X12_takes u_X12_takes
  rw [(word_m h ht.1.1 ht.1.2).1, hl]
  constructor
  · intro q
    have q2 := lc_eq.mpr (hi.mpr q)
    rw [if_pos q2, if_pos q2]
    have hf : Mfl D (up (u_word D) 70 30 ((u_word D) 70 49)) := u2.up (Or.inl rfl)
    have eb := tE_b (T := T) ht.1.2
    have := Mst_of (b := tE T N a) h hf (by rw [up_eq, u4, (tE_let q.1).1]) (by have := ht.1.1; omega) eb.2.1
    exact ⟨rfl, this, hf⟩
  · intro q
    have q2 : ¬ o_lcmp (pW T a (rn (ofP T 1) N a)) (Int64.ofNat (pw w)) = 0 := fun z => q (hi.mp (lc_eq.mp z))
    rw [if_neg q2, if_neg q2]
    exact ⟨rfl, u1, u2, u3⟩
end Mst_
