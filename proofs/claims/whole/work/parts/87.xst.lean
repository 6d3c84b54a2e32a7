/-! Where the class's reader stands in a text. -/
section Xst_
variable {n : Nat} {A : aA} {D D' : aD} {T : Int → Int} {N a : Int}
/-- a text of bytes -/
def Txt (T : Int → Int) (N : Int) : Prop := (0 ≤ N ∧ N ≤ 700) ∧ ∀ i, 0 ≤ i → i < N → -128 ≤ T i ∧ T i ≤ 127
/-- a piece (or the end) begins at a -/
def Tok (T : Int → Int) (N a : Int) : Prop := (0 ≤ a ∧ a ≤ N) ∧ tS T N a = a
def tN (T : Int → Int) (N a : Int) : Int := tS T N (tE T N a)
def Xst (T : Int → Int) (N a : Int) (D : aD) : Prop := D 48 = T ∧ D 47 4 = N ∧ D 47 3 = -1 ∧ D 47 7 = a ∧ D 47 6 = tK T N a ∧ D 47 8 = tE T N a
def Xfr (D D' : aD) : Prop := (∀ c, c ≠ 47 → c ≠ 49 → D' c = D c) ∧ ∀ i, i < 3 ∨ i = 4 ∨ 8 < i → D' 47 i = D 47 i
theorem Xfr.refl (D : aD) : Xfr D D := ⟨fun _ _ _ => rfl, fun _ _ => rfl⟩
theorem Xfr.trans {D1 D2 D3 : aD} (h : Xfr D1 D2) (g : Xfr D2 D3) : Xfr D1 D3 := ⟨fun c c1 c2 => (g.1 c c1 c2).trans (h.1 c c1 c2), fun i q => (g.2 i q).trans (h.2 i q)⟩
theorem tE_0 (h0 : 0 ≤ a) (h1 : a ≤ N) : a ≤ tE T N a ∧ tE T N a ≤ N := ⟨(tE_b h1).1, (tE_b h1).2.1⟩
theorem tN_tok (ht : Tok T N a) : Tok T N (tN T N a) ∧ a ≤ tN T N a ∧ tE T N a ≤ tN T N a ∧ (a < N → a < tN T N a) := by
  obtain ⟨⟨h0, h1⟩, h2⟩ := ht
  have e := tE_b (T := T) h1
  have s := tS_b (T := T) (N := N) (a := tE T N a) e.2.1
  unfold tN
  refine ⟨⟨⟨by omega, s.2⟩, tS_tS e.2.1⟩, by omega, s.1, fun q => by have := e.2.2 q; omega⟩
theorem Xst_pa (hT : Txt T N) (ht : Tok T N a) (h : Xst T N a D) : p_adv D := by
  obtain ⟨x1, x2, x3, x4, x5, x6⟩ := h
  have e := tE_0 (T := T) ht.1.1 ht.1.2
  have ha := ht.1
  have hN := hT.1
  refine ⟨⟨by omega, by omega, by omega⟩, ?_⟩
  unfold bys
  rw [x1, x2]
  exact hT.2
theorem Xst_pi (hT : Txt T N) (ht : Tok T N a) (h : Xst T N a D) (k : Nat) : p_ix D k := by
  obtain ⟨x1, x2, x3, x4, x5, x6⟩ := h
  have e := tE_0 (T := T) ht.1.1 ht.1.2
  have ha := ht.1
  have hN := hT.1
  exact ⟨by omega, by omega, by omega⟩
theorem tE_dig (h : tK T N a = 2) : ∀ i, a ≤ i → i < tE T N a → kc (T i) = 2 := by
  unfold tK at h
  by_cases q : a < N
  · rw [if_pos q] at h
    unfold tE
    rw [if_pos q, if_pos (by omega), h]
    intro i i1 i2
    have := (rn_b (p := ofP T 2) (N := N) (a := a) (by omega)).2.2.1 i i1 i2
    unfold ofP at this
    exact of_decide_eq_true this
  · rw [if_neg q] at h; omega
theorem tE_let (h : tK T N a = 1) : tE T N a = rn (ofP T 1) N a ∧ (∀ i, a ≤ i → i < tE T N a → kc (T i) = 1) ∧ a < N := by
  unfold tK at h
  by_cases q : a < N
  · rw [if_pos q] at h
    unfold tE
    rw [if_pos q, if_pos (by omega), h]
    refine ⟨rfl, fun i i1 i2 => ?_, q⟩
    have := (rn_b (p := ofP T 1) (N := N) (a := a) (by omega)).2.2.1 i i1 i2
    unfold ofP at this
    exact of_decide_eq_true this
  · rw [if_neg q] at h; omega
theorem Xst_pn (hT : Txt T N) (ht : Tok T N a) (h : Xst T N a D) (m : Int) : p_num D m := by
  have h' := h
  obtain ⟨x1, x2, x3, x4, x5, x6⟩ := h'
  have e := tE_0 (T := T) ht.1.1 ht.1.2
  have ha := ht.1
  have hN := hT.1
  refine ⟨⟨by omega, by omega, by omega⟩, fun q => ⟨?_, Xst_pa hT ht h⟩⟩
  rw [x4, x6, x1]
  exact tE_dig (by omega)
theorem adv_x (ht : Tok T N a) (h : Xst T N a D) : Xst T N (tN T N a) (u_adv D) ∧ Xfr D (u_adv D) ∧ (u_adv D) 47 5 = D 47 5 ∧ (u_adv D) 49 = D 49 := by
  obtain ⟨x1, x2, x3, x4, x5, x6⟩ := h
  have e : u_adv D = up (up (up D 47 7 (tN T N a)) 47 6 (tK T N (tN T N a))) 47 8 (tE T N (tN T N a)) := by
    unfold u_adv advS tN
    rw [x1, x2, x6]
  rw [e]
  refine ⟨⟨?_, ?_, ?_, ?_, ?_, ?_⟩, ⟨fun c c1 c2 => ?_, fun i q => ?_⟩, ?_, ?_⟩
  · rw [up_cf (by decide), up_cf (by decide), up_cf (by decide)]; exact x1
  · rw [up_i (by decide), up_i (by decide), up_i (by decide)]; exact x2
  · rw [up_i (by decide), up_i (by decide), up_i (by decide)]; exact x3
  · rw [up_i (by decide), up_i (by decide), up_eq]
  · rw [up_i (by decide), up_eq]
  · rw [up_eq]
  · rw [up_cf c1, up_cf c1, up_cf c1]
  · rw [up_i (by omega), up_i (by omega), up_i (by omega)]
  · rw [up_i (by decide), up_i (by decide), up_i (by decide)]
  · rw [up_cf (by decide), up_cf (by decide), up_cf (by decide)]
theorem ref_x (h : Xst T N a D) : (u_X6_refuse D) 47 3 = a ∧ Xfr D (u_X6_refuse D) := by
  obtain ⟨x1, x2, x3, x4, x5, x6⟩ := h
  unfold u_X6_refuse
  rw [if_pos x3]
  exact ⟨by rw [up_eq]; exact x4, fun c c1 c2 => up_cf c1, fun i q => up_i (by omega)⟩
theorem ref_no (h : D 47 3 ≠ -1) : u_X6_refuse D = D := by unfold u_X6_refuse; rw [if_neg h]
/-- the word that begins at a -/
def Wd (T : Int → Int) (N a : Int) (w : List Int) : Prop := tK T N a = 1 ∧ mt T (tE T N a) a w = true ∧ a + w.length = tE T N a
theorem ixf_app {e : Int} : ∀ (w : List Int) (r : List Int) (j b : Int) (s : Bool), (∀ c ∈ w, c ≠ 32) → ixf T a e (w ++ r) j b s = ixf T a e r j (b + w.length) (s && mt T e b w)
  | [], r, j, b, s, _ => by simp [mt]
  | c :: cs, r, j, b, s, h => by
    have h1 : c ≠ 32 := h c (by simp)
    show (if c = 32 then _ else ixf T a e (cs ++ r) j (b + 1) (s && (decide (b < e) && decide (T b = c)))) = _
    rw [if_neg h1, ixf_app cs r j (b + 1) _ (fun x hx => h x (by simp [hx]))]
    congr 1
    · simp only [List.length_cons]; omega
    · simp only [mt, Bool.and_assoc]
def ixw (T : Int → Int) (N a : Int) : List (List Int) → Int → Int
  | [], _ => -1
  | w :: ws, j => if mt T (tE T N a) a w = true ∧ a + w.length = tE T N a then j else ixw T N a ws (j + 1)
def jn : List (List Int) → List Int
  | [] => []
  | [w] => w
  | w :: w' :: ws => w ++ 32 :: jn (w' :: ws)
theorem ixf_jn : ∀ (ws : List (List Int)) (w : List Int) (j : Int), (∀ v ∈ w :: ws, ∀ c ∈ v, c ≠ 32) → ixf T a (tE T N a) (jn (w :: ws)) j a true = ixw T N a (w :: ws) j
  | [], w, j, h => by
    have := ixf_app (T := T) (a := a) (e := tE T N a) w [] j a true (h w (by simp))
    rw [List.append_nil] at this
    show ixf T a (tE T N a) w j a true = _
    rw [this]
    simp [ixf, ixw]
  | w' :: ws, w, j, h => by
    show ixf T a (tE T N a) (w ++ 32 :: jn (w' :: ws)) j a true = _
    rw [ixf_app w _ j a true (h w (by simp))]
    show (if (32 : Int) = 32 then _ else _) = _
    rw [if_pos rfl]
    show _ = if mt T (tE T N a) a w = true ∧ a + w.length = tE T N a then j else ixw T N a (w' :: ws) (j + 1)
    rw [Bool.true_and, ixf_jn ws w' (j + 1) (fun v hv => h v (List.mem_cons_of_mem _ hv))]
def wds : Nat → List (List Int)
  | 0 => [[102, 101, 101], [110, 111, 116, 105, 99, 101], [98, 97, 99, 107], [97, 103, 101], [108, 101, 97, 115, 116], [98, 97, 114], [115, 116, 101, 112], [98, 111, 120], [104, 97, 98, 105, 116]]
  | 1 => [[104, 111, 117, 115, 101], [115, 101, 114, 118, 97, 110, 116]]
  | 2 => [[119, 105, 116, 104, 105, 110]]
  | 3 => [[107, 105, 116, 99, 104, 101, 110], [104, 111, 117, 115, 101], [110, 117, 114, 115, 101], [99, 111, 111, 107], [99, 111, 97, 99, 104], [98, 117, 116, 108, 101, 114]]
  | 4 => [[99, 104, 117, 114, 99, 104]]
  | 5 => [[97, 102, 116, 101, 114]]
  | 6 => [[105, 102]]
  | 7 => [[110, 111, 116]]
  | 8 => [[119, 97, 103, 101], [112, 111, 115, 116], [116, 111, 119, 110], [97, 103, 101], [115, 107, 105, 108, 108, 115], [100, 97, 121]]
  | 10 => [[97, 110, 100]]
  | 11 => [[111, 114]]
  | _ => []
theorem ix_x (h : Xst T N a D) {k : Nat} {w : List Int} {ws : List (List Int)} (e1 : wds k = w :: ws) (e2 : sts.getD k [] = jn (w :: ws)) (e3 : ∀ v ∈ w :: ws, ∀ c ∈ v, c ≠ 32) : w_ix D k = ixw T N a (wds k) 0 := by
  obtain ⟨x1, x2, x3, x4, x5, x6⟩ := h
  unfold w_ix
  rw [x1, x4, x6, e2, e1]
  exact ixf_jn ws w 0 e3
end Xst_
