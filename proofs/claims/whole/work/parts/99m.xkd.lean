/-! The class's statement, kind by kind, up to its condition. -/
section Xkd
variable {n c : Nat} {A A' : aA} {D D' S X : aD} {T : Int → Int} {N a b e i1 : Int}
/-- what the reading of statement e may change -/
def XF (e : Int) (D E : aD) : Prop := (∀ c, c ≠ 47 → c ≠ 49 → (c < 2600 ∨ 2605 < c) → E c = D c) ∧ (∀ c, 2600 ≤ c → c ≤ 2605 → ∀ j, j ≠ e → E c j = D c j) ∧ (∀ i, i < 3 ∨ i = 4 ∨ 8 < i → E 47 i = D 47 i)
theorem XF.refl (e : Int) (D : aD) : XF e D D := ⟨fun _ _ _ _ => rfl, fun _ _ _ _ _ => rfl, fun _ _ => rfl⟩
theorem XF.trans {D1 D2 D3 : aD} (h : XF e D1 D2) (g : XF e D2 D3) : XF e D1 D3 := ⟨fun c a b d => (g.1 c a b d).trans (h.1 c a b d), fun c a b j hj => (g.2.1 c a b j hj).trans (h.2.1 c a b j hj), fun i q => (g.2.2 i q).trans (h.2.2 i q)⟩
theorem Xfr.xf (h : Xfr D D') : XF e D D' := ⟨fun c a b _ => h.1 c a b, fun c a b j _ => by rw [h.1 c (by omega) (by omega)], h.2⟩
theorem XF.up {k : Nat} {v : Int} (h : XF e D D') (hk : 2600 ≤ k ∧ k ≤ 2605) : XF e D (up D' k e v) :=
  ⟨fun c a b d => by rw [up_cf (by omega)]; exact h.1 c a b d, fun c a b j hj => by rw [up_i hj]; exact h.2.1 c a b j hj, fun i q => by rw [up_c (by omega)]; exact h.2.2 i q⟩
def nS (S : aD) (m : Int) (k : Nat) (e : Int) : aD := up (u_num S m) k e (w_num S m)
def wS (S : aD) (l : Nat) (k : Nat) (e : Int) : aD := up (u_X6_takeWord S l) k e (v_X6_takeWord S l)
theorem st_n (hT : Txt T N) (tb : Tok T N b) {ws : List Atk} (h : RS T N ws b S) (m : Int) {k : Nat} (hk : 2600 ≤ k ∧ k ≤ 2605) : p_num S m ∧ RS T N (ws ++ [(0, m)]) b (nS S m k e) ∧ XF e S (nS S m k e) ∧ (∀ c, 2600 ≤ c → c ≠ k → nS S m k e c = S c) ∧ (∀ c, 2600 ≤ c → u_num S m c = S c) ∧ (Gok T N (ws ++ [(0, m)]) b → nS S m k e k e = nvt T N (gN T N ws b)) := by
  obtain ⟨p, r, x, v⟩ := rs_n hT tb h m
  unfold nS
  refine ⟨p, RS_up r (by omega), (Xfr.xf x.1).up hk, fun c c1 c2 => by rw [up_cf c2]; exact x.1.1 c (by omega) (by omega), fun c c1 => x.1.1 c (by omega) (by omega), fun g => by rw [up_eq]; exact v g⟩
theorem st_w (hT : Txt T N) (tb : Tok T N b) {ws : List Atk} (h : RS T N ws b S) {l : Nat} (hl : wok l = true) {k : Nat} (hk : 2600 ≤ k ∧ k ≤ 2605) : p_X6_takeWord S l ∧ RS T N (ws ++ [(1, (l : Int))]) b (wS S l k e) ∧ XF e S (wS S l k e) ∧ (∀ c, 2600 ≤ c → c ≠ k → wS S l k e c = S c) ∧ (Gok T N (ws ++ [(1, (l : Int))]) b → wS S l k e k e = wix T N (gN T N ws b) l) := by
  obtain ⟨p, r, x, v⟩ := rs_w hT tb h hl
  unfold wS
  refine ⟨p, RS_up r (by omega), (Xfr.xf x.1).up hk, fun c c1 c2 => by rw [up_cf c2]; exact x.1.1 c (by omega) (by omega), fun g => by rw [up_eq]; exact v g⟩
theorem st_w0 (hT : Txt T N) (tb : Tok T N b) {ws : List Atk} (h : RS T N ws b S) {l : Nat} (hl : wok l = true) : p_X6_takeWord S l ∧ RS T N (ws ++ [(1, (l : Int))]) b (u_X6_takeWord S l) ∧ XF e S (u_X6_takeWord S l) ∧ (∀ c, 2600 ≤ c → u_X6_takeWord S l c = S c) := by
  obtain ⟨p, r, x, v⟩ := rs_w hT tb h hl
  exact ⟨p, r, Xfr.xf x.1, fun c c1 => x.1.1 c (by omega) (by omega)⟩
/-- what the class has written of statement e -/
def Xv (T : Int → Int) (N i b e : Int) (E : aD) : Prop := E 2600 e = i ∧ E 2605 e = 0 ∧ (Gok T N (atm i) b → E 2601 e = vOf T N i b ∧ (i ≠ 2 → i ≠ 5 → E 2603 e = vA T N i b) ∧ (i = 2 → E 2604 e = vA T N i b ∧ E 2603 e = vB T N i b) ∧ (i = 0 → E 2604 e = vB T N i b) ∧ (i = 6 → E 2602 e = vB T N i b))
def mf (i : Int) : Int := if i = 0 ∨ i = 4 then 1 else 0
def sel (n c : Nat) (A : aA) (F E : aD) (i1 e : Int) (A' : aA) (D' : aD) : Prop := if F 2600 e = 0 then K_X6_readStatement_232 n c A E i1 e 1 A' D' else (if F 2600 e = 4 then K_X6_readStatement_232 n c A E i1 e 1 A' D' else K_X6_readStatement_232 n c A E i1 e 0 A' D')
theorem sel_i {F E : aD} {i : Int} (h : F 2600 e = i) (K : K_X6_readStatement_232 n c A E i1 e (mf i) A' D') : sel n c A F E i1 e A' D' := by
  unfold sel
  rw [h]
  unfold mf at K
  by_cases q : i = 0
  · rw [if_pos q]; rw [if_pos (Or.inl q)] at K; exact K
  · rw [if_neg q]
    by_cases q2 : i = 4
    · rw [if_pos q2]; rw [if_pos (Or.inr q2)] at K; exact K
    · rw [if_neg q2]; rw [if_neg (by omega)] at K; exact K
def xB1 (n c : Nat) (A : aA) (X : aD) (i1 e : Int) (A' : aA) (D' : aD) : Prop := (p_num X 9999) ∧ sel n c A (u_num X 9999) (nS X 9999 2603 e) i1 e A' D'
def xB0 (n c : Nat) (A : aA) (X : aD) (i1 e : Int) (A' : aA) (D' : aD) : Prop := (p_X6_takeWord X 1) ∧ (p_num (wS X 1 2601 e) 9999) ∧ (p_num (nS (wS X 1 2601 e) 9999 2603 e) 300) ∧ sel n c A (u_num (nS (wS X 1 2601 e) 9999 2603 e) 300) (nS (nS (wS X 1 2601 e) 9999 2603 e) 300 2604 e) i1 e A' D'
def xB2 (n c : Nat) (A : aA) (X : aD) (i1 e : Int) (A' : aA) (D' : aD) : Prop := (p_num X 100) ∧ (p_X6_takeWord (nS X 100 2604 e) 2) ∧ (p_num (u_X6_takeWord (nS X 100 2604 e) 2) 9999) ∧ sel n c A (u_num (u_X6_takeWord (nS X 100 2604 e) 2) 9999) (nS (u_X6_takeWord (nS X 100 2604 e) 2) 9999 2603 e) i1 e A' D'
def xB3 (n c : Nat) (A : aA) (X : aD) (i1 e : Int) (A' : aA) (D' : aD) : Prop := (p_X6_takeWord X 3) ∧ (p_num (wS X 3 2601 e) 9999) ∧ sel n c A (u_num (wS X 3 2601 e) 9999) (nS (wS X 3 2601 e) 9999 2603 e) i1 e A' D'
def xB5 (n c : Nat) (A : aA) (X : aD) (i1 e : Int) (A' : aA) (D' : aD) : Prop := (p_X6_takeWord X 4) ∧ sel n c A (u_X6_takeWord X 4) (u_X6_takeWord X 4) i1 e A' D'
def xB6 (n c : Nat) (A : aA) (X : aD) (i1 e : Int) (A' : aA) (D' : aD) : Prop := (p_X6_takeWord X 3) ∧ (p_X6_takeWord (wS X 3 2601 e) 3) ∧ (p_X6_takeWord (wS (wS X 3 2601 e) 3 2602 e) 5) ∧ (p_num (u_X6_takeWord (wS (wS X 3 2601 e) 3 2602 e) 5) 9999) ∧ sel n c A (u_num (u_X6_takeWord (wS (wS X 3 2601 e) 3 2602 e) 5) 9999) (nS (u_X6_takeWord (wS (wS X 3 2601 e) 3 2602 e) 5) 9999 2603 e) i1 e A' D'
def xBr (n c : Nat) (A : aA) (X : aD) (i1 e : Int) (A' : aA) (D' : aD) : Prop := if X 2600 e = 0 then xB0 n c A X i1 e A' D' else (if X 2600 e = 1 then xB1 n c A X i1 e A' D' else (if X 2600 e = 2 then xB2 n c A X i1 e A' D' else (if X 2600 e = 3 then xB3 n c A X i1 e A' D' else (if X 2600 e = 4 then xB3 n c A X i1 e A' D' else (if X 2600 e = 5 then xB5 n c A X i1 e A' D' else (if X 2600 e = 6 then xB6 n c A X i1 e A' D' else xB1 n c A X i1 e A' D'))))))
/-- the state when a statement begins: the kind is written, all else is nought -/
def X0 (i e : Int) (X : aD) : Prop := X 2600 e = i ∧ X 2601 e = 0 ∧ X 2605 e = 0
def xKd (n c : Nat) (A : aA) (T : Int → Int) (N i b e i1 : Int) (X : aD) (A' : aA) (D' : aD) (B : Prop) : Prop := ∃ E, RS T N (atm i) b E ∧ XF e X E ∧ Xv T N i b e E ∧ (K_X6_readStatement_232 n c A E i1 e (mf i) A' D' → B)
theorem xk1 {i : Int} (hi : i = 1 ∨ i = 7 ∨ i = 8) (hT : Txt T N) (tb : Tok T N b) (h : RS T N [] b X) (h0 : X0 i e X) : ∃ E, RS T N (atm i) b E ∧ XF e X E ∧ Xv T N i b e E ∧ ∀ n c A i1 A' D', K_X6_readStatement_232 n c A E i1 e (mf i) A' D' → xB1 n c A X i1 e A' D' := by
  obtain ⟨h1, h2, h3⟩ := h0
  have e1 : atm i = [(0, 9999)] := by rcases hi with rfl | rfl | rfl <;> rfl
  have e2 : vOf T N i b = 0 := by rcases hi with rfl | rfl | rfl <;> rfl
  have e3 : vA T N i b = nvt T N b := by rcases hi with rfl | rfl | rfl <;> rfl
  obtain ⟨p1, r1, x1, c1, u1, v1⟩ := st_n (e := e) hT tb h 9999 (k := 2603) ⟨by decide, by decide⟩
  refine ⟨nS X 9999 2603 e, by rw [e1]; exact r1, x1, ⟨by rw [c1 2600 (by decide) (by decide)]; exact h1, by rw [c1 2605 (by decide) (by decide)]; exact h3, fun g => ⟨by rw [c1 2601 (by decide) (by decide), e2]; exact h2, fun _ _ => ?_, fun q => (by omega), fun q => (by omega), fun q => (by omega)⟩⟩, fun n c A i1 A' D' K => ⟨p1, sel_i (i := i) (by rw [u1 2600 (by decide)]; exact h1) K⟩⟩
  rw [e1] at g
  rw [e3]; exact v1 g
theorem xk3 {i : Int} (hi : i = 3 ∨ i = 4) (hT : Txt T N) (tb : Tok T N b) (h : RS T N [] b X) (h0 : X0 i e X) : ∃ E, RS T N (atm i) b E ∧ XF e X E ∧ Xv T N i b e E ∧ ∀ n c A i1 A' D', K_X6_readStatement_232 n c A E i1 e (mf i) A' D' → xB3 n c A X i1 e A' D' := by
  obtain ⟨h1, h2, h3⟩ := h0
  have e1 : atm i = [(1, 3), (0, 9999)] := by rcases hi with rfl | rfl <;> rfl
  have e2 : vOf T N i b = wix T N b 3 := by rcases hi with rfl | rfl <;> rfl
  have e3 : vA T N i b = nvt T N (tN T N b) := by rcases hi with rfl | rfl <;> rfl
  obtain ⟨p1, r1, x1, c1, v1⟩ := st_w (e := e) hT tb h (l := 3) (by decide) (k := 2601) ⟨by decide, by decide⟩
  obtain ⟨p2, r2, x2, c2, u2, v2⟩ := st_n (e := e) hT tb r1 9999 (k := 2603) ⟨by decide, by decide⟩
  refine ⟨nS (wS X 3 2601 e) 9999 2603 e, by rw [e1]; exact r2, x1.trans x2, ⟨by rw [c2 2600 (by decide) (by decide), c1 2600 (by decide) (by decide)]; exact h1, by rw [c2 2605 (by decide) (by decide), c1 2605 (by decide) (by decide)]; exact h3, fun g => ?_⟩, fun n c A i1 A' D' K => ⟨p1, p2, sel_i (i := i) (by rw [u2 2600 (by decide), c1 2600 (by decide) (by decide)]; exact h1) K⟩⟩
  rw [e1] at g
  refine ⟨by rw [c2 2601 (by decide) (by decide), e2]; exact v1 ⟨g.1, trivial⟩, fun _ _ => by rw [e3]; exact v2 g, fun q => (by omega), fun q => (by omega), fun q => (by omega)⟩
theorem xk0 (hT : Txt T N) (tb : Tok T N b) (h : RS T N [] b X) (h0 : X0 0 e X) : ∃ E, RS T N (atm 0) b E ∧ XF e X E ∧ Xv T N 0 b e E ∧ ∀ n c A i1 A' D', K_X6_readStatement_232 n c A E i1 e (mf 0) A' D' → xB0 n c A X i1 e A' D' := by
  obtain ⟨h1, h2, h3⟩ := h0
  obtain ⟨p1, r1, x1, c1, v1⟩ := st_w (e := e) hT tb h (l := 1) (by decide) (k := 2601) ⟨by decide, by decide⟩
  obtain ⟨p2, r2, x2, c2, u2, v2⟩ := st_n (e := e) hT tb r1 9999 (k := 2603) ⟨by decide, by decide⟩
  obtain ⟨p3, r3, x3, c3, u3, v3⟩ := st_n (e := e) hT tb r2 300 (k := 2604) ⟨by decide, by decide⟩
  refine ⟨nS (nS (wS X 1 2601 e) 9999 2603 e) 300 2604 e, r3, (x1.trans x2).trans x3, ⟨by rw [c3 2600 (by decide) (by decide), c2 2600 (by decide) (by decide), c1 2600 (by decide) (by decide)]; exact h1, by rw [c3 2605 (by decide) (by decide), c2 2605 (by decide) (by decide), c1 2605 (by decide) (by decide)]; exact h3, fun g => ?_⟩, fun n c A i1 A' D' K => ⟨p1, p2, p3, sel_i (i := 0) (by rw [u3 2600 (by decide), c2 2600 (by decide) (by decide), c1 2600 (by decide) (by decide)]; exact h1) K⟩⟩
  obtain ⟨g1, g2, g3, _⟩ := g
  refine ⟨by rw [c3 2601 (by decide) (by decide), c2 2601 (by decide) (by decide)]; exact v1 ⟨g1, trivial⟩, fun _ _ => by rw [c3 2603 (by decide) (by decide)]; exact v2 ⟨g1, g2, trivial⟩, fun q => (by omega), fun _ => v3 ⟨g1, g2, g3, trivial⟩, fun q => (by omega)⟩
theorem xk2 (hT : Txt T N) (tb : Tok T N b) (h : RS T N [] b X) (h0 : X0 2 e X) : ∃ E, RS T N (atm 2) b E ∧ XF e X E ∧ Xv T N 2 b e E ∧ ∀ n c A i1 A' D', K_X6_readStatement_232 n c A E i1 e (mf 2) A' D' → xB2 n c A X i1 e A' D' := by
  obtain ⟨h1, h2, h3⟩ := h0
  obtain ⟨p1, r1, x1, c1, u1, v1⟩ := st_n (e := e) hT tb h 100 (k := 2604) ⟨by decide, by decide⟩
  obtain ⟨p2, r2, x2, c2⟩ := st_w0 (e := e) hT tb r1 (l := 2) (by decide)
  obtain ⟨p3, r3, x3, c3, u3, v3⟩ := st_n (e := e) hT tb r2 9999 (k := 2603) ⟨by decide, by decide⟩
  refine ⟨nS (u_X6_takeWord (nS X 100 2604 e) 2) 9999 2603 e, r3, (x1.trans x2).trans x3, ⟨by rw [c3 2600 (by decide) (by decide), c2 2600 (by decide), c1 2600 (by decide) (by decide)]; exact h1, by rw [c3 2605 (by decide) (by decide), c2 2605 (by decide), c1 2605 (by decide) (by decide)]; exact h3, fun g => ?_⟩, fun n c A i1 A' D' K => ⟨p1, p2, p3, sel_i (i := 2) (by rw [u3 2600 (by decide), c2 2600 (by decide), c1 2600 (by decide) (by decide)]; exact h1) K⟩⟩
  obtain ⟨g1, g2, g3, _⟩ := g
  refine ⟨by rw [c3 2601 (by decide) (by decide), c2 2601 (by decide), c1 2601 (by decide) (by decide)]; exact h2, fun q => absurd rfl q, fun _ => ⟨by rw [c3 2604 (by decide) (by decide), c2 2604 (by decide)]; exact v1 ⟨g1, trivial⟩, v3 ⟨g1, g2, g3, trivial⟩⟩, fun q => (by omega), fun q => (by omega)⟩
theorem xk5 (hT : Txt T N) (tb : Tok T N b) (h : RS T N [] b X) (h0 : X0 5 e X) : ∃ E, RS T N (atm 5) b E ∧ XF e X E ∧ Xv T N 5 b e E ∧ ∀ n c A i1 A' D', K_X6_readStatement_232 n c A E i1 e (mf 5) A' D' → xB5 n c A X i1 e A' D' := by
  obtain ⟨h1, h2, h3⟩ := h0
  obtain ⟨p2, r2, x2, c2⟩ := st_w0 (e := e) hT tb h (l := 4) (by decide)
  refine ⟨u_X6_takeWord X 4, r2, x2, ⟨by rw [c2 2600 (by decide)]; exact h1, by rw [c2 2605 (by decide)]; exact h3, fun g => ⟨by rw [c2 2601 (by decide)]; exact h2, fun _ q => absurd rfl q, fun q => (by omega), fun q => (by omega), fun q => (by omega)⟩⟩, fun n c A i1 A' D' K => ⟨p2, sel_i (i := 5) (by rw [c2 2600 (by decide)]; exact h1) K⟩⟩
theorem xk6 (hT : Txt T N) (tb : Tok T N b) (h : RS T N [] b X) (h0 : X0 6 e X) : ∃ E, RS T N (atm 6) b E ∧ XF e X E ∧ Xv T N 6 b e E ∧ ∀ n c A i1 A' D', K_X6_readStatement_232 n c A E i1 e (mf 6) A' D' → xB6 n c A X i1 e A' D' := by
  obtain ⟨h1, h2, h3⟩ := h0
  obtain ⟨p1, r1, x1, c1, v1⟩ := st_w (e := e) hT tb h (l := 3) (by decide) (k := 2601) ⟨by decide, by decide⟩
  obtain ⟨p2, r2, x2, c2, v2⟩ := st_w (e := e) hT tb r1 (l := 3) (by decide) (k := 2602) ⟨by decide, by decide⟩
  obtain ⟨p3, r3, x3, c3⟩ := st_w0 (e := e) hT tb r2 (l := 5) (by decide)
  obtain ⟨p4, r4, x4, c4, u4, v4⟩ := st_n (e := e) hT tb r3 9999 (k := 2603) ⟨by decide, by decide⟩
  refine ⟨nS (u_X6_takeWord (wS (wS X 3 2601 e) 3 2602 e) 5) 9999 2603 e, r4, ((x1.trans x2).trans x3).trans x4, ⟨by rw [c4 2600 (by decide) (by decide), c3 2600 (by decide), c2 2600 (by decide) (by decide), c1 2600 (by decide) (by decide)]; exact h1, by rw [c4 2605 (by decide) (by decide), c3 2605 (by decide), c2 2605 (by decide) (by decide), c1 2605 (by decide) (by decide)]; exact h3, fun g => ?_⟩, fun n c A i1 A' D' K => ⟨p1, p2, p3, p4, sel_i (i := 6) (by rw [u4 2600 (by decide), c3 2600 (by decide), c2 2600 (by decide) (by decide), c1 2600 (by decide) (by decide)]; exact h1) K⟩⟩
  obtain ⟨g1, g2, g3, g4, _⟩ := g
  refine ⟨by rw [c4 2601 (by decide) (by decide), c3 2601 (by decide), c2 2601 (by decide) (by decide)]; exact v1 ⟨g1, trivial⟩, fun _ _ => v4 ⟨g1, g2, g3, g4, trivial⟩, fun q => (by omega), fun q => (by omega), fun _ => by rw [c4 2602 (by decide) (by decide), c3 2602 (by decide)]; exact v2 ⟨g1, g2, trivial⟩⟩
theorem xk_all {i : Int} (hi : 0 ≤ i ∧ i ≤ 8) (hT : Txt T N) (tb : Tok T N b) (h : Xst T N b X) (h0 : X0 i e X) : ∃ E, RS T N (atm i) b E ∧ XF e X E ∧ Xv T N i b e E ∧ ∀ n c A i1 A' D', K_X6_readStatement_232 n c A E i1 e (mf i) A' D' → xBr n c A X i1 e A' D' := by
  have hR : RS T N [] b X := Or.inl ⟨trivial, h⟩
  have h1 := h0.1
  unfold xBr
  rw [h1]
  by_cases q0 : i = 0
  · subst q0; simp only [if_true]; exact xk0 hT tb hR h0
  by_cases q2 : i = 2
  · subst q2
    have := xk2 hT tb hR h0
    simpa only [show ¬ (2 : Int) = 0 by decide, show ¬ (2 : Int) = 1 by decide, if_false, if_true] using this
  by_cases q5 : i = 5
  · subst q5
    have := xk5 hT tb hR h0
    simpa only [show ¬ (5 : Int) = 0 by decide, show ¬ (5 : Int) = 1 by decide, show ¬ (5 : Int) = 2 by decide, show ¬ (5 : Int) = 3 by decide, show ¬ (5 : Int) = 4 by decide, if_false, if_true] using this
  by_cases q6 : i = 6
  · subst q6
    have := xk6 hT tb hR h0
    simpa only [show ¬ (6 : Int) = 0 by decide, show ¬ (6 : Int) = 1 by decide, show ¬ (6 : Int) = 2 by decide, show ¬ (6 : Int) = 3 by decide, show ¬ (6 : Int) = 4 by decide, show ¬ (6 : Int) = 5 by decide, if_false, if_true] using this
  by_cases q3 : i = 3 ∨ i = 4
  · have := xk3 q3 hT tb hR h0
    rcases q3 with rfl | rfl
    · simpa only [show ¬ (3 : Int) = 0 by decide, show ¬ (3 : Int) = 1 by decide, show ¬ (3 : Int) = 2 by decide, if_false, if_true] using this
    · simpa only [show ¬ (4 : Int) = 0 by decide, show ¬ (4 : Int) = 1 by decide, show ¬ (4 : Int) = 2 by decide, show ¬ (4 : Int) = 3 by decide, if_false, if_true] using this
  · have q1 : i = 1 ∨ i = 7 ∨ i = 8 := by omega
    have := xk1 q1 hT tb hR h0
    rcases q1 with rfl | rfl | rfl
    · simpa only [show ¬ (1 : Int) = 0 by decide, if_false, if_true] using this
    · simpa only [show ¬ (7 : Int) = 0 by decide, show ¬ (7 : Int) = 1 by decide, show ¬ (7 : Int) = 2 by decide, show ¬ (7 : Int) = 3 by decide, show ¬ (7 : Int) = 4 by decide, show ¬ (7 : Int) = 5 by decide, show ¬ (7 : Int) = 6 by decide, if_false] using this
    · simpa only [show ¬ (8 : Int) = 0 by decide, show ¬ (8 : Int) = 1 by decide, show ¬ (8 : Int) = 2 by decide, show ¬ (8 : Int) = 3 by decide, show ¬ (8 : Int) = 4 by decide, show ¬ (8 : Int) = 5 by decide, show ¬ (8 : Int) = 6 by decide, if_false] using this
end Xkd
