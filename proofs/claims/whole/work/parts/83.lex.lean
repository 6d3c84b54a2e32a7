/-! The text of rules: blanks, words, numbers, signs; what the class's reader sees of it. -/
section Lex
variable {n : Nat} {A : aA} {D : aD}
def rnF (p : Int → Bool) : Nat → Int → Int
  | 0, a => a
  | k + 1, a => if p a = true then rnF p k (a + 1) else a
/-- the first place from a on where p ends, the text's end at the latest -/
def rn (p : Int → Bool) (N a : Int) : Int := rnF p (N - a).toNat a
theorem rn_end {p : Int → Bool} {N a : Int} (h : N ≤ a) : rn p N a = a := by unfold rn; rw [show (N - a).toNat = 0 by omega]; rfl
theorem rn_no {p : Int → Bool} {N a : Int} (h : p a = false) : rn p N a = a := by
  unfold rn
  cases (N - a).toNat with
  | zero => rfl
  | succ k => show (if p a = true then _ else a) = a; rw [if_neg (by rw [h]; decide)]
theorem rn_yes {p : Int → Bool} {N a : Int} (h : p a = true) (h1 : a < N) : rn p N a = rn p N (a + 1) := by
  unfold rn
  rw [show (N - a).toNat = (N - (a + 1)).toNat + 1 by omega]
  show (if p a = true then _ else a) = _
  rw [if_pos h]
theorem rnF_b (p : Int → Bool) : ∀ (k : Nat) (a : Int), a ≤ rnF p k a ∧ rnF p k a ≤ a + k ∧ (∀ i, a ≤ i → i < rnF p k a → p i = true) ∧ (rnF p k a < a + k → p (rnF p k a) = false)
  | 0, a => ⟨Int.le_refl _, by show a ≤ _; omega, fun i h1 h2 => absurd h2 (by show ¬ i < a; omega), fun h => absurd h (by show ¬ a < _; omega)⟩
  | k + 1, a => by
    have ih := rnF_b p k (a + 1)
    by_cases h : p a = true
    · have e : rnF p (k + 1) a = rnF p k (a + 1) := if_pos h
      rw [e]
      refine ⟨by omega, by omega, fun i h1 h2 => ?_, fun q => ih.2.2.2 (by omega)⟩
      by_cases g : i = a
      · rw [g]; exact h
      · exact ih.2.2.1 i (by omega) h2
    · have e : rnF p (k + 1) a = a := if_neg h
      rw [e]
      exact ⟨Int.le_refl _, by omega, fun i h1 h2 => absurd h2 (by omega), fun _ => by simpa using h⟩
theorem rn_b {p : Int → Bool} {N a : Int} (h : a ≤ N) : a ≤ rn p N a ∧ rn p N a ≤ N ∧ (∀ i, a ≤ i → i < rn p N a → p i = true) ∧ (rn p N a < N → p (rn p N a) = false) := by
  have := rnF_b p (N - a).toNat a
  unfold rn
  refine ⟨this.1, by omega, this.2.2.1, fun q => this.2.2.2 (by omega)⟩
theorem rn_cg {p q : Int → Bool} {N : Int} : ∀ (k : Nat) (a : Int), (∀ i, a ≤ i → i < a + k → p i = q i) → rnF p k a = rnF q k a
  | 0, _, _ => rfl
  | k + 1, a, h => by
    show (if p a = true then rnF p k (a + 1) else a) = if q a = true then rnF q k (a + 1) else a
    rw [h a (Int.le_refl _) (by omega), rn_cg (N := N) k (a + 1) (fun i h1 h2 => h i (by omega) (by omega))]
/-- what a byte is: a letter, a digit, a sign, or strange -/
def kc (c : Int) : Int := if 97 ≤ c ∧ c ≤ 122 then 1 else if 48 ≤ c ∧ c ≤ 57 then 2 else if c = 60 ∨ c = 62 ∨ c = 61 ∨ c = 40 ∨ c = 41 ∨ c = 59 then 3 else 4
theorem kc1 {c : Int} : kc c = 1 ↔ 97 ≤ c ∧ c ≤ 122 := by unfold kc; repeat' split <;> omega
theorem kc2 {c : Int} : kc c = 2 ↔ 48 ≤ c ∧ c ≤ 57 := by unfold kc; repeat' split <;> omega
theorem kc3 {c : Int} : kc c = 3 ↔ c = 60 ∨ c = 62 ∨ c = 61 ∨ c = 40 ∨ c = 41 ∨ c = 59 := by unfold kc; repeat' split <;> omega
theorem kc_b (c : Int) : 1 ≤ kc c ∧ kc c ≤ 4 := by unfold kc; repeat' split <;> omega
def bkP (T : Int → Int) (i : Int) : Bool := decide (T i = 32 ∨ T i = 10)
def ofP (T : Int → Int) (k i : Int) : Bool := decide (kc (T i) = k)
/-- where the next piece begins, what it is, where it ends -/
def tS (T : Int → Int) (N a : Int) : Int := rn (bkP T) N a
def tK (T : Int → Int) (N a : Int) : Int := if a < N then kc (T a) else 0
def tE (T : Int → Int) (N a : Int) : Int := if a < N then (if kc (T a) ≤ 2 then rn (ofP T (kc (T a))) N a else a + 1) else a
theorem tS_tS {T : Int → Int} {N a : Int} (h : a ≤ N) : tS T N (tS T N a) = tS T N a := by
  have := rn_b (p := bkP T) h
  unfold tS at *
  by_cases q : rn (bkP T) N a < N
  · exact rn_no (this.2.2.2 q)
  · exact rn_end (by omega)
set_option maxRecDepth 100000 in
theorem and255F : ∀ m : Fin 256, o_and ((m.val : Int) - 128) 255 = if (m.val : Int) - 128 < 0 then (m.val : Int) + 128 else (m.val : Int) - 128 := by decide
theorem and255 {c : Int} (h : -128 ≤ c ∧ c ≤ 127) : o_and c 255 = if c < 0 then c + 256 else c := by
  have := and255F ⟨(c + 128).toNat, by omega⟩
  simp only [Int.toNat_of_nonneg (show 0 ≤ c + 128 by omega)] at this
  rw [show c + 128 - 128 = c by omega] at this
  rw [this]
  split <;> omega
def bys (D : aD) : Prop := ∀ i, 0 ≤ i → i < D 47 4 → -128 ≤ D 48 i ∧ D 48 i ≤ 127
def w_tok (D : aD) (a : Int) : Int := kc (D 48 a)
def p_tok (D : aD) (a : Int) : Prop := (0 ≤ a ∧ a < 700) ∧ -128 ≤ D 48 a ∧ D 48 a ≤ 127
abbrev P_X6_tokenAt : Nat → Option am_E := am_fy tb_X6_tokenAt
def K_X6_tokenAt_85 (n : Nat) (A : aA) (D : aD) (x : Int) (D' : aD) : Prop := Lp n 0 P_X6_tokenAt 85 [none, none, none, none] [] A D (ri x) A D'
def K_X6_tokenAt_90 (n : Nat) (A : aA) (D : aD) (ta0 : Int) (x : Int) (D' : aD) : Prop := Lp n 0 P_X6_tokenAt 90 [none, none, none, none] [am_i (wz ta0)] A D (ri x) A D'
set_option maxRecDepth 100000 in
theorem rl_X6_tokenAt {n : Nat} {A : aA} {D D' : aD} (a1 : Int) (h1 : rg a1) {x : Int} (hp : (0 ≤ a1 ∧ a1 < 700) ∧ (if o_and (D 48 a1) 255 < 97 then (if o_and (D 48 a1) 255 < 48 then (if o_and (D 48 a1) 255 = 60 then K_X6_tokenAt_85 (n) A D x D' else (if o_and (D 48 a1) 255 = 62 then K_X6_tokenAt_85 (n) A D x D' else (if o_and (D 48 a1) 255 = 61 then K_X6_tokenAt_85 (n) A D x D' else (if o_and (D 48 a1) 255 = 40 then K_X6_tokenAt_85 (n) A D x D' else (if o_and (D 48 a1) 255 = 41 then K_X6_tokenAt_85 (n) A D x D' else (if o_and (D 48 a1) 255 = 59 then K_X6_tokenAt_85 (n) A D x D' else K_X6_tokenAt_90 (n) A D 4 x D')))))) else (if 57 < o_and (D 48 a1) 255 then (if o_and (D 48 a1) 255 = 60 then K_X6_tokenAt_85 (n) A D x D' else (if o_and (D 48 a1) 255 = 62 then K_X6_tokenAt_85 (n) A D x D' else (if o_and (D 48 a1) 255 = 61 then K_X6_tokenAt_85 (n) A D x D' else (if o_and (D 48 a1) 255 = 40 then K_X6_tokenAt_85 (n) A D x D' else (if o_and (D 48 a1) 255 = 41 then K_X6_tokenAt_85 (n) A D x D' else (if o_and (D 48 a1) 255 = 59 then K_X6_tokenAt_85 (n) A D x D' else K_X6_tokenAt_90 (n) A D 4 x D')))))) else (x = 2 ∧ D' = D))) else (if 122 < o_and (D 48 a1) 255 then (if o_and (D 48 a1) 255 < 48 then (if o_and (D 48 a1) 255 = 60 then K_X6_tokenAt_85 (n) A D x D' else (if o_and (D 48 a1) 255 = 62 then K_X6_tokenAt_85 (n) A D x D' else (if o_and (D 48 a1) 255 = 61 then K_X6_tokenAt_85 (n) A D x D' else (if o_and (D 48 a1) 255 = 40 then K_X6_tokenAt_85 (n) A D x D' else (if o_and (D 48 a1) 255 = 41 then K_X6_tokenAt_85 (n) A D x D' else (if o_and (D 48 a1) 255 = 59 then K_X6_tokenAt_85 (n) A D x D' else K_X6_tokenAt_90 (n) A D 4 x D')))))) else (if 57 < o_and (D 48 a1) 255 then (if o_and (D 48 a1) 255 = 60 then K_X6_tokenAt_85 (n) A D x D' else (if o_and (D 48 a1) 255 = 62 then K_X6_tokenAt_85 (n) A D x D' else (if o_and (D 48 a1) 255 = 61 then K_X6_tokenAt_85 (n) A D x D' else (if o_and (D 48 a1) 255 = 40 then K_X6_tokenAt_85 (n) A D x D' else (if o_and (D 48 a1) 255 = 41 then K_X6_tokenAt_85 (n) A D x D' else (if o_and (D 48 a1) 255 = 59 then K_X6_tokenAt_85 (n) A D x D' else K_X6_tokenAt_90 (n) A D 4 x D')))))) else (x = 2 ∧ D' = D))) else (x = 1 ∧ D' = D)))) : Ev (n) (1) 56 [am_r (some 47), am_i (wz a1)] A D (ri x) A D' := by
  refine Ev_of (c := 0) (P := P_X6_tokenAt) (lo := [some (am_r (some 47)), some (am_i (wz a1)), none, none]) rfl rfl rfl (fun d hd s hr => ?_)
  refine ok (m_aload_n (q := 1) rfl rfl rfl rfl) ?_
  refine ok (m_gfc (q := 4) rfl rfl rfl hr rfl rfl rfl) ?_
  refine ok (m_iload_n (q := 5) rfl rfl rfl rfl) ?_
  obtain ⟨g1, hp⟩ := hp
  refine ok (m_bals (q := 6) rfl rfl rfl hr rfl rfl g1 rfl) ?_
  refine ok (m_sipush (q := 9) rfl rfl rfl) ?_
  refine ok (m_iand (q := 10) rfl rfl rfl) ?_
  refine ok (m_istore_n (q := 11) (lo' := [some (am_r (some 47)), some (am_i (wz a1)), some (am_i (wz (o_and (D 48 a1) 255))), none]) rfl rfl rfl rfl rfl) ?_
  refine ok (m_iload_n (q := 12) rfl rfl rfl rfl) ?_
  refine ok (m_bipush (q := 14) rfl rfl rfl) ?_
  refine okc (m_cmplt (qt := 25) (qf := 17) rfl rfl (rg_o _) ⟨by decide, by decide⟩ rfl rfl) (fun c2 => ?_) (fun c2 => ?_)
  · replace hp := ip c2 hp
    refine ok (m_iload_n (q := 26) rfl rfl rfl rfl) ?_
    refine ok (m_bipush (q := 28) rfl rfl rfl) ?_
    refine okc (m_cmplt (qt := 39) (qf := 31) rfl rfl (rg_o _) ⟨by decide, by decide⟩ rfl rfl) (fun c3 => ?_) (fun c3 => ?_)
    · replace hp := ip c3 hp
      refine ok (m_iload_n (q := 40) rfl rfl rfl rfl) ?_
      refine ok (m_bipush (q := 42) rfl rfl rfl) ?_
      refine okc (m_cmpeq (qt := 57) (qf := 45) rfl rfl (rg_o _) ⟨by decide, by decide⟩ rfl rfl) (fun c4 => ?_) (fun c4 => ?_)
      · replace hp := ip c4 hp
        refine ok (m_iconst (q := 58) rfl rfl rfl) ?_
        refine ok (m_goto (q := 62) rfl rfl rfl) ?_
        refine ok (m_istore_n (q := 63) (lo' := [some (am_r (some 47)), some (am_i (wz a1)), some (am_i (wz (o_and (D 48 a1) 255))), some (am_i (wz 1))]) rfl rfl rfl rfl rfl) ?_
        refine ok (m_iload_n (q := 64) rfl rfl rfl rfl) ?_
        refine ok ((m_ifne (qt := 85) (qf := 67) rfl rfl ⟨by decide, by decide⟩ rfl rfl).trans (if_neg (by decide))) ?_
        refine ok (mk rfl (lo' := [none, none, none, none]) rfl) ?_
        exact hp d hd _ hr
      · replace hp := iq c4 hp
        refine ok (m_iload_n (q := 46) rfl rfl rfl rfl) ?_
        refine ok (m_bipush (q := 48) rfl rfl rfl) ?_
        refine okc (m_cmpeq (qt := 57) (qf := 51) rfl rfl (rg_o _) ⟨by decide, by decide⟩ rfl rfl) (fun c5 => ?_) (fun c5 => ?_)
        · replace hp := ip c5 hp
          refine ok (m_iconst (q := 58) rfl rfl rfl) ?_
          refine ok (m_goto (q := 62) rfl rfl rfl) ?_
          refine ok (m_istore_n (q := 63) (lo' := [some (am_r (some 47)), some (am_i (wz a1)), some (am_i (wz (o_and (D 48 a1) 255))), some (am_i (wz 1))]) rfl rfl rfl rfl rfl) ?_
          refine ok (m_iload_n (q := 64) rfl rfl rfl rfl) ?_
          refine ok ((m_ifne (qt := 85) (qf := 67) rfl rfl ⟨by decide, by decide⟩ rfl rfl).trans (if_neg (by decide))) ?_
          refine ok (mk rfl (lo' := [none, none, none, none]) rfl) ?_
          exact hp d hd _ hr
        · replace hp := iq c5 hp
          refine ok (m_iload_n (q := 52) rfl rfl rfl rfl) ?_
          refine ok (m_bipush (q := 54) rfl rfl rfl) ?_
          refine okc (m_cmpne (qt := 61) (qf := 57) rfl rfl (rg_o _) ⟨by decide, by decide⟩ rfl rfl) (fun c6 => ?_) (fun c6 => ?_)
          · replace hp := ip c6 hp
            refine ok (m_iconst (q := 58) rfl rfl rfl) ?_
            refine ok (m_goto (q := 62) rfl rfl rfl) ?_
            refine ok (m_istore_n (q := 63) (lo' := [some (am_r (some 47)), some (am_i (wz a1)), some (am_i (wz (o_and (D 48 a1) 255))), some (am_i (wz 1))]) rfl rfl rfl rfl rfl) ?_
            refine ok (m_iload_n (q := 64) rfl rfl rfl rfl) ?_
            refine ok ((m_ifne (qt := 85) (qf := 67) rfl rfl ⟨by decide, by decide⟩ rfl rfl).trans (if_neg (by decide))) ?_
            refine ok (mk rfl (lo' := [none, none, none, none]) rfl) ?_
            exact hp d hd _ hr
          · replace hp := iq c6 hp
            refine ok (m_iconst (q := 62) rfl rfl rfl) ?_
            refine ok (m_istore_n (q := 63) (lo' := [some (am_r (some 47)), some (am_i (wz a1)), some (am_i (wz (o_and (D 48 a1) 255))), some (am_i (wz 0))]) rfl rfl rfl rfl rfl) ?_
            refine ok (m_iload_n (q := 64) rfl rfl rfl rfl) ?_
            refine ok ((m_ifne (qt := 85) (qf := 67) rfl rfl ⟨by decide, by decide⟩ rfl rfl).trans (if_pos (by decide))) ?_
            refine ok (m_iload_n (q := 68) rfl rfl rfl rfl) ?_
            refine ok (m_bipush (q := 70) rfl rfl rfl) ?_
            refine okc (m_cmpeq (qt := 85) (qf := 73) rfl rfl (rg_o _) ⟨by decide, by decide⟩ rfl rfl) (fun c7 => ?_) (fun c7 => ?_)
            · replace hp := ip c7 hp
              refine ok (mk rfl (lo' := [none, none, none, none]) rfl) ?_
              exact hp d hd _ hr
            · replace hp := iq c7 hp
              refine ok (m_iload_n (q := 74) rfl rfl rfl rfl) ?_
              refine ok (m_bipush (q := 76) rfl rfl rfl) ?_
              refine okc (m_cmpeq (qt := 85) (qf := 79) rfl rfl (rg_o _) ⟨by decide, by decide⟩ rfl rfl) (fun c8 => ?_) (fun c8 => ?_)
              · replace hp := ip c8 hp
                refine ok (mk rfl (lo' := [none, none, none, none]) rfl) ?_
                exact hp d hd _ hr
              · replace hp := iq c8 hp
                refine ok (m_iload_n (q := 80) rfl rfl rfl rfl) ?_
                refine ok (m_bipush (q := 82) rfl rfl rfl) ?_
                refine okc (m_cmpne (qt := 89) (qf := 85) rfl rfl (rg_o _) ⟨by decide, by decide⟩ rfl rfl) (fun c9 => ?_) (fun c9 => ?_)
                · replace hp := ip c9 hp
                  refine ok (mk rfl (lo' := [none, none, none, none]) rfl) ?_
                  exact hp d hd _ hr
                · replace hp := iq c9 hp
                  refine ok (m_iconst (q := 90) rfl rfl rfl) ?_
                  refine ok (mk rfl (lo' := [none, none, none, none]) rfl) ?_
                  exact hp d hd _ hr
    · replace hp := iq c3 hp
      refine ok (m_iload_n (q := 32) rfl rfl rfl rfl) ?_
      refine ok (m_bipush (q := 34) rfl rfl rfl) ?_
      refine okc (m_cmpgt (qt := 39) (qf := 37) rfl rfl (rg_o _) ⟨by decide, by decide⟩ rfl rfl) (fun c10 => ?_) (fun c10 => ?_)
      · replace hp := ip c10 hp
        refine ok (m_iload_n (q := 40) rfl rfl rfl rfl) ?_
        refine ok (m_bipush (q := 42) rfl rfl rfl) ?_
        refine okc (m_cmpeq (qt := 57) (qf := 45) rfl rfl (rg_o _) ⟨by decide, by decide⟩ rfl rfl) (fun c11 => ?_) (fun c11 => ?_)
        · replace hp := ip c11 hp
          refine ok (m_iconst (q := 58) rfl rfl rfl) ?_
          refine ok (m_goto (q := 62) rfl rfl rfl) ?_
          refine ok (m_istore_n (q := 63) (lo' := [some (am_r (some 47)), some (am_i (wz a1)), some (am_i (wz (o_and (D 48 a1) 255))), some (am_i (wz 1))]) rfl rfl rfl rfl rfl) ?_
          refine ok (m_iload_n (q := 64) rfl rfl rfl rfl) ?_
          refine ok ((m_ifne (qt := 85) (qf := 67) rfl rfl ⟨by decide, by decide⟩ rfl rfl).trans (if_neg (by decide))) ?_
          refine ok (mk rfl (lo' := [none, none, none, none]) rfl) ?_
          exact hp d hd _ hr
        · replace hp := iq c11 hp
          refine ok (m_iload_n (q := 46) rfl rfl rfl rfl) ?_
          refine ok (m_bipush (q := 48) rfl rfl rfl) ?_
          refine okc (m_cmpeq (qt := 57) (qf := 51) rfl rfl (rg_o _) ⟨by decide, by decide⟩ rfl rfl) (fun c12 => ?_) (fun c12 => ?_)
          · replace hp := ip c12 hp
            refine ok (m_iconst (q := 58) rfl rfl rfl) ?_
            refine ok (m_goto (q := 62) rfl rfl rfl) ?_
            refine ok (m_istore_n (q := 63) (lo' := [some (am_r (some 47)), some (am_i (wz a1)), some (am_i (wz (o_and (D 48 a1) 255))), some (am_i (wz 1))]) rfl rfl rfl rfl rfl) ?_
            refine ok (m_iload_n (q := 64) rfl rfl rfl rfl) ?_
            refine ok ((m_ifne (qt := 85) (qf := 67) rfl rfl ⟨by decide, by decide⟩ rfl rfl).trans (if_neg (by decide))) ?_
            refine ok (mk rfl (lo' := [none, none, none, none]) rfl) ?_
            exact hp d hd _ hr
          · replace hp := iq c12 hp
            refine ok (m_iload_n (q := 52) rfl rfl rfl rfl) ?_
            refine ok (m_bipush (q := 54) rfl rfl rfl) ?_
            refine okc (m_cmpne (qt := 61) (qf := 57) rfl rfl (rg_o _) ⟨by decide, by decide⟩ rfl rfl) (fun c13 => ?_) (fun c13 => ?_)
            · replace hp := ip c13 hp
              refine ok (m_iconst (q := 58) rfl rfl rfl) ?_
              refine ok (m_goto (q := 62) rfl rfl rfl) ?_
              refine ok (m_istore_n (q := 63) (lo' := [some (am_r (some 47)), some (am_i (wz a1)), some (am_i (wz (o_and (D 48 a1) 255))), some (am_i (wz 1))]) rfl rfl rfl rfl rfl) ?_
              refine ok (m_iload_n (q := 64) rfl rfl rfl rfl) ?_
              refine ok ((m_ifne (qt := 85) (qf := 67) rfl rfl ⟨by decide, by decide⟩ rfl rfl).trans (if_neg (by decide))) ?_
              refine ok (mk rfl (lo' := [none, none, none, none]) rfl) ?_
              exact hp d hd _ hr
            · replace hp := iq c13 hp
              refine ok (m_iconst (q := 62) rfl rfl rfl) ?_
              refine ok (m_istore_n (q := 63) (lo' := [some (am_r (some 47)), some (am_i (wz a1)), some (am_i (wz (o_and (D 48 a1) 255))), some (am_i (wz 0))]) rfl rfl rfl rfl rfl) ?_
              refine ok (m_iload_n (q := 64) rfl rfl rfl rfl) ?_
              refine ok ((m_ifne (qt := 85) (qf := 67) rfl rfl ⟨by decide, by decide⟩ rfl rfl).trans (if_pos (by decide))) ?_
              refine ok (m_iload_n (q := 68) rfl rfl rfl rfl) ?_
              refine ok (m_bipush (q := 70) rfl rfl rfl) ?_
              refine okc (m_cmpeq (qt := 85) (qf := 73) rfl rfl (rg_o _) ⟨by decide, by decide⟩ rfl rfl) (fun c14 => ?_) (fun c14 => ?_)
              · replace hp := ip c14 hp
                refine ok (mk rfl (lo' := [none, none, none, none]) rfl) ?_
                exact hp d hd _ hr
              · replace hp := iq c14 hp
                refine ok (m_iload_n (q := 74) rfl rfl rfl rfl) ?_
                refine ok (m_bipush (q := 76) rfl rfl rfl) ?_
                refine okc (m_cmpeq (qt := 85) (qf := 79) rfl rfl (rg_o _) ⟨by decide, by decide⟩ rfl rfl) (fun c15 => ?_) (fun c15 => ?_)
                · replace hp := ip c15 hp
                  refine ok (mk rfl (lo' := [none, none, none, none]) rfl) ?_
                  exact hp d hd _ hr
                · replace hp := iq c15 hp
                  refine ok (m_iload_n (q := 80) rfl rfl rfl rfl) ?_
                  refine ok (m_bipush (q := 82) rfl rfl rfl) ?_
                  refine okc (m_cmpne (qt := 89) (qf := 85) rfl rfl (rg_o _) ⟨by decide, by decide⟩ rfl rfl) (fun c16 => ?_) (fun c16 => ?_)
                  · replace hp := ip c16 hp
                    refine ok (mk rfl (lo' := [none, none, none, none]) rfl) ?_
                    exact hp d hd _ hr
                  · replace hp := iq c16 hp
                    refine ok (m_iconst (q := 90) rfl rfl rfl) ?_
                    refine ok (mk rfl (lo' := [none, none, none, none]) rfl) ?_
                    exact hp d hd _ hr
      · replace hp := iq c10 hp
        refine ok (m_iconst (q := 38) rfl rfl rfl) ?_
        exact ok (m_reti rfl rfl) (ok_iq hr ⟨by decide, by decide⟩ hp)
  · replace hp := iq c2 hp
    refine ok (m_iload_n (q := 18) rfl rfl rfl rfl) ?_
    refine ok (m_bipush (q := 20) rfl rfl rfl) ?_
    refine okc (m_cmpgt (qt := 25) (qf := 23) rfl rfl (rg_o _) ⟨by decide, by decide⟩ rfl rfl) (fun c17 => ?_) (fun c17 => ?_)
    · replace hp := ip c17 hp
      refine ok (m_iload_n (q := 26) rfl rfl rfl rfl) ?_
      refine ok (m_bipush (q := 28) rfl rfl rfl) ?_
      refine okc (m_cmplt (qt := 39) (qf := 31) rfl rfl (rg_o _) ⟨by decide, by decide⟩ rfl rfl) (fun c18 => ?_) (fun c18 => ?_)
      · replace hp := ip c18 hp
        refine ok (m_iload_n (q := 40) rfl rfl rfl rfl) ?_
        refine ok (m_bipush (q := 42) rfl rfl rfl) ?_
        refine okc (m_cmpeq (qt := 57) (qf := 45) rfl rfl (rg_o _) ⟨by decide, by decide⟩ rfl rfl) (fun c19 => ?_) (fun c19 => ?_)
        · replace hp := ip c19 hp
          refine ok (m_iconst (q := 58) rfl rfl rfl) ?_
          refine ok (m_goto (q := 62) rfl rfl rfl) ?_
          refine ok (m_istore_n (q := 63) (lo' := [some (am_r (some 47)), some (am_i (wz a1)), some (am_i (wz (o_and (D 48 a1) 255))), some (am_i (wz 1))]) rfl rfl rfl rfl rfl) ?_
          refine ok (m_iload_n (q := 64) rfl rfl rfl rfl) ?_
          refine ok ((m_ifne (qt := 85) (qf := 67) rfl rfl ⟨by decide, by decide⟩ rfl rfl).trans (if_neg (by decide))) ?_
          refine ok (mk rfl (lo' := [none, none, none, none]) rfl) ?_
          exact hp d hd _ hr
        · replace hp := iq c19 hp
          refine ok (m_iload_n (q := 46) rfl rfl rfl rfl) ?_
          refine ok (m_bipush (q := 48) rfl rfl rfl) ?_
          refine okc (m_cmpeq (qt := 57) (qf := 51) rfl rfl (rg_o _) ⟨by decide, by decide⟩ rfl rfl) (fun c20 => ?_) (fun c20 => ?_)
          · replace hp := ip c20 hp
            refine ok (m_iconst (q := 58) rfl rfl rfl) ?_
            refine ok (m_goto (q := 62) rfl rfl rfl) ?_
            refine ok (m_istore_n (q := 63) (lo' := [some (am_r (some 47)), some (am_i (wz a1)), some (am_i (wz (o_and (D 48 a1) 255))), some (am_i (wz 1))]) rfl rfl rfl rfl rfl) ?_
            refine ok (m_iload_n (q := 64) rfl rfl rfl rfl) ?_
            refine ok ((m_ifne (qt := 85) (qf := 67) rfl rfl ⟨by decide, by decide⟩ rfl rfl).trans (if_neg (by decide))) ?_
            refine ok (mk rfl (lo' := [none, none, none, none]) rfl) ?_
            exact hp d hd _ hr
          · replace hp := iq c20 hp
            refine ok (m_iload_n (q := 52) rfl rfl rfl rfl) ?_
            refine ok (m_bipush (q := 54) rfl rfl rfl) ?_
            refine okc (m_cmpne (qt := 61) (qf := 57) rfl rfl (rg_o _) ⟨by decide, by decide⟩ rfl rfl) (fun c21 => ?_) (fun c21 => ?_)
            · replace hp := ip c21 hp
              refine ok (m_iconst (q := 58) rfl rfl rfl) ?_
              refine ok (m_goto (q := 62) rfl rfl rfl) ?_
              refine ok (m_istore_n (q := 63) (lo' := [some (am_r (some 47)), some (am_i (wz a1)), some (am_i (wz (o_and (D 48 a1) 255))), some (am_i (wz 1))]) rfl rfl rfl rfl rfl) ?_
              refine ok (m_iload_n (q := 64) rfl rfl rfl rfl) ?_
              refine ok ((m_ifne (qt := 85) (qf := 67) rfl rfl ⟨by decide, by decide⟩ rfl rfl).trans (if_neg (by decide))) ?_
              refine ok (mk rfl (lo' := [none, none, none, none]) rfl) ?_
              exact hp d hd _ hr
            · replace hp := iq c21 hp
              refine ok (m_iconst (q := 62) rfl rfl rfl) ?_
              refine ok (m_istore_n (q := 63) (lo' := [some (am_r (some 47)), some (am_i (wz a1)), some (am_i (wz (o_and (D 48 a1) 255))), some (am_i (wz 0))]) rfl rfl rfl rfl rfl) ?_
              refine ok (m_iload_n (q := 64) rfl rfl rfl rfl) ?_
              refine ok ((m_ifne (qt := 85) (qf := 67) rfl rfl ⟨by decide, by decide⟩ rfl rfl).trans (if_pos (by decide))) ?_
              refine ok (m_iload_n (q := 68) rfl rfl rfl rfl) ?_
              refine ok (m_bipush (q := 70) rfl rfl rfl) ?_
              refine okc (m_cmpeq (qt := 85) (qf := 73) rfl rfl (rg_o _) ⟨by decide, by decide⟩ rfl rfl) (fun c22 => ?_) (fun c22 => ?_)
              · replace hp := ip c22 hp
                refine ok (mk rfl (lo' := [none, none, none, none]) rfl) ?_
                exact hp d hd _ hr
              · replace hp := iq c22 hp
                refine ok (m_iload_n (q := 74) rfl rfl rfl rfl) ?_
                refine ok (m_bipush (q := 76) rfl rfl rfl) ?_
                refine okc (m_cmpeq (qt := 85) (qf := 79) rfl rfl (rg_o _) ⟨by decide, by decide⟩ rfl rfl) (fun c23 => ?_) (fun c23 => ?_)
                · replace hp := ip c23 hp
                  refine ok (mk rfl (lo' := [none, none, none, none]) rfl) ?_
                  exact hp d hd _ hr
                · replace hp := iq c23 hp
                  refine ok (m_iload_n (q := 80) rfl rfl rfl rfl) ?_
                  refine ok (m_bipush (q := 82) rfl rfl rfl) ?_
                  refine okc (m_cmpne (qt := 89) (qf := 85) rfl rfl (rg_o _) ⟨by decide, by decide⟩ rfl rfl) (fun c24 => ?_) (fun c24 => ?_)
                  · replace hp := ip c24 hp
                    refine ok (mk rfl (lo' := [none, none, none, none]) rfl) ?_
                    exact hp d hd _ hr
                  · replace hp := iq c24 hp
                    refine ok (m_iconst (q := 90) rfl rfl rfl) ?_
                    refine ok (mk rfl (lo' := [none, none, none, none]) rfl) ?_
                    exact hp d hd _ hr
      · replace hp := iq c18 hp
        refine ok (m_iload_n (q := 32) rfl rfl rfl rfl) ?_
        refine ok (m_bipush (q := 34) rfl rfl rfl) ?_
        refine okc (m_cmpgt (qt := 39) (qf := 37) rfl rfl (rg_o _) ⟨by decide, by decide⟩ rfl rfl) (fun c25 => ?_) (fun c25 => ?_)
        · replace hp := ip c25 hp
          refine ok (m_iload_n (q := 40) rfl rfl rfl rfl) ?_
          refine ok (m_bipush (q := 42) rfl rfl rfl) ?_
          refine okc (m_cmpeq (qt := 57) (qf := 45) rfl rfl (rg_o _) ⟨by decide, by decide⟩ rfl rfl) (fun c26 => ?_) (fun c26 => ?_)
          · replace hp := ip c26 hp
            refine ok (m_iconst (q := 58) rfl rfl rfl) ?_
            refine ok (m_goto (q := 62) rfl rfl rfl) ?_
            refine ok (m_istore_n (q := 63) (lo' := [some (am_r (some 47)), some (am_i (wz a1)), some (am_i (wz (o_and (D 48 a1) 255))), some (am_i (wz 1))]) rfl rfl rfl rfl rfl) ?_
            refine ok (m_iload_n (q := 64) rfl rfl rfl rfl) ?_
            refine ok ((m_ifne (qt := 85) (qf := 67) rfl rfl ⟨by decide, by decide⟩ rfl rfl).trans (if_neg (by decide))) ?_
            refine ok (mk rfl (lo' := [none, none, none, none]) rfl) ?_
            exact hp d hd _ hr
          · replace hp := iq c26 hp
            refine ok (m_iload_n (q := 46) rfl rfl rfl rfl) ?_
            refine ok (m_bipush (q := 48) rfl rfl rfl) ?_
            refine okc (m_cmpeq (qt := 57) (qf := 51) rfl rfl (rg_o _) ⟨by decide, by decide⟩ rfl rfl) (fun c27 => ?_) (fun c27 => ?_)
            · replace hp := ip c27 hp
              refine ok (m_iconst (q := 58) rfl rfl rfl) ?_
              refine ok (m_goto (q := 62) rfl rfl rfl) ?_
              refine ok (m_istore_n (q := 63) (lo' := [some (am_r (some 47)), some (am_i (wz a1)), some (am_i (wz (o_and (D 48 a1) 255))), some (am_i (wz 1))]) rfl rfl rfl rfl rfl) ?_
              refine ok (m_iload_n (q := 64) rfl rfl rfl rfl) ?_
              refine ok ((m_ifne (qt := 85) (qf := 67) rfl rfl ⟨by decide, by decide⟩ rfl rfl).trans (if_neg (by decide))) ?_
              refine ok (mk rfl (lo' := [none, none, none, none]) rfl) ?_
              exact hp d hd _ hr
            · replace hp := iq c27 hp
              refine ok (m_iload_n (q := 52) rfl rfl rfl rfl) ?_
              refine ok (m_bipush (q := 54) rfl rfl rfl) ?_
              refine okc (m_cmpne (qt := 61) (qf := 57) rfl rfl (rg_o _) ⟨by decide, by decide⟩ rfl rfl) (fun c28 => ?_) (fun c28 => ?_)
              · replace hp := ip c28 hp
                refine ok (m_iconst (q := 58) rfl rfl rfl) ?_
                refine ok (m_goto (q := 62) rfl rfl rfl) ?_
                refine ok (m_istore_n (q := 63) (lo' := [some (am_r (some 47)), some (am_i (wz a1)), some (am_i (wz (o_and (D 48 a1) 255))), some (am_i (wz 1))]) rfl rfl rfl rfl rfl) ?_
                refine ok (m_iload_n (q := 64) rfl rfl rfl rfl) ?_
                refine ok ((m_ifne (qt := 85) (qf := 67) rfl rfl ⟨by decide, by decide⟩ rfl rfl).trans (if_neg (by decide))) ?_
                refine ok (mk rfl (lo' := [none, none, none, none]) rfl) ?_
                exact hp d hd _ hr
              · replace hp := iq c28 hp
                refine ok (m_iconst (q := 62) rfl rfl rfl) ?_
                refine ok (m_istore_n (q := 63) (lo' := [some (am_r (some 47)), some (am_i (wz a1)), some (am_i (wz (o_and (D 48 a1) 255))), some (am_i (wz 0))]) rfl rfl rfl rfl rfl) ?_
                refine ok (m_iload_n (q := 64) rfl rfl rfl rfl) ?_
                refine ok ((m_ifne (qt := 85) (qf := 67) rfl rfl ⟨by decide, by decide⟩ rfl rfl).trans (if_pos (by decide))) ?_
                refine ok (m_iload_n (q := 68) rfl rfl rfl rfl) ?_
                refine ok (m_bipush (q := 70) rfl rfl rfl) ?_
                refine okc (m_cmpeq (qt := 85) (qf := 73) rfl rfl (rg_o _) ⟨by decide, by decide⟩ rfl rfl) (fun c29 => ?_) (fun c29 => ?_)
                · replace hp := ip c29 hp
                  refine ok (mk rfl (lo' := [none, none, none, none]) rfl) ?_
                  exact hp d hd _ hr
                · replace hp := iq c29 hp
                  refine ok (m_iload_n (q := 74) rfl rfl rfl rfl) ?_
                  refine ok (m_bipush (q := 76) rfl rfl rfl) ?_
                  refine okc (m_cmpeq (qt := 85) (qf := 79) rfl rfl (rg_o _) ⟨by decide, by decide⟩ rfl rfl) (fun c30 => ?_) (fun c30 => ?_)
                  · replace hp := ip c30 hp
                    refine ok (mk rfl (lo' := [none, none, none, none]) rfl) ?_
                    exact hp d hd _ hr
                  · replace hp := iq c30 hp
                    refine ok (m_iload_n (q := 80) rfl rfl rfl rfl) ?_
                    refine ok (m_bipush (q := 82) rfl rfl rfl) ?_
                    refine okc (m_cmpne (qt := 89) (qf := 85) rfl rfl (rg_o _) ⟨by decide, by decide⟩ rfl rfl) (fun c31 => ?_) (fun c31 => ?_)
                    · replace hp := ip c31 hp
                      refine ok (mk rfl (lo' := [none, none, none, none]) rfl) ?_
                      exact hp d hd _ hr
                    · replace hp := iq c31 hp
                      refine ok (m_iconst (q := 90) rfl rfl rfl) ?_
                      refine ok (mk rfl (lo' := [none, none, none, none]) rfl) ?_
                      exact hp d hd _ hr
        · replace hp := iq c25 hp
          refine ok (m_iconst (q := 38) rfl rfl rfl) ?_
          exact ok (m_reti rfl rfl) (ok_iq hr ⟨by decide, by decide⟩ hp)
    · replace hp := iq c17 hp
      refine ok (m_iconst (q := 24) rfl rfl rfl) ?_
      exact ok (m_reti rfl rfl) (ok_iq hr ⟨by decide, by decide⟩ hp)
set_option maxRecDepth 100000 in
theorem rl_X6_tokenAt_85 {n : Nat} {A : aA} {D D' : aD} {x : Int} (hp : K_X6_tokenAt_90 (n) A D 3 x D') : K_X6_tokenAt_85 (n) A D x D' := by
  unfold K_X6_tokenAt_85
  refine fun d hd s hr => ?_
  refine ok (m_iconst (q := 86) rfl rfl rfl) ?_
  refine ok (m_goto (q := 90) rfl rfl rfl) ?_
  exact hp d hd _ hr
set_option maxRecDepth 100000 in
theorem rl_X6_tokenAt_90 {n : Nat} {A : aA} {D D' : aD} (ta0 : Int) (th0 : rg ta0) {x : Int} (hp : (x = ta0 ∧ D' = D)) : K_X6_tokenAt_90 (n) A D ta0 x D' := by
  unfold K_X6_tokenAt_90
  refine fun d hd s hr => ?_
  exact ok (m_reti rfl rfl) (ok_iq hr th0 hp)
theorem ev_X6_tokenAt (a : Int) (h1 : rg a) (hp : p_tok D a) : Ev n 1 56 [am_r (some 47), am_i (wz a)] A D (ri (w_tok D a)) A D := by
  refine rl_X6_tokenAt a h1 ⟨hp.1, ?_⟩
  have k4 : w_tok D a = 4 → K_X6_tokenAt_90 n A D 4 (w_tok D a) D := fun q => by rw [q]; exact rl_X6_tokenAt_90 4 (rgb (by omega) (by omega)) ⟨rfl, rfl⟩
  have k3 : w_tok D a = 3 → K_X6_tokenAt_85 n A D (w_tok D a) D := fun q => by rw [q]; exact rl_X6_tokenAt_85 (rl_X6_tokenAt_90 3 (rgb (by omega) (by omega)) ⟨rfl, rfl⟩)
  have hb := hp.2
  rw [and255 hb]
  have e : w_tok D a = kc (D 48 a) := rfl
  unfold kc at e
  generalize D 48 a = c at *
  by_cases c0 : c < 0
  · have e4 : w_tok D a = 4 := by rw [e, if_neg (by omega), if_neg (by omega), if_neg (by omega)]
    simp only [if_pos c0, if_neg (show ¬ c + 256 < 97 by omega), if_pos (show 122 < c + 256 by omega), if_neg (show ¬ c + 256 < 48 by omega), if_pos (show 57 < c + 256 by omega), if_neg (show ¬ c + 256 = 60 by omega), if_neg (show ¬ c + 256 = 62 by omega), if_neg (show ¬ c + 256 = 61 by omega), if_neg (show ¬ c + 256 = 40 by omega), if_neg (show ¬ c + 256 = 41 by omega), if_neg (show ¬ c + 256 = 59 by omega)]
    exact k4 e4
  · simp only [if_neg c0]
    repeat' split
    all_goals first
      | (refine k3 ?_; rw [e, if_neg (by omega), if_neg (by omega), if_pos (by omega)])
      | (refine k4 ?_; rw [e, if_neg (by omega), if_neg (by omega), if_neg (by omega)])
      | (refine ⟨?_, trivial⟩; rw [e, if_neg (by omega), if_pos (by omega)]; done)
      | (refine ⟨?_, trivial⟩; rw [e, if_pos (by omega)]; done)
theorem tE_b {T : Int → Int} {N a : Int} (h : a ≤ N) : a ≤ tE T N a ∧ tE T N a ≤ N ∧ (a < N → a < tE T N a) := by
  unfold tE
  split
  · rename_i q
    split
    · rw [rn_yes (by unfold ofP; simp) q]
      have := rn_b (p := ofP T (kc (T a))) (N := N) (a := a + 1) (by omega)
      omega
    · omega
  · omega
def advS (D : aD) (a : Int) : aD := up (up (up D 47 7 a) 47 6 (tK (D 48) (D 47 4) a)) 47 8 (tE (D 48) (D 47 4) a)
def u_adv (D : aD) : aD := advS D (tS (D 48) (D 47 4) (D 47 8))
def p_adv (D : aD) : Prop := (0 ≤ D 47 8 ∧ D 47 8 ≤ D 47 4 ∧ D 47 4 ≤ 700) ∧ bys D
abbrev P_X6_advance : Nat → Option am_E := am_fy tb_X6_advance
def K_X6_advance_5 (n : Nat) (A : aA) (D : aD) (a1 : Int) (D' : aD) : Prop := Lp n 1 P_X6_advance 5 [some (am_r (some 47)), some (am_i (wz a1))] [] A D rv A D'
def K_X6_advance_67 (n : Nat) (A : aA) (D : aD) (a1 : Int) (D' : aD) : Prop := Lp n 1 P_X6_advance 67 [some (am_r (some 47)), some (am_i (wz a1))] [] A D rv A D'
set_option maxRecDepth 100000 in
theorem rl_X6_advance {n : Nat} {A : aA} {D D' : aD} (hp : K_X6_advance_5 (n) A D (D 47 8) D') : Ev (n) (2) 55 [am_r (some 47)] A D rv A D' := by
  refine Ev_of (c := 1) (P := P_X6_advance) (lo := [some (am_r (some 47)), none]) rfl rfl rfl (fun d hd s hr => ?_)
  refine ok (m_aload_n (q := 1) rfl rfl rfl rfl) ?_
  refine ok (m_gfs (z := 8) (q := 4) rfl rfl rfl hr rfl rfl rfl rfl rfl) ?_
  refine ok (m_istore_n (q := 5) (lo' := [some (am_r (some 47)), some (am_i (wz (D 47 8)))]) rfl rfl rfl rfl rfl) ?_
  exact hp d hd _ hr
set_option maxRecDepth 100000 in
theorem rl_X6_advance_5 {n : Nat} {A : aA} {D D' : aD} (a1 : Int) (h1 : rg a1) (hp : (if D 47 4 ≤ a1 then (if D 47 4 ≤ a1 then K_X6_advance_67 (n) A (up (up D 47 7 a1) 47 6 0) a1 D' else (p_tok (up D 47 7 a1) a1) ∧ K_X6_advance_67 (n) A (up (up D 47 7 a1) 47 6 (w_tok (up D 47 7 a1) a1)) a1 D') else (0 ≤ a1 ∧ a1 < 700) ∧ (if D 48 a1 = 32 then K_X6_advance_5 (n) A D (wr (a1 + 1)) D' else (if D 48 a1 = 10 then K_X6_advance_5 (n) A D (wr (a1 + 1)) D' else (if D 47 4 ≤ a1 then K_X6_advance_67 (n) A (up (up D 47 7 a1) 47 6 0) a1 D' else (p_tok (up D 47 7 a1) a1) ∧ K_X6_advance_67 (n) A (up (up D 47 7 a1) 47 6 (w_tok (up D 47 7 a1) a1)) a1 D'))))) : K_X6_advance_5 (n) A D a1 D' := by
  unfold K_X6_advance_5
  refine fun d hd s hr => ?_
  refine ok (m_iload_n (q := 6) rfl rfl rfl rfl) ?_
  refine ok (m_aload_n (q := 7) rfl rfl rfl rfl) ?_
  refine ok (m_gfs (z := 4) (q := 10) rfl rfl rfl hr rfl rfl rfl rfl rfl) ?_
  refine okc (m_cmpge (qt := 41) (qf := 13) rfl rfl h1 (Rp_rg hr 47 4) rfl rfl) (fun c1 => ?_) (fun c1 => ?_)
  · replace hp := ip c1 hp
    refine ok (m_aload_n (q := 42) rfl rfl rfl rfl) ?_
    refine ok (m_iload_n (q := 43) rfl rfl rfl rfl) ?_
    refine oke (e_pfs (q := 46) rfl rfl rfl hr rfl rfl rfl rfl h1) (fun s3 r2 => ?_)
    refine ok (m_aload_n (q := 47) rfl rfl rfl rfl) ?_
    refine ok (m_iload_n (q := 48) rfl rfl rfl rfl) ?_
    refine ok (m_aload_n (q := 49) rfl rfl rfl rfl) ?_
    refine ok (m_gfs (z := 4) (q := 52) (w := D 47 4) rfl rfl rfl r2 rfl rfl rfl rfl rfl) ?_
    refine okc (m_cmpge (qt := 63) (qf := 55) rfl rfl h1 (show rg (D 47 4) from Rp_rg r2 47 4) rfl rfl) (fun c4 => ?_) (fun c4 => ?_)
    · replace hp := ip c4 hp
      refine ok (m_iconst (q := 64) rfl rfl rfl) ?_
      refine oke (e_pfs (q := 67) rfl rfl rfl r2 rfl rfl rfl rfl ⟨by decide, by decide⟩) (fun s6 r5 => ?_)
      exact hp d hd _ r5
    · replace hp := iq c4 hp
      refine ok (m_aload_n (q := 56) rfl rfl rfl rfl) ?_
      refine ok (m_iload_n (q := 57) rfl rfl rfl rfl) ?_
      obtain ⟨g9, hp⟩ := hp
      refine oke (e_ci (x_cv (q := 60) rfl rfl rfl rfl rfl rfl rfl rfl rfl rfl (is_st r2 rfl rfl)) (ev_X6_tokenAt (D := (up D 47 7 a1)) a1 h1 g9) (Nat.le_trans (by decide) hd) r2) (fun s7 r8 => ?_)
      refine ok (m_goto (q := 64) rfl rfl rfl) ?_
      refine oke (e_pfs (q := 67) rfl rfl rfl r8 rfl rfl rfl rfl (Ev_rg (ev_X6_tokenAt (D := (up D 47 7 a1)) a1 h1 g9) r2)) (fun s11 r10 => ?_)
      exact hp d hd _ r10
  · replace hp := iq c1 hp
    refine ok (m_aload_n (q := 14) rfl rfl rfl rfl) ?_
    refine ok (m_gfc (q := 17) rfl rfl rfl hr rfl rfl rfl) ?_
    refine ok (m_iload_n (q := 18) rfl rfl rfl rfl) ?_
    obtain ⟨g12, hp⟩ := hp
    refine ok (m_bals (q := 19) rfl rfl rfl hr rfl rfl g12 rfl) ?_
    refine ok (m_bipush (q := 21) rfl rfl rfl) ?_
    refine okc (m_cmpeq (qt := 35) (qf := 24) rfl rfl (Rp_rg hr 48 a1) ⟨by decide, by decide⟩ rfl rfl) (fun c13 => ?_) (fun c13 => ?_)
    · replace hp := ip c13 hp
      refine ok (m_iinc (q := 38) (lo' := [some (am_r (some 47)), some (am_i (wz (wr (a1 + 1))))]) rfl rfl rfl rfl rfl rfl rfl) ?_
      refine ok (m_goto (q := 5) rfl rfl rfl) ?_
      exact hp d hd _ hr
    · replace hp := iq c13 hp
      refine ok (m_aload_n (q := 25) rfl rfl rfl rfl) ?_
      refine ok (m_gfc (q := 28) rfl rfl rfl hr rfl rfl rfl) ?_
      refine ok (m_iload_n (q := 29) rfl rfl rfl rfl) ?_
      refine ok (m_bals (q := 30) rfl rfl rfl hr rfl rfl g12 rfl) ?_
      refine ok (m_bipush (q := 32) rfl rfl rfl) ?_
      refine okc (m_cmpne (qt := 41) (qf := 35) rfl rfl (Rp_rg hr 48 a1) ⟨by decide, by decide⟩ rfl rfl) (fun c14 => ?_) (fun c14 => ?_)
      · replace hp := ip c14 hp
        refine ok (m_iinc (q := 38) (lo' := [some (am_r (some 47)), some (am_i (wz (wr (a1 + 1))))]) rfl rfl rfl rfl rfl rfl rfl) ?_
        refine ok (m_goto (q := 5) rfl rfl rfl) ?_
        exact hp d hd _ hr
      · replace hp := iq c14 hp
        refine ok (m_aload_n (q := 42) rfl rfl rfl rfl) ?_
        refine ok (m_iload_n (q := 43) rfl rfl rfl rfl) ?_
        refine oke (e_pfs (q := 46) rfl rfl rfl hr rfl rfl rfl rfl h1) (fun s16 r15 => ?_)
        refine ok (m_aload_n (q := 47) rfl rfl rfl rfl) ?_
        refine ok (m_iload_n (q := 48) rfl rfl rfl rfl) ?_
        refine ok (m_aload_n (q := 49) rfl rfl rfl rfl) ?_
        refine ok (m_gfs (z := 4) (q := 52) (w := D 47 4) rfl rfl rfl r15 rfl rfl rfl rfl rfl) ?_
        refine okc (m_cmpge (qt := 63) (qf := 55) rfl rfl h1 (show rg (D 47 4) from Rp_rg r15 47 4) rfl rfl) (fun c17 => ?_) (fun c17 => ?_)
        · replace hp := ip c17 hp
          refine ok (m_iconst (q := 64) rfl rfl rfl) ?_
          refine oke (e_pfs (q := 67) rfl rfl rfl r15 rfl rfl rfl rfl ⟨by decide, by decide⟩) (fun s19 r18 => ?_)
          exact hp d hd _ r18
        · replace hp := iq c17 hp
          refine ok (m_aload_n (q := 56) rfl rfl rfl rfl) ?_
          refine ok (m_iload_n (q := 57) rfl rfl rfl rfl) ?_
          obtain ⟨g22, hp⟩ := hp
          refine oke (e_ci (x_cv (q := 60) rfl rfl rfl rfl rfl rfl rfl rfl rfl rfl (is_st r15 rfl rfl)) (ev_X6_tokenAt (D := (up D 47 7 a1)) a1 h1 g22) (Nat.le_trans (by decide) hd) r15) (fun s20 r21 => ?_)
          refine ok (m_goto (q := 64) rfl rfl rfl) ?_
          refine oke (e_pfs (q := 67) rfl rfl rfl r21 rfl rfl rfl rfl (Ev_rg (ev_X6_tokenAt (D := (up D 47 7 a1)) a1 h1 g22) r15)) (fun s24 r23 => ?_)
          exact hp d hd _ r23
set_option maxRecDepth 100000 in
theorem rl_X6_advance_67 {n : Nat} {A : aA} {D D' : aD} (a1 : Int) (h1 : rg a1) (hp : (if D 47 4 ≤ a1 then (D' = (up D 47 8 a1)) else (if a1 = D 47 7 then K_X6_advance_67 (n) A D (wr (a1 + 1)) D' else (if 2 < D 47 6 then (D' = (up D 47 8 a1)) else (p_tok D a1) ∧ (if w_tok D a1 = D 47 6 then K_X6_advance_67 (n) A D (wr (a1 + 1)) D' else (D' = (up D 47 8 a1))))))) : K_X6_advance_67 (n) A D a1 D' := by
  unfold K_X6_advance_67
  refine fun d hd s hr => ?_
  refine ok (m_iload_n (q := 68) rfl rfl rfl rfl) ?_
  refine ok (m_aload_n (q := 69) rfl rfl rfl rfl) ?_
  refine ok (m_gfs (z := 4) (q := 72) rfl rfl rfl hr rfl rfl rfl rfl rfl) ?_
  refine okc (m_cmpge (qt := 109) (qf := 75) rfl rfl h1 (Rp_rg hr 47 4) rfl rfl) (fun c25 => ?_) (fun c25 => ?_)
  · replace hp := ip c25 hp
    refine ok (m_aload_n (q := 110) rfl rfl rfl rfl) ?_
    refine ok (m_iload_n (q := 111) rfl rfl rfl rfl) ?_
    refine oke (e_pfs (q := 114) rfl rfl rfl hr rfl rfl rfl rfl h1) (fun s27 r26 => ?_)
    exact ok (m_retv rfl rfl) (ok_vq r26 hp)
  · replace hp := iq c25 hp
    refine ok (m_iload_n (q := 76) rfl rfl rfl rfl) ?_
    refine ok (m_aload_n (q := 77) rfl rfl rfl rfl) ?_
    refine ok (m_gfs (z := 7) (q := 80) rfl rfl rfl hr rfl rfl rfl rfl rfl) ?_
    refine okc (m_cmpeq (qt := 103) (qf := 83) rfl rfl h1 (Rp_rg hr 47 7) rfl rfl) (fun c28 => ?_) (fun c28 => ?_)
    · replace hp := ip c28 hp
      refine ok (m_iinc (q := 106) (lo' := [some (am_r (some 47)), some (am_i (wz (wr (a1 + 1))))]) rfl rfl rfl rfl rfl rfl rfl) ?_
      refine ok (m_goto (q := 67) rfl rfl rfl) ?_
      exact hp d hd _ hr
    · replace hp := iq c28 hp
      refine ok (m_aload_n (q := 84) rfl rfl rfl rfl) ?_
      refine ok (m_gfs (z := 6) (q := 87) rfl rfl rfl hr rfl rfl rfl rfl rfl) ?_
      refine ok (m_iconst (q := 88) rfl rfl rfl) ?_
      refine okc (m_cmpgt (qt := 109) (qf := 91) rfl rfl (Rp_rg hr 47 6) ⟨by decide, by decide⟩ rfl rfl) (fun c29 => ?_) (fun c29 => ?_)
      · replace hp := ip c29 hp
        refine ok (m_aload_n (q := 110) rfl rfl rfl rfl) ?_
        refine ok (m_iload_n (q := 111) rfl rfl rfl rfl) ?_
        refine oke (e_pfs (q := 114) rfl rfl rfl hr rfl rfl rfl rfl h1) (fun s31 r30 => ?_)
        exact ok (m_retv rfl rfl) (ok_vq r30 hp)
      · replace hp := iq c29 hp
        refine ok (m_aload_n (q := 92) rfl rfl rfl rfl) ?_
        refine ok (m_iload_n (q := 93) rfl rfl rfl rfl) ?_
        obtain ⟨g34, hp⟩ := hp
        refine oke (e_ci (x_cv (q := 96) rfl rfl rfl rfl rfl rfl rfl rfl rfl rfl (is_st hr rfl rfl)) (ev_X6_tokenAt (D := D) a1 h1 g34) (Nat.le_trans (by decide) hd) hr) (fun s32 r33 => ?_)
        refine ok (m_aload_n (q := 97) rfl rfl rfl rfl) ?_
        refine ok (m_gfs (z := 6) (q := 100) rfl rfl rfl r33 rfl rfl rfl rfl rfl) ?_
        refine okc (m_cmpne (qt := 109) (qf := 103) rfl rfl (Ev_rg (ev_X6_tokenAt (D := D) a1 h1 g34) hr) (Rp_rg r33 47 6) rfl rfl) (fun c35 => ?_) (fun c35 => ?_)
        · replace hp := ip c35 hp
          refine ok (m_iinc (q := 106) (lo' := [some (am_r (some 47)), some (am_i (wz (wr (a1 + 1))))]) rfl rfl rfl rfl rfl rfl rfl) ?_
          refine ok (m_goto (q := 67) rfl rfl rfl) ?_
          exact hp d hd _ r33
        · replace hp := iq c35 hp
          refine ok (m_aload_n (q := 110) rfl rfl rfl rfl) ?_
          refine ok (m_iload_n (q := 111) rfl rfl rfl rfl) ?_
          refine oke (e_pfs (q := 114) rfl rfl rfl r33 rfl rfl rfl rfl h1) (fun s37 r36 => ?_)
          exact ok (m_retv rfl rfl) (ok_vq r36 hp)
theorem K_adv67 {E : aD} (h4 : E 47 4 ≤ 700) (hb : bys E) (h6 : E 47 6 ≤ 2) : ∀ (r : Nat) (b : Int), b + r = E 47 4 → 0 ≤ b → b ≠ E 47 7 → (0 ≤ E 47 7 ∧ E 47 7 < b) → K_X6_advance_67 n A E b (up E 47 8 (rn (ofP (E 48) (E 47 6)) (E 47 4) b)) := by
  intro r
  induction r with
  | zero =>
    intro b e b0 b1 b2
    refine rl_X6_advance_67 b (rgb (by omega) (by omega)) ?_
    rw [if_pos (by omega), rn_end (by omega)]
  | succ r ih =>
    intro b e b0 b1 b2
    refine rl_X6_advance_67 b (rgb (by omega) (by omega)) ?_
    rw [if_neg (by omega), if_neg b1, if_neg (by omega)]
    refine ⟨⟨⟨b0, by omega⟩, hb b b0 (by omega)⟩, ?_⟩
    by_cases q : w_tok E b = E 47 6
    · rw [if_pos q, wr_id (by omega) (by omega), rn_yes (by unfold ofP; exact decide_eq_true q) (by omega)]
      exact ih (b + 1) (by omega) (by omega) (by omega) ⟨by omega, by omega⟩
    · rw [if_neg q, rn_no (by unfold ofP; exact decide_eq_false q)]
theorem K_adv5' (h4 : D 47 4 ≤ 700) (hb : bys D) {a : Int} (h0 : 0 ≤ a) (h1 : a < D 47 4) : K_X6_advance_67 n A (up (up D 47 7 a) 47 6 (w_tok (up D 47 7 a) a)) a (advS D a) := by
  have e1 : w_tok (up D 47 7 a) a = kc (D 48 a) := rfl
  rw [e1]
  have e2 : advS D a = up (up (up D 47 7 a) 47 6 (kc (D 48 a))) 47 8 (tE (D 48) (D 47 4) a) := by unfold advS tK; rw [if_pos h1]
  rw [e2]
  unfold tE
  rw [if_pos h1]
  have g4 : (up (up D 47 7 a) 47 6 (kc (D 48 a))) 47 4 = D 47 4 := by rw [up_i (by decide), up_i (by decide)]
  have g7 : (up (up D 47 7 a) 47 6 (kc (D 48 a))) 47 7 = a := by rw [up_i (by decide), up_eq]
  have g6 : (up (up D 47 7 a) 47 6 (kc (D 48 a))) 47 6 = kc (D 48 a) := up_eq
  have g8 : (up (up D 47 7 a) 47 6 (kc (D 48 a))) 48 = D 48 := by rw [up_cf (by decide), up_cf (by decide)]
  generalize up (up D 47 7 a) 47 6 (kc (D 48 a)) = E at *
  have hb' : bys E := by unfold bys; rw [g4, g8]; exact hb
  have hk := kc_b (D 48 a)
  refine rl_X6_advance_67 a (rgb (by omega) (by omega)) ?_
  rw [if_neg (by omega), if_pos g7.symm, wr_id (by omega) (by omega)]
  by_cases q : kc (D 48 a) ≤ 2
  · rw [if_pos q, rn_yes (by unfold ofP; simp) h1]
    have := K_adv67 (n := n) (A := A) (E := E) (by omega) hb' (by omega) (D 47 4 - (a + 1)).toNat (a + 1) (by omega) (by omega) (by omega) ⟨by omega, by omega⟩
    rw [g8, g6, g4] at this
    exact this
  · rw [if_neg q]
    refine rl_X6_advance_67 (a + 1) (rgb (by omega) (by omega)) ?_
    by_cases q2 : E 47 4 ≤ a + 1
    · rw [if_pos q2]
    · rw [if_neg q2, if_neg (by omega), if_pos (by omega)]
theorem K_adv5 (h4 : D 47 4 ≤ 700) (hb : bys D) : ∀ (r : Nat) (a : Int), a + r = D 47 4 → 0 ≤ a → K_X6_advance_5 n A D a (advS D (tS (D 48) (D 47 4) a)) := by
  have hend : ∀ a, 0 ≤ a → a = D 47 4 → K_X6_advance_67 n A (up (up D 47 7 a) 47 6 0) a (advS D a) := by
    intro a a0 e
    refine rl_X6_advance_67 a (rgb (by omega) (by omega)) ?_
    rw [if_pos (by rw [up_i (by decide), up_i (by decide)]; omega)]
    unfold advS tK tE
    rw [if_neg (by omega), if_neg (by omega)]
  intro r
  induction r with
  | zero =>
    intro a e a0
    refine rl_X6_advance_5 a (rgb (by omega) (by omega)) ?_
    rw [if_pos (by omega), if_pos (by omega), show tS (D 48) (D 47 4) a = a from rn_end (by omega)]
    exact hend a a0 (by omega)
  | succ r ih =>
    intro a e a0
    have hn := ih (a + 1) (by omega) (by omega)
    refine rl_X6_advance_5 a (rgb (by omega) (by omega)) ?_
    rw [if_neg (by omega), wr_id (by omega) (by omega)]
    refine ⟨⟨a0, by omega⟩, ?_⟩
    have hb1 := hb a a0 (by omega)
    have hp : p_tok (up D 47 7 a) a := ⟨⟨a0, by omega⟩, by rw [up_cf (by decide)]; exact hb1⟩
    by_cases q : D 48 a = 32 ∨ D 48 a = 10
    · rw [show tS (D 48) (D 47 4) a = tS (D 48) (D 47 4) (a + 1) from rn_yes (by unfold bkP; exact decide_eq_true q) (by omega)]
      by_cases q1 : D 48 a = 32
      · rw [if_pos q1]; exact hn
      · rw [if_neg q1, if_pos (by omega)]; exact hn
    · rw [show tS (D 48) (D 47 4) a = a from rn_no (by unfold bkP; exact decide_eq_false q), if_neg (by omega), if_neg (by omega), if_neg (by omega)]
      exact ⟨hp, K_adv5' h4 hb a0 (by omega)⟩
theorem ev_X6_advance (hp : p_adv D) : Ev n 2 55 [am_r (some 47)] A D rv A (u_adv D) :=
  rl_X6_advance (K_adv5 hp.1.2.2 hp.2 (D 47 4 - D 47 8).toNat (D 47 8) (by have := hp.1; omega) hp.1.1)
theorem fl_X6_advance (D : aD) (t : Nat) (i : Int) (_ : Nat.ble t 49 = true) : u_adv D (900 + t) i = D (900 + t) i := by
  unfold u_adv advS
  rw [up_c (by omega), up_c (by omega), up_c (by omega)]
end Lex
