/-! Words: the class's lists with blanks between them, the reference's packed numbers. -/
section Wrd
variable {n : Nat} {A : aA} {D : aD}
/-- the text from a on reads as w -/
def mt (T : Int → Int) (e : Int) : Int → List Int → Bool
  | _, [] => true
  | a, c :: cs => decide (a < e) && (decide (T a = c) && mt T e (a + 1) cs)
def ixf (T : Int → Int) (a e : Int) : List Int → Int → Int → Bool → Int
  | [], j, b, s => if s = true ∧ b = e then j else -1
  | c :: cs, j, b, s => if c = 32 then (if s = true ∧ b = e then j else ixf T a e cs (j + 1) a true) else ixf T a e cs j (b + 1) (s && (decide (b < e) && decide (T b = c)))
def w_ix (D : aD) (k : Nat) : Int := ixf (D 48) (D 47 7) (D 47 8) (sts.getD k []) 0 (D 47 7) true
def p_ix (D : aD) (_ : Nat) : Prop := 0 ≤ D 47 7 ∧ D 47 7 ≤ D 47 8 ∧ D 47 8 ≤ 700
theorem getD_drop {l cs : List Int} {j : Nat} {c : Int} (h : l.drop j = c :: cs) : l.getD j 0 = c ∧ l.drop (j + 1) = cs ∧ j < l.length := by
  have h1 : (l.drop j)[0]? = some c := by rw [h]; rfl
  rw [List.getElem?_drop] at h1
  refine ⟨by rw [List.getD_eq_getElem?_getD]; simp only [Nat.add_zero] at h1; rw [h1]; rfl, ?_, ?_⟩
  · have : (l.drop j).drop 1 = cs := by rw [h]; rfl
    rwa [List.drop_drop] at this
  · by_cases q : j < l.length
    · exact q
    · rw [List.drop_eq_nil_of_le (by omega)] at h; cases h
def bi (b : Bool) : Int := if b = true then 1 else 0
theorem bi_b (b : Bool) : 0 ≤ bi b ∧ bi b ≤ 1 := by cases b <;> decide
abbrev P_X6_indexIn : Nat → Option am_E := am_fy tb_X6_indexIn
def K_X6_indexIn_13 (n : Nat) (A : aA) (D : aD) (k1 : Nat) (a2 : Int) (a3 : Int) (a4 : Int) (a5 : Int) (x : Int) (D' : aD) : Prop := Lp n 4 P_X6_indexIn 13 [some (am_r (some 47)), some (am_r (some (4 + k1))), some (am_i (wz a2)), some (am_i (wz a3)), some (am_i (wz a4)), some (am_i (wz a5)), none] [] A D (ri x) A D'
set_option maxRecDepth 100000 in
theorem rl_X6_indexIn {n : Nat} {A : aA} {D D' : aD} (k1 : Nat) (q1 : k1 < 12) {x : Int} (hp : K_X6_indexIn_13 (n) A D k1 0 (D 47 7) 1 0 x D') : Ev (n) (5) 54 [am_r (some 47), am_r (some (4 + k1))] A D (ri x) A D' := by
  refine Ev_of (c := 4) (P := P_X6_indexIn) (lo := [some (am_r (some 47)), some (am_r (some (4 + k1))), none, none, none, none, none]) rfl rfl rfl (fun d hd s hr => ?_)
  refine ok (m_iconst (q := 1) rfl rfl rfl) ?_
  refine ok (m_istore_n (q := 2) (lo' := [some (am_r (some 47)), some (am_r (some (4 + k1))), some (am_i (wz 0)), none, none, none, none]) rfl rfl rfl rfl rfl) ?_
  refine ok (m_aload_n (q := 3) rfl rfl rfl rfl) ?_
  refine ok (m_gfs (z := 7) (q := 6) rfl rfl rfl hr rfl rfl rfl rfl rfl) ?_
  refine ok (m_istore_n (q := 7) (lo' := [some (am_r (some 47)), some (am_r (some (4 + k1))), some (am_i (wz 0)), some (am_i (wz (D 47 7))), none, none, none]) rfl rfl rfl rfl rfl) ?_
  refine ok (m_iconst (q := 8) rfl rfl rfl) ?_
  refine ok (m_istore (q := 10) (lo' := [some (am_r (some 47)), some (am_r (some (4 + k1))), some (am_i (wz 0)), some (am_i (wz (D 47 7))), some (am_i (wz 1)), none, none]) rfl rfl rfl rfl rfl) ?_
  refine ok (m_iconst (q := 11) rfl rfl rfl) ?_
  refine ok (m_istore (q := 13) (lo' := [some (am_r (some 47)), some (am_r (some (4 + k1))), some (am_i (wz 0)), some (am_i (wz (D 47 7))), some (am_i (wz 1)), some (am_i (wz 0)), none]) rfl rfl rfl rfl rfl) ?_
  exact hp d hd _ hr
set_option maxRecDepth 100000 in
theorem rl_X6_indexIn_13 {n : Nat} {A : aA} {D D' : aD} (k1 : Nat) (a2 : Int) (a3 : Int) (a4 : Int) (a5 : Int) (q1 : k1 < 12) (h2 : rg a2) (h3 : rg a3) (h4 : rg a4) (b4 : 0 ≤ a4 ∧ a4 ≤ 1) (h5 : rg a5) {x : Int} (hp : (if w_J0_length D k1 < a5 then (x = (-1) ∧ D' = D) else (if w_J0_length D k1 ≤ a5 then (if a4 = 0 then K_X6_indexIn_13 (n) A D k1 (wr (a2 + 1)) (D 47 7) 1 (wr (a5 + 1)) x D' else (if a3 = D 47 8 then (x = a2 ∧ D' = D) else K_X6_indexIn_13 (n) A D k1 (wr (a2 + 1)) (D 47 7) 1 (wr (a5 + 1)) x D')) else (p_J0_charAt D k1 a5) ∧ (if w_J0_charAt D k1 a5 = 32 then (if a4 = 0 then K_X6_indexIn_13 (n) A D k1 (wr (a2 + 1)) (D 47 7) 1 (wr (a5 + 1)) x D' else (if a3 = D 47 8 then (x = a2 ∧ D' = D) else K_X6_indexIn_13 (n) A D k1 (wr (a2 + 1)) (D 47 7) 1 (wr (a5 + 1)) x D')) else (if a4 = 0 then K_X6_indexIn_13 (n) A D k1 a2 (wr (a3 + 1)) 0 (wr (a5 + 1)) x D' else (if D 47 8 ≤ a3 then K_X6_indexIn_13 (n) A D k1 a2 (wr (a3 + 1)) 0 (wr (a5 + 1)) x D' else (0 ≤ a3 ∧ a3 < 700) ∧ (if D 48 a3 = w_J0_charAt D k1 a5 then K_X6_indexIn_13 (n) A D k1 a2 (wr (a3 + 1)) 1 (wr (a5 + 1)) x D' else K_X6_indexIn_13 (n) A D k1 a2 (wr (a3 + 1)) 0 (wr (a5 + 1)) x D'))))))) : K_X6_indexIn_13 (n) A D k1 a2 a3 a4 a5 x D' := by
  unfold K_X6_indexIn_13
  refine fun d hd s hr => ?_
  refine ok (m_iload (q := 15) rfl rfl rfl rfl) ?_
  refine ok (m_aload_n (q := 16) rfl rfl rfl rfl) ?_
  refine oke (e_ci (x_cv (q := 19) rfl rfl rfl rfl rfl rfl rfl rfl rfl rfl (is_sr (k := k1) hr q1)) (ev_J0_length (D := D) k1 q1) (Nat.le_trans (by decide) hd) hr) (fun s1 r2 => ?_)
  refine okc (m_cmpgt (qt := 120) (qf := 22) rfl rfl h5 (Ev_rg (ev_J0_length (D := D) k1 q1) hr) rfl rfl) (fun c3 => ?_) (fun c3 => ?_)
  · replace hp := ip c3 hp
    refine ok (m_iconst (q := 121) rfl rfl rfl) ?_
    exact ok (m_reti rfl rfl) (ok_iq r2 ⟨by decide, by decide⟩ hp)
  · replace hp := iq c3 hp
    refine ok (m_iload (q := 24) rfl rfl rfl rfl) ?_
    refine ok (m_aload_n (q := 25) rfl rfl rfl rfl) ?_
    refine oke (e_ci (x_cv (q := 28) rfl rfl rfl rfl rfl rfl rfl rfl rfl rfl (is_sr (k := k1) r2 q1)) (ev_J0_length (D := D) k1 q1) (Nat.le_trans (by decide) hd) r2) (fun s4 r5 => ?_)
    refine okc (m_cmpge (qt := 40) (qf := 31) rfl rfl h5 (Ev_rg (ev_J0_length (D := D) k1 q1) r2) rfl rfl) (fun c6 => ?_) (fun c6 => ?_)
    · replace hp := ip c6 hp
      refine ok (m_bipush (q := 42) rfl rfl rfl) ?_
      refine ok (m_istore (q := 44) (lo' := [some (am_r (some 47)), some (am_r (some (4 + k1))), some (am_i (wz a2)), some (am_i (wz a3)), some (am_i (wz a4)), some (am_i (wz a5)), some (am_i (wz 32))]) rfl rfl rfl rfl rfl) ?_
      refine ok (m_iload (q := 46) rfl rfl rfl rfl) ?_
      refine ok (m_bipush (q := 48) rfl rfl rfl) ?_
      refine ok ((m_cmpeq (qt := 88) (qf := 51) rfl rfl ⟨by decide, by decide⟩ ⟨by decide, by decide⟩ rfl rfl).trans (if_pos (by decide))) ?_
      refine ok (m_iload (q := 90) rfl rfl rfl rfl) ?_
      refine okc (m_ifeq (qt := 103) (qf := 93) rfl rfl h4 rfl rfl) (fun c7 => ?_) (fun c7 => ?_)
      · replace hp := ip c7 hp
        refine ok (m_iinc (q := 106) (lo' := [some (am_r (some 47)), some (am_r (some (4 + k1))), some (am_i (wz (wr (a2 + 1)))), some (am_i (wz a3)), some (am_i (wz a4)), some (am_i (wz a5)), some (am_i (wz 32))]) rfl rfl rfl rfl rfl rfl rfl) ?_
        refine ok (m_aload_n (q := 107) rfl rfl rfl rfl) ?_
        refine ok (m_gfs (z := 7) (q := 110) rfl rfl rfl r5 rfl rfl rfl rfl rfl) ?_
        refine ok (m_istore_n (q := 111) (lo' := [some (am_r (some 47)), some (am_r (some (4 + k1))), some (am_i (wz (wr (a2 + 1)))), some (am_i (wz (D 47 7))), some (am_i (wz a4)), some (am_i (wz a5)), some (am_i (wz 32))]) rfl rfl rfl rfl rfl) ?_
        refine ok (m_iconst (q := 112) rfl rfl rfl) ?_
        refine ok (m_istore (q := 114) (lo' := [some (am_r (some 47)), some (am_r (some (4 + k1))), some (am_i (wz (wr (a2 + 1)))), some (am_i (wz (D 47 7))), some (am_i (wz 1)), some (am_i (wz a5)), some (am_i (wz 32))]) rfl rfl rfl rfl rfl) ?_
        refine ok (m_iinc (q := 117) (lo' := [some (am_r (some 47)), some (am_r (some (4 + k1))), some (am_i (wz (wr (a2 + 1)))), some (am_i (wz (D 47 7))), some (am_i (wz 1)), some (am_i (wz (wr (a5 + 1)))), some (am_i (wz 32))]) rfl rfl rfl rfl rfl rfl rfl) ?_
        refine ok (m_goto (q := 13) rfl rfl rfl) ?_
        refine ok (mk rfl (lo' := [some (am_r (some 47)), some (am_r (some (4 + k1))), some (am_i (wz (wr (a2 + 1)))), some (am_i (wz (D 47 7))), some (am_i (wz 1)), some (am_i (wz (wr (a5 + 1)))), none]) rfl) ?_
        exact hp d hd _ r5
      · replace hp := iq c7 hp
        refine ok (m_iload_n (q := 94) rfl rfl rfl rfl) ?_
        refine ok (m_aload_n (q := 95) rfl rfl rfl rfl) ?_
        refine ok (m_gfs (z := 8) (q := 98) rfl rfl rfl r5 rfl rfl rfl rfl rfl) ?_
        refine okc (m_cmpne (qt := 103) (qf := 101) rfl rfl h3 (Rp_rg r5 47 8) rfl rfl) (fun c8 => ?_) (fun c8 => ?_)
        · replace hp := ip c8 hp
          refine ok (m_iload_n (q := 102) rfl rfl rfl rfl) ?_
          exact ok (m_reti rfl rfl) (ok_iq r5 h2 hp)
        · replace hp := iq c8 hp
          refine ok (m_iinc (q := 106) (lo' := [some (am_r (some 47)), some (am_r (some (4 + k1))), some (am_i (wz (wr (a2 + 1)))), some (am_i (wz a3)), some (am_i (wz a4)), some (am_i (wz a5)), some (am_i (wz 32))]) rfl rfl rfl rfl rfl rfl rfl) ?_
          refine ok (m_aload_n (q := 107) rfl rfl rfl rfl) ?_
          refine ok (m_gfs (z := 7) (q := 110) rfl rfl rfl r5 rfl rfl rfl rfl rfl) ?_
          refine ok (m_istore_n (q := 111) (lo' := [some (am_r (some 47)), some (am_r (some (4 + k1))), some (am_i (wz (wr (a2 + 1)))), some (am_i (wz (D 47 7))), some (am_i (wz a4)), some (am_i (wz a5)), some (am_i (wz 32))]) rfl rfl rfl rfl rfl) ?_
          refine ok (m_iconst (q := 112) rfl rfl rfl) ?_
          refine ok (m_istore (q := 114) (lo' := [some (am_r (some 47)), some (am_r (some (4 + k1))), some (am_i (wz (wr (a2 + 1)))), some (am_i (wz (D 47 7))), some (am_i (wz 1)), some (am_i (wz a5)), some (am_i (wz 32))]) rfl rfl rfl rfl rfl) ?_
          refine ok (m_iinc (q := 117) (lo' := [some (am_r (some 47)), some (am_r (some (4 + k1))), some (am_i (wz (wr (a2 + 1)))), some (am_i (wz (D 47 7))), some (am_i (wz 1)), some (am_i (wz (wr (a5 + 1)))), some (am_i (wz 32))]) rfl rfl rfl rfl rfl rfl rfl) ?_
          refine ok (m_goto (q := 13) rfl rfl rfl) ?_
          refine ok (mk rfl (lo' := [some (am_r (some 47)), some (am_r (some (4 + k1))), some (am_i (wz (wr (a2 + 1)))), some (am_i (wz (D 47 7))), some (am_i (wz 1)), some (am_i (wz (wr (a5 + 1)))), none]) rfl) ?_
          exact hp d hd _ r5
    · replace hp := iq c6 hp
      refine ok (m_aload_n (q := 32) rfl rfl rfl rfl) ?_
      refine ok (m_iload (q := 34) rfl rfl rfl rfl) ?_
      obtain ⟨g11, hp⟩ := hp
      refine oke (e_ci (x_cv (q := 37) rfl rfl rfl rfl rfl rfl rfl rfl rfl rfl (is_sr (k := k1) r5 q1)) (ev_J0_charAt (D := D) k1 a5 q1 h5 g11) (Nat.le_trans (by decide) hd) r5) (fun s9 r10 => ?_)
      refine ok (m_goto (q := 42) rfl rfl rfl) ?_
      refine ok (m_istore (q := 44) (lo' := [some (am_r (some 47)), some (am_r (some (4 + k1))), some (am_i (wz a2)), some (am_i (wz a3)), some (am_i (wz a4)), some (am_i (wz a5)), some (am_i (wz (w_J0_charAt D k1 a5)))]) rfl rfl rfl rfl rfl) ?_
      refine ok (m_iload (q := 46) rfl rfl rfl rfl) ?_
      refine ok (m_bipush (q := 48) rfl rfl rfl) ?_
      refine okc (m_cmpeq (qt := 88) (qf := 51) rfl rfl (Ev_rg (ev_J0_charAt (D := D) k1 a5 q1 h5 g11) r5) ⟨by decide, by decide⟩ rfl rfl) (fun c12 => ?_) (fun c12 => ?_)
      · replace hp := ip c12 hp
        refine ok (m_iload (q := 90) rfl rfl rfl rfl) ?_
        refine okc (m_ifeq (qt := 103) (qf := 93) rfl rfl h4 rfl rfl) (fun c13 => ?_) (fun c13 => ?_)
        · replace hp := ip c13 hp
          refine ok (m_iinc (q := 106) (lo' := [some (am_r (some 47)), some (am_r (some (4 + k1))), some (am_i (wz (wr (a2 + 1)))), some (am_i (wz a3)), some (am_i (wz a4)), some (am_i (wz a5)), some (am_i (wz (w_J0_charAt D k1 a5)))]) rfl rfl rfl rfl rfl rfl rfl) ?_
          refine ok (m_aload_n (q := 107) rfl rfl rfl rfl) ?_
          refine ok (m_gfs (z := 7) (q := 110) rfl rfl rfl r10 rfl rfl rfl rfl rfl) ?_
          refine ok (m_istore_n (q := 111) (lo' := [some (am_r (some 47)), some (am_r (some (4 + k1))), some (am_i (wz (wr (a2 + 1)))), some (am_i (wz (D 47 7))), some (am_i (wz a4)), some (am_i (wz a5)), some (am_i (wz (w_J0_charAt D k1 a5)))]) rfl rfl rfl rfl rfl) ?_
          refine ok (m_iconst (q := 112) rfl rfl rfl) ?_
          refine ok (m_istore (q := 114) (lo' := [some (am_r (some 47)), some (am_r (some (4 + k1))), some (am_i (wz (wr (a2 + 1)))), some (am_i (wz (D 47 7))), some (am_i (wz 1)), some (am_i (wz a5)), some (am_i (wz (w_J0_charAt D k1 a5)))]) rfl rfl rfl rfl rfl) ?_
          refine ok (m_iinc (q := 117) (lo' := [some (am_r (some 47)), some (am_r (some (4 + k1))), some (am_i (wz (wr (a2 + 1)))), some (am_i (wz (D 47 7))), some (am_i (wz 1)), some (am_i (wz (wr (a5 + 1)))), some (am_i (wz (w_J0_charAt D k1 a5)))]) rfl rfl rfl rfl rfl rfl rfl) ?_
          refine ok (m_goto (q := 13) rfl rfl rfl) ?_
          refine ok (mk rfl (lo' := [some (am_r (some 47)), some (am_r (some (4 + k1))), some (am_i (wz (wr (a2 + 1)))), some (am_i (wz (D 47 7))), some (am_i (wz 1)), some (am_i (wz (wr (a5 + 1)))), none]) rfl) ?_
          exact hp d hd _ r10
        · replace hp := iq c13 hp
          refine ok (m_iload_n (q := 94) rfl rfl rfl rfl) ?_
          refine ok (m_aload_n (q := 95) rfl rfl rfl rfl) ?_
          refine ok (m_gfs (z := 8) (q := 98) rfl rfl rfl r10 rfl rfl rfl rfl rfl) ?_
          refine okc (m_cmpne (qt := 103) (qf := 101) rfl rfl h3 (Rp_rg r10 47 8) rfl rfl) (fun c14 => ?_) (fun c14 => ?_)
          · replace hp := ip c14 hp
            refine ok (m_iload_n (q := 102) rfl rfl rfl rfl) ?_
            exact ok (m_reti rfl rfl) (ok_iq r10 h2 hp)
          · replace hp := iq c14 hp
            refine ok (m_iinc (q := 106) (lo' := [some (am_r (some 47)), some (am_r (some (4 + k1))), some (am_i (wz (wr (a2 + 1)))), some (am_i (wz a3)), some (am_i (wz a4)), some (am_i (wz a5)), some (am_i (wz (w_J0_charAt D k1 a5)))]) rfl rfl rfl rfl rfl rfl rfl) ?_
            refine ok (m_aload_n (q := 107) rfl rfl rfl rfl) ?_
            refine ok (m_gfs (z := 7) (q := 110) rfl rfl rfl r10 rfl rfl rfl rfl rfl) ?_
            refine ok (m_istore_n (q := 111) (lo' := [some (am_r (some 47)), some (am_r (some (4 + k1))), some (am_i (wz (wr (a2 + 1)))), some (am_i (wz (D 47 7))), some (am_i (wz a4)), some (am_i (wz a5)), some (am_i (wz (w_J0_charAt D k1 a5)))]) rfl rfl rfl rfl rfl) ?_
            refine ok (m_iconst (q := 112) rfl rfl rfl) ?_
            refine ok (m_istore (q := 114) (lo' := [some (am_r (some 47)), some (am_r (some (4 + k1))), some (am_i (wz (wr (a2 + 1)))), some (am_i (wz (D 47 7))), some (am_i (wz 1)), some (am_i (wz a5)), some (am_i (wz (w_J0_charAt D k1 a5)))]) rfl rfl rfl rfl rfl) ?_
            refine ok (m_iinc (q := 117) (lo' := [some (am_r (some 47)), some (am_r (some (4 + k1))), some (am_i (wz (wr (a2 + 1)))), some (am_i (wz (D 47 7))), some (am_i (wz 1)), some (am_i (wz (wr (a5 + 1)))), some (am_i (wz (w_J0_charAt D k1 a5)))]) rfl rfl rfl rfl rfl rfl rfl) ?_
            refine ok (m_goto (q := 13) rfl rfl rfl) ?_
            refine ok (mk rfl (lo' := [some (am_r (some 47)), some (am_r (some (4 + k1))), some (am_i (wz (wr (a2 + 1)))), some (am_i (wz (D 47 7))), some (am_i (wz 1)), some (am_i (wz (wr (a5 + 1)))), none]) rfl) ?_
            exact hp d hd _ r10
      · replace hp := iq c12 hp
        refine ok (m_iload (q := 53) rfl rfl rfl rfl) ?_
        refine okc (m_ifeq (qt := 79) (qf := 56) rfl rfl h4 rfl rfl) (fun c15 => ?_) (fun c15 => ?_)
        · replace hp := ip c15 hp
          refine ok (m_iconst (q := 80) rfl rfl rfl) ?_
          refine ok (m_istore (q := 82) (lo' := [some (am_r (some 47)), some (am_r (some (4 + k1))), some (am_i (wz a2)), some (am_i (wz a3)), some (am_i (wz 0)), some (am_i (wz a5)), some (am_i (wz (w_J0_charAt D k1 a5)))]) rfl rfl rfl rfl rfl) ?_
          refine ok (m_iinc (q := 85) (lo' := [some (am_r (some 47)), some (am_r (some (4 + k1))), some (am_i (wz a2)), some (am_i (wz (wr (a3 + 1)))), some (am_i (wz 0)), some (am_i (wz a5)), some (am_i (wz (w_J0_charAt D k1 a5)))]) rfl rfl rfl rfl rfl rfl rfl) ?_
          refine ok (m_goto (q := 114) rfl rfl rfl) ?_
          refine ok (m_iinc (q := 117) (lo' := [some (am_r (some 47)), some (am_r (some (4 + k1))), some (am_i (wz a2)), some (am_i (wz (wr (a3 + 1)))), some (am_i (wz 0)), some (am_i (wz (wr (a5 + 1)))), some (am_i (wz (w_J0_charAt D k1 a5)))]) rfl rfl rfl rfl rfl rfl rfl) ?_
          refine ok (m_goto (q := 13) rfl rfl rfl) ?_
          refine ok (mk rfl (lo' := [some (am_r (some 47)), some (am_r (some (4 + k1))), some (am_i (wz a2)), some (am_i (wz (wr (a3 + 1)))), some (am_i (wz 0)), some (am_i (wz (wr (a5 + 1)))), none]) rfl) ?_
          exact hp d hd _ r10
        · replace hp := iq c15 hp
          refine ok (m_iload_n (q := 57) rfl rfl rfl rfl) ?_
          refine ok (m_aload_n (q := 58) rfl rfl rfl rfl) ?_
          refine ok (m_gfs (z := 8) (q := 61) rfl rfl rfl r10 rfl rfl rfl rfl rfl) ?_
          refine okc (m_cmpge (qt := 79) (qf := 64) rfl rfl h3 (Rp_rg r10 47 8) rfl rfl) (fun c16 => ?_) (fun c16 => ?_)
          · replace hp := ip c16 hp
            refine ok (m_iconst (q := 80) rfl rfl rfl) ?_
            refine ok (m_istore (q := 82) (lo' := [some (am_r (some 47)), some (am_r (some (4 + k1))), some (am_i (wz a2)), some (am_i (wz a3)), some (am_i (wz 0)), some (am_i (wz a5)), some (am_i (wz (w_J0_charAt D k1 a5)))]) rfl rfl rfl rfl rfl) ?_
            refine ok (m_iinc (q := 85) (lo' := [some (am_r (some 47)), some (am_r (some (4 + k1))), some (am_i (wz a2)), some (am_i (wz (wr (a3 + 1)))), some (am_i (wz 0)), some (am_i (wz a5)), some (am_i (wz (w_J0_charAt D k1 a5)))]) rfl rfl rfl rfl rfl rfl rfl) ?_
            refine ok (m_goto (q := 114) rfl rfl rfl) ?_
            refine ok (m_iinc (q := 117) (lo' := [some (am_r (some 47)), some (am_r (some (4 + k1))), some (am_i (wz a2)), some (am_i (wz (wr (a3 + 1)))), some (am_i (wz 0)), some (am_i (wz (wr (a5 + 1)))), some (am_i (wz (w_J0_charAt D k1 a5)))]) rfl rfl rfl rfl rfl rfl rfl) ?_
            refine ok (m_goto (q := 13) rfl rfl rfl) ?_
            refine ok (mk rfl (lo' := [some (am_r (some 47)), some (am_r (some (4 + k1))), some (am_i (wz a2)), some (am_i (wz (wr (a3 + 1)))), some (am_i (wz 0)), some (am_i (wz (wr (a5 + 1)))), none]) rfl) ?_
            exact hp d hd _ r10
          · replace hp := iq c16 hp
            refine ok (m_aload_n (q := 65) rfl rfl rfl rfl) ?_
            refine ok (m_gfc (q := 68) rfl rfl rfl r10 rfl rfl rfl) ?_
            refine ok (m_iload_n (q := 69) rfl rfl rfl rfl) ?_
            obtain ⟨g17, hp⟩ := hp
            refine ok (m_bals (q := 70) rfl rfl rfl r10 rfl rfl g17 rfl) ?_
            refine ok (m_iload (q := 72) rfl rfl rfl rfl) ?_
            refine okc (m_cmpne (qt := 79) (qf := 75) rfl rfl (Rp_rg r10 48 a3) (Ev_rg (ev_J0_charAt (D := D) k1 a5 q1 h5 g11) r5) rfl rfl) (fun c18 => ?_) (fun c18 => ?_)
            · replace hp := ip c18 hp
              refine ok (m_iconst (q := 76) rfl rfl rfl) ?_
              refine ok (m_goto (q := 80) rfl rfl rfl) ?_
              refine ok (m_istore (q := 82) (lo' := [some (am_r (some 47)), some (am_r (some (4 + k1))), some (am_i (wz a2)), some (am_i (wz a3)), some (am_i (wz 1)), some (am_i (wz a5)), some (am_i (wz (w_J0_charAt D k1 a5)))]) rfl rfl rfl rfl rfl) ?_
              refine ok (m_iinc (q := 85) (lo' := [some (am_r (some 47)), some (am_r (some (4 + k1))), some (am_i (wz a2)), some (am_i (wz (wr (a3 + 1)))), some (am_i (wz 1)), some (am_i (wz a5)), some (am_i (wz (w_J0_charAt D k1 a5)))]) rfl rfl rfl rfl rfl rfl rfl) ?_
              refine ok (m_goto (q := 114) rfl rfl rfl) ?_
              refine ok (m_iinc (q := 117) (lo' := [some (am_r (some 47)), some (am_r (some (4 + k1))), some (am_i (wz a2)), some (am_i (wz (wr (a3 + 1)))), some (am_i (wz 1)), some (am_i (wz (wr (a5 + 1)))), some (am_i (wz (w_J0_charAt D k1 a5)))]) rfl rfl rfl rfl rfl rfl rfl) ?_
              refine ok (m_goto (q := 13) rfl rfl rfl) ?_
              refine ok (mk rfl (lo' := [some (am_r (some 47)), some (am_r (some (4 + k1))), some (am_i (wz a2)), some (am_i (wz (wr (a3 + 1)))), some (am_i (wz 1)), some (am_i (wz (wr (a5 + 1)))), none]) rfl) ?_
              exact hp d hd _ r10
            · replace hp := iq c18 hp
              refine ok (m_iconst (q := 80) rfl rfl rfl) ?_
              refine ok (m_istore (q := 82) (lo' := [some (am_r (some 47)), some (am_r (some (4 + k1))), some (am_i (wz a2)), some (am_i (wz a3)), some (am_i (wz 0)), some (am_i (wz a5)), some (am_i (wz (w_J0_charAt D k1 a5)))]) rfl rfl rfl rfl rfl) ?_
              refine ok (m_iinc (q := 85) (lo' := [some (am_r (some 47)), some (am_r (some (4 + k1))), some (am_i (wz a2)), some (am_i (wz (wr (a3 + 1)))), some (am_i (wz 0)), some (am_i (wz a5)), some (am_i (wz (w_J0_charAt D k1 a5)))]) rfl rfl rfl rfl rfl rfl rfl) ?_
              refine ok (m_goto (q := 114) rfl rfl rfl) ?_
              refine ok (m_iinc (q := 117) (lo' := [some (am_r (some 47)), some (am_r (some (4 + k1))), some (am_i (wz a2)), some (am_i (wz (wr (a3 + 1)))), some (am_i (wz 0)), some (am_i (wz (wr (a5 + 1)))), some (am_i (wz (w_J0_charAt D k1 a5)))]) rfl rfl rfl rfl rfl rfl rfl) ?_
              refine ok (m_goto (q := 13) rfl rfl rfl) ?_
              refine ok (mk rfl (lo' := [some (am_r (some 47)), some (am_r (some (4 + k1))), some (am_i (wz a2)), some (am_i (wz (wr (a3 + 1)))), some (am_i (wz 0)), some (am_i (wz (wr (a5 + 1)))), none]) rfl) ?_
              exact hp d hd _ r10
theorem K_ix0 (k : Nat) (hk : k < 12) {j b : Int} {i : Int} {s : Bool} (hi : i = stn k + 1) (hj : 0 ≤ j ∧ j ≤ 100) (hb : 0 ≤ b ∧ b ≤ 1000) : K_X6_indexIn_13 n A D k j b (bi s) i (-1) D := by
  have hn := stn_rg k
  refine rl_X6_indexIn_13 k j b (bi s) i hk (rgb (by omega) (by omega)) (rgb (by omega) (by omega)) (by cases s <;> exact ⟨by decide, by decide⟩) (bi_b s) (rgb (by omega) (by omega)) ?_
  rw [if_pos (show w_J0_length D k < i by unfold w_J0_length; omega)]
  exact ⟨rfl, rfl⟩
theorem K_ix (k : Nat) (hk : k < 12) (hp : p_ix D k) : ∀ (L : List Int) (i : Nat) (j b : Int) (s : Bool), (sts.getD k []).drop i = L → i + L.length = (sts.getD k []).length → (0 ≤ j ∧ j ≤ i) → (0 ≤ b ∧ b ≤ D 47 7 + i) → K_X6_indexIn_13 n A D k j b (bi s) i (ixf (D 48) (D 47 7) (D 47 8) L j b s) D := by
  obtain ⟨p0, p1, p2⟩ := hp
  have hn := stn_rg k
  have hl : w_J0_length D k = ((sts.getD k []).length : Int) := rfl
  have hl2 : stn k = ((sts.getD k []).length : Int) := rfl
  intro L
  induction L with
  | nil =>
    intro i j b s e1 e2 hj hb
    have e2' : i = (sts.getD k []).length := by simpa using e2
    refine rl_X6_indexIn_13 k j b (bi s) i hk (rgb (by omega) (by omega)) (rgb (by omega) (by omega)) (by cases s <;> exact ⟨by decide, by decide⟩) (bi_b s) (rgb (by omega) (by omega)) ?_
    have hr : K_X6_indexIn_13 n A D k (wr (j + 1)) (D 47 7) 1 (wr ((i : Int) + 1)) (-1) D := by
      rw [wr_id (by omega) (by omega), wr_id (by omega) (by omega)]
      exact K_ix0 (s := true) k hk (by omega) ⟨by omega, by omega⟩ ⟨by omega, by omega⟩
    rw [if_neg (by omega), if_pos (by omega)]
    unfold ixf
    cases s with
    | false => rw [if_pos (show bi false = 0 from rfl), if_neg (fun q => absurd q.1 (by decide))]; exact hr
    | true =>
      rw [if_neg (show ¬ bi true = 0 by decide)]
      by_cases q : b = D 47 8
      · rw [if_pos q, if_pos ⟨rfl, q⟩]; exact ⟨rfl, rfl⟩
      · rw [if_neg q, if_neg (fun z => q z.2)]; exact hr
  | cons c cs ih =>
    intro i j b s e1 e2 hj hb
    obtain ⟨d1, d2, d3⟩ := getD_drop e1
    have e2' : i + 1 + cs.length = (sts.getD k []).length := by simp only [List.length_cons] at e2; omega
    have hc : w_J0_charAt D k i = c := by
      show (sts.getD k []).getD ((i : Int)).toNat 0 = c
      rw [Int.toNat_natCast]; exact d1
    refine rl_X6_indexIn_13 k j b (bi s) i hk (rgb (by omega) (by omega)) (rgb (by omega) (by omega)) (by cases s <;> exact ⟨by decide, by decide⟩) (bi_b s) (rgb (by omega) (by omega)) ?_
    rw [if_neg (by omega), if_neg (by omega), hc, wr_id (z := (i : Int) + 1) (by omega) (by omega), wr_id (z := j + 1) (by omega) (by omega), wr_id (z := b + 1) (by omega) (by omega)]
    refine ⟨⟨by omega, by omega⟩, ?_⟩
    have ei : ((i + 1 : Nat) : Int) = (i : Int) + 1 := by omega
    have hz := ih (i + 1) (j + 1) (D 47 7) true d2 e2' ⟨by omega, by omega⟩ ⟨by omega, by omega⟩
    have hy := fun s' => ih (i + 1) j (b + 1) s' d2 e2' ⟨by omega, by omega⟩ ⟨by omega, by omega⟩
    rw [ei] at hz
    simp only [ei] at hy
    unfold ixf
    by_cases c3 : c = 32
    · rw [if_pos c3, if_pos c3]
      cases s with
      | false => rw [if_pos (show bi false = 0 from rfl), if_neg (fun q => absurd q.1 (by decide))]; exact hz
      | true =>
        rw [if_neg (show ¬ bi true = 0 by decide)]
        by_cases q : b = D 47 8
        · rw [if_pos q, if_pos ⟨rfl, q⟩]; exact ⟨rfl, rfl⟩
        · rw [if_neg q, if_neg (fun z => q z.2)]; exact hz
    · rw [if_neg c3, if_neg c3]
      cases s with
      | false => rw [if_pos (show bi false = 0 from rfl)]; exact hy false
      | true =>
        rw [if_neg (show ¬ bi true = 0 by decide)]
        by_cases q : D 47 8 ≤ b
        · rw [if_pos q, decide_eq_false (show ¬ b < D 47 8 by omega)]; exact hy false
        · rw [if_neg q, decide_eq_true (show b < D 47 8 by omega)]
          refine ⟨⟨by omega, by omega⟩, ?_⟩
          by_cases q2 : D 48 b = c
          · rw [if_pos q2, decide_eq_true q2]; exact hy true
          · rw [if_neg q2, decide_eq_false q2]; exact hy false
theorem ev_X6_indexIn (k : Nat) (hk : k < 12) (hp : p_ix D k) : Ev n 5 54 [am_r (some 47), am_r (some (4 + k))] A D (ri (w_ix D k)) A D :=
  rl_X6_indexIn k hk (K_ix k hk hp _ 0 0 (D 47 7) true rfl (by simp) ⟨by omega, by omega⟩ ⟨hp.1, by omega⟩)
theorem ixf_b {T : Int → Int} {a e : Int} : ∀ (L : List Int) (j b : Int) (s : Bool), 0 ≤ j → -1 ≤ ixf T a e L j b s ∧ ixf T a e L j b s ≤ j + L.length
  | [], j, b, s, h => by unfold ixf; split <;> simp only [List.length_nil] <;> omega
  | c :: cs, j, b, s, h => by
    have h1 := ixf_b (T := T) (a := a) (e := e) cs (j + 1) a true (by omega)
    have h2 := ixf_b (T := T) (a := a) (e := e) cs j (b + 1) (s && (decide (b < e) && decide (T b = c))) h
    unfold ixf
    simp only [List.length_cons]
    repeat' split
    all_goals omega
theorem ix_b (D : aD) (k : Nat) : -1 ≤ w_ix D k ∧ w_ix D k ≤ 44 := by
  have h1 := ixf_b (T := D 48) (a := D 47 7) (e := D 47 8) (sts.getD k []) 0 (D 47 7) true (by omega)
  have h2 := stn_rg k
  unfold stn at h2
  unfold w_ix
  omega
abbrev P_X6_isWord : Nat → Option am_E := am_fy tb_X6_isWord
def v_X6_isWord (D : aD) (k1 : Nat) : Int := if D 47 6 = 1 then if w_ix D k1 = 0 then 1 else 0 else 0
def p_X6_isWord (D : aD) (k1 : Nat) : Prop := (if D 47 6 = 1 then (p_ix D k1) else True)
theorem b_X6_isWord (D : aD) (k1 : Nat) : 0 ≤ v_X6_isWord D k1 ∧ v_X6_isWord D k1 ≤ 1 := b01 (fun c1 => b01 (fun c5 => ⟨by decide, by decide⟩) (fun c5 => ⟨by decide, by decide⟩)) (fun c1 => ⟨by decide, by decide⟩)
set_option maxRecDepth 100000 in
theorem ev_X6_isWord {n : Nat} {A : aA} {D : aD} (k1 : Nat) (q1 : k1 < 12) (hp : p_X6_isWord D k1) : Ev (n) 6 53 [am_r (some 47), am_r (some (4 + k1))] A D (ri (v_X6_isWord D k1)) A D := by
  unfold p_X6_isWord at hp
  unfold v_X6_isWord
  refine Ev_of (c := 5) (P := P_X6_isWord) (lo := [some (am_r (some 47)), some (am_r (some (4 + k1)))]) rfl rfl rfl (fun d hd s hr => ?_)
  refine ok (m_aload_n (q := 1) rfl rfl rfl rfl) ?_
  refine ok (m_gfs (z := 6) (q := 4) rfl rfl rfl hr rfl rfl rfl rfl rfl) ?_
  refine ok (m_iconst (q := 5) rfl rfl rfl) ?_
  refine okp (m_cmpne (qt := 20) (qf := 8) rfl rfl (Rp_rg hr 47 6) ⟨by decide, by decide⟩ rfl rfl) (fun c1 => ?_) (fun c1 => ?_)
  · replace hp := ip c1 hp
    refine ok (m_aload_n (q := 9) rfl rfl rfl rfl) ?_
    refine ok (m_aload_n (q := 10) rfl rfl rfl rfl) ?_
    have g4 := hp
    refine oke (e_ci (x_cv (q := 13) rfl rfl rfl rfl rfl rfl rfl rfl rfl rfl (is_st hr rfl rfl)) (ev_X6_indexIn (D := D) k1 q1 g4) (Nat.le_trans (by decide) hd) hr) (fun s2 r3 => ?_)
    refine okp (m_ifne (qt := 20) (qf := 16) rfl rfl (Ev_rg (ev_X6_indexIn (D := D) k1 q1 g4) hr) rfl rfl) (fun c5 => ?_) (fun c5 => ?_)
    · refine ok (m_iconst (q := 17) rfl rfl rfl) ?_
      refine ok (m_goto (q := 21) rfl rfl rfl) ?_
      exact ok (m_retb rfl rfl ⟨by decide, by decide⟩) (ok_i r3 ⟨by decide, by decide⟩)
    · refine ok (m_iconst (q := 21) rfl rfl rfl) ?_
      exact ok (m_retb rfl rfl ⟨by decide, by decide⟩) (ok_i r3 ⟨by decide, by decide⟩)
  · refine ok (m_iconst (q := 21) rfl rfl rfl) ?_
    exact ok (m_retb rfl rfl ⟨by decide, by decide⟩) (ok_i hr ⟨by decide, by decide⟩)
abbrev P_X6_takeSign : Nat → Option am_E := am_fy tb_X6_takeSign
def u_X6_takeSign (D : aD) (a1 : Int) : aD := if D 47 3 = (-1) then if v_X6_isSign D a1 = 0 then (u_X6_refuse D) else (u_adv D) else (u_X6_refuse D)
def p_X6_takeSign (D : aD) (a1 : Int) : Prop := (if D 47 3 = (-1) then (p_X6_isSign D a1) ∧ (if v_X6_isSign D a1 = 0 then True else (p_adv D)) else True)
set_option maxRecDepth 100000 in
theorem ev_X6_takeSign {n : Nat} {A : aA} {D : aD} (a1 : Int) (h1 : rg a1) (hp : p_X6_takeSign D a1) : Ev (n) 3 51 [am_r (some 47), am_i (wz a1)] A D rv A (u_X6_takeSign D a1) := by
  unfold p_X6_takeSign at hp
  unfold u_X6_takeSign
  refine Ev_of (c := 2) (P := P_X6_takeSign) (lo := [some (am_r (some 47)), some (am_i (wz a1))]) rfl rfl rfl (fun d hd s hr => ?_)
  refine ok (m_aload_n (q := 1) rfl rfl rfl rfl) ?_
  refine ok (m_gfs (z := 3) (q := 4) rfl rfl rfl hr rfl rfl rfl rfl rfl) ?_
  refine ok (m_iconst (q := 5) rfl rfl rfl) ?_
  refine okvf (m_cmpne (qt := 23) (qf := 8) rfl rfl (Rp_rg hr 47 3) ⟨by decide, by decide⟩ rfl rfl) (fun c1 => ?_) (fun c1 => ?_)
  · replace hp := ip c1 hp
    refine ok (m_aload_n (q := 9) rfl rfl rfl rfl) ?_
    refine ok (m_iload_n (q := 10) rfl rfl rfl rfl) ?_
    obtain ⟨g4, hp⟩ := hp
    refine oke (e_ci (x_cv (q := 13) rfl rfl rfl rfl rfl rfl rfl rfl rfl rfl (is_st hr rfl rfl)) (ev_X6_isSign (D := D) a1 h1 g4) (Nat.le_trans (by decide) hd) hr) (fun s2 r3 => ?_)
    refine okvf (m_ifeq (qt := 23) (qf := 16) rfl rfl (Ev_rg (ev_X6_isSign (D := D) a1 h1 g4) hr) rfl rfl) (fun c5 => ?_) (fun c5 => ?_)
    · refine ok (m_aload_n (q := 24) rfl rfl rfl rfl) ?_
      refine oke (e_cvd (x_cv (q := 27) rfl rfl rfl rfl rfl rfl rfl rfl rfl rfl (is_st r3 rfl rfl)) (ev_X6_refuse (D := D)) (Nat.le_trans (by decide) hd) r3) (fun s6 r7 => ?_)
      exact ok (m_retv rfl rfl) (ok_v r7)
    · replace hp := iq c5 hp
      refine ok (m_aload_n (q := 17) rfl rfl rfl rfl) ?_
      have g10 := hp
      refine oke (e_cvd (x_cv (q := 20) rfl rfl rfl rfl rfl rfl rfl rfl rfl rfl (is_st r3 rfl rfl)) (ev_X6_advance (D := D) g10) (Nat.le_trans (by decide) hd) r3) (fun s8 r9 => ?_)
      refine ok (m_goto (q := 27) rfl rfl rfl) ?_
      exact ok (m_retv rfl rfl) (ok_v r9)
  · refine ok (m_aload_n (q := 24) rfl rfl rfl rfl) ?_
    refine oke (e_cvd (x_cv (q := 27) rfl rfl rfl rfl rfl rfl rfl rfl rfl rfl (is_st hr rfl rfl)) (ev_X6_refuse (D := D)) (Nat.le_trans (by decide) hd) hr) (fun s11 r12 => ?_)
    exact ok (m_retv rfl rfl) (ok_v r12)
theorem fl_X6_takeSign (D : aD) (a1 : Int) (t : Nat) (i : Int) (ht : Nat.ble t 49 = true) : u_X6_takeSign D a1 (900 + t) i = D (900 + t) i := fl_if (fl_if ((fl_X6_refuse D t i ht).trans (rfl)) ((fl_X6_advance D t i ht).trans (rfl))) ((fl_X6_refuse D t i ht).trans (rfl))
abbrev P_X6_takeWord : Nat → Option am_E := am_fy tb_X6_takeWord
def v_X6_takeWord (D : aD) (k1 : Nat) : Int := if D 47 3 = (-1) then if D 47 6 = 1 then if w_ix D k1 = (-1) then w_ix D k1 else w_ix D k1 else (-1) else (-1)
def u_X6_takeWord (D : aD) (k1 : Nat) : aD := if D 47 3 = (-1) then if D 47 6 = 1 then if w_ix D k1 = (-1) then (u_X6_refuse D) else (u_adv D) else (u_X6_refuse D) else (u_X6_refuse D)
def p_X6_takeWord (D : aD) (k1 : Nat) : Prop := (if D 47 3 = (-1) then (if D 47 6 = 1 then (p_ix D k1) ∧ (if w_ix D k1 = (-1) then True else (p_adv D)) else True) else True)
set_option maxRecDepth 100000 in
theorem ev_X6_takeWord {n : Nat} {A : aA} {D : aD} (k1 : Nat) (q1 : k1 < 12) (hp : p_X6_takeWord D k1) : Ev (n) 6 48 [am_r (some 47), am_r (some (4 + k1))] A D (ri (v_X6_takeWord D k1)) A (u_X6_takeWord D k1) := by
  unfold p_X6_takeWord at hp
  unfold v_X6_takeWord u_X6_takeWord
  refine Ev_of (c := 5) (P := P_X6_takeWord) (lo := [some (am_r (some 47)), some (am_r (some (4 + k1))), none]) rfl rfl rfl (fun d hd s hr => ?_)
  refine ok (m_aload_n (q := 1) rfl rfl rfl rfl) ?_
  refine ok (m_gfs (z := 3) (q := 4) rfl rfl rfl hr rfl rfl rfl rfl rfl) ?_
  refine ok (m_iconst (q := 5) rfl rfl rfl) ?_
  refine okf (m_cmpne (qt := 24) (qf := 8) rfl rfl (Rp_rg hr 47 3) ⟨by decide, by decide⟩ rfl rfl) (fun c1 => ?_) (fun c1 => ?_)
  · replace hp := ip c1 hp
    refine ok (m_aload_n (q := 9) rfl rfl rfl rfl) ?_
    refine ok (m_gfs (z := 6) (q := 12) rfl rfl rfl hr rfl rfl rfl rfl rfl) ?_
    refine ok (m_iconst (q := 13) rfl rfl rfl) ?_
    refine okf (m_cmpne (qt := 24) (qf := 16) rfl rfl (Rp_rg hr 47 6) ⟨by decide, by decide⟩ rfl rfl) (fun c2 => ?_) (fun c2 => ?_)
    · replace hp := ip c2 hp
      refine ok (m_aload_n (q := 17) rfl rfl rfl rfl) ?_
      refine ok (m_aload_n (q := 18) rfl rfl rfl rfl) ?_
      obtain ⟨g5, hp⟩ := hp
      refine oke (e_ci (x_cv (q := 21) rfl rfl rfl rfl rfl rfl rfl rfl rfl rfl (is_st hr rfl rfl)) (ev_X6_indexIn (D := D) k1 q1 g5) (Nat.le_trans (by decide) hd) hr) (fun s3 r4 => ?_)
      refine ok (m_goto (q := 25) rfl rfl rfl) ?_
      refine ok (m_istore_n (q := 26) (lo' := [some (am_r (some 47)), some (am_r (some (4 + k1))), some (am_i (wz (w_ix D k1)))]) rfl rfl rfl rfl rfl) ?_
      refine ok (m_iload_n (q := 27) rfl rfl rfl rfl) ?_
      refine ok (m_iconst (q := 28) rfl rfl rfl) ?_
      refine okf (m_cmpne (qt := 38) (qf := 31) rfl rfl (Ev_rg (ev_X6_indexIn (D := D) k1 q1 g5) hr) ⟨by decide, by decide⟩ rfl rfl) (fun c6 => ?_) (fun c6 => ?_)
      · refine ok (m_aload_n (q := 32) rfl rfl rfl rfl) ?_
        refine oke (e_cvd (x_cv (q := 35) rfl rfl rfl rfl rfl rfl rfl rfl rfl rfl (is_st r4 rfl rfl)) (ev_X6_refuse (D := D)) (Nat.le_trans (by decide) hd) r4) (fun s7 r8 => ?_)
        refine ok (m_goto (q := 42) rfl rfl rfl) ?_
        refine ok (m_iload_n (q := 43) rfl rfl rfl rfl) ?_
        exact ok (m_reti rfl rfl) (ok_i r8 (Ev_rg (ev_X6_indexIn (D := D) k1 q1 g5) hr))
      · replace hp := iq c6 hp
        refine ok (m_aload_n (q := 39) rfl rfl rfl rfl) ?_
        have g11 := hp
        refine oke (e_cvd (x_cv (q := 42) rfl rfl rfl rfl rfl rfl rfl rfl rfl rfl (is_st r4 rfl rfl)) (ev_X6_advance (D := D) g11) (Nat.le_trans (by decide) hd) r4) (fun s9 r10 => ?_)
        refine ok (m_iload_n (q := 43) rfl rfl rfl rfl) ?_
        exact ok (m_reti rfl rfl) (ok_i r10 (Ev_rg (ev_X6_indexIn (D := D) k1 q1 g5) hr))
    · refine ok (m_iconst (q := 25) rfl rfl rfl) ?_
      refine ok (m_istore_n (q := 26) (lo' := [some (am_r (some 47)), some (am_r (some (4 + k1))), some (am_i (wz (-1)))]) rfl rfl rfl rfl rfl) ?_
      refine ok (m_iload_n (q := 27) rfl rfl rfl rfl) ?_
      refine ok (m_iconst (q := 28) rfl rfl rfl) ?_
      refine ok ((m_cmpne (qt := 38) (qf := 31) rfl rfl ⟨by decide, by decide⟩ ⟨by decide, by decide⟩ rfl rfl).trans (if_pos (by decide))) ?_
      refine ok (m_aload_n (q := 32) rfl rfl rfl rfl) ?_
      refine oke (e_cvd (x_cv (q := 35) rfl rfl rfl rfl rfl rfl rfl rfl rfl rfl (is_st hr rfl rfl)) (ev_X6_refuse (D := D)) (Nat.le_trans (by decide) hd) hr) (fun s12 r13 => ?_)
      refine ok (m_goto (q := 42) rfl rfl rfl) ?_
      refine ok (m_iload_n (q := 43) rfl rfl rfl rfl) ?_
      exact ok (m_reti rfl rfl) (ok_i r13 ⟨by decide, by decide⟩)
  · refine ok (m_iconst (q := 25) rfl rfl rfl) ?_
    refine ok (m_istore_n (q := 26) (lo' := [some (am_r (some 47)), some (am_r (some (4 + k1))), some (am_i (wz (-1)))]) rfl rfl rfl rfl rfl) ?_
    refine ok (m_iload_n (q := 27) rfl rfl rfl rfl) ?_
    refine ok (m_iconst (q := 28) rfl rfl rfl) ?_
    refine ok ((m_cmpne (qt := 38) (qf := 31) rfl rfl ⟨by decide, by decide⟩ ⟨by decide, by decide⟩ rfl rfl).trans (if_pos (by decide))) ?_
    refine ok (m_aload_n (q := 32) rfl rfl rfl rfl) ?_
    refine oke (e_cvd (x_cv (q := 35) rfl rfl rfl rfl rfl rfl rfl rfl rfl rfl (is_st hr rfl rfl)) (ev_X6_refuse (D := D)) (Nat.le_trans (by decide) hd) hr) (fun s14 r15 => ?_)
    refine ok (m_goto (q := 42) rfl rfl rfl) ?_
    refine ok (m_iload_n (q := 43) rfl rfl rfl rfl) ?_
    exact ok (m_reti rfl rfl) (ok_i r15 ⟨by decide, by decide⟩)
theorem fl_X6_takeWord (D : aD) (k1 : Nat) (t : Nat) (i : Int) (ht : Nat.ble t 49 = true) : u_X6_takeWord D k1 (900 + t) i = D (900 + t) i := fl_if (fl_if (fl_if ((fl_X6_refuse D t i ht).trans (rfl)) ((fl_X6_advance D t i ht).trans (rfl))) ((fl_X6_refuse D t i ht).trans (rfl))) ((fl_X6_refuse D t i ht).trans (rfl))
abbrev P_X6_takeComparison : Nat → Option am_E := am_fy tb_X6_takeComparison
def v_X6_takeComparison (D : aD) : Int := if D 47 3 = (-1) then if D 47 6 = 3 then if 0 ≤ w_J0_indexOf D 9 (o_i2c (o_and (D 48 (D 47 7)) 255)) then w_J0_indexOf D 9 (o_i2c (o_and (D 48 (D 47 7)) 255)) else w_J0_indexOf D 9 (o_i2c (o_and (D 48 (D 47 7)) 255)) else (-1) else (-1)
def u_X6_takeComparison (D : aD) : aD := if D 47 3 = (-1) then if D 47 6 = 3 then if 0 ≤ w_J0_indexOf D 9 (o_i2c (o_and (D 48 (D 47 7)) 255)) then (u_adv D) else (u_X6_refuse D) else (u_X6_refuse D) else (u_X6_refuse D)
def p_X6_takeComparison (D : aD) : Prop := (if D 47 3 = (-1) then (if D 47 6 = 3 then (0 ≤ D 47 7 ∧ D 47 7 < 700) ∧ (p_J0_indexOf D 9 (o_i2c (o_and (D 48 (D 47 7)) 255))) ∧ (if 0 ≤ w_J0_indexOf D 9 (o_i2c (o_and (D 48 (D 47 7)) 255)) then (p_adv D) else True) else True) else True)
set_option maxRecDepth 100000 in
theorem ev_X6_takeComparison {n : Nat} {A : aA} {D : aD} (hp : p_X6_takeComparison D) : Ev (n) 5 50 [am_r (some 47)] A D (ri (v_X6_takeComparison D)) A (u_X6_takeComparison D) := by
  unfold p_X6_takeComparison at hp
  unfold v_X6_takeComparison u_X6_takeComparison
  refine Ev_of (c := 4) (P := P_X6_takeComparison) (lo := [some (am_r (some 47)), none]) rfl rfl rfl (fun d hd s hr => ?_)
  refine ok (m_aload_n (q := 1) rfl rfl rfl rfl) ?_
  refine ok (m_gfs (z := 3) (q := 4) rfl rfl rfl hr rfl rfl rfl rfl rfl) ?_
  refine ok (m_iconst (q := 5) rfl rfl rfl) ?_
  refine okf (m_cmpne (qt := 38) (qf := 8) rfl rfl (Rp_rg hr 47 3) ⟨by decide, by decide⟩ rfl rfl) (fun c1 => ?_) (fun c1 => ?_)
  · replace hp := ip c1 hp
    refine ok (m_aload_n (q := 9) rfl rfl rfl rfl) ?_
    refine ok (m_gfs (z := 6) (q := 12) rfl rfl rfl hr rfl rfl rfl rfl rfl) ?_
    refine ok (m_iconst (q := 13) rfl rfl rfl) ?_
    refine okf (m_cmpne (qt := 38) (qf := 16) rfl rfl (Rp_rg hr 47 6) ⟨by decide, by decide⟩ rfl rfl) (fun c2 => ?_) (fun c2 => ?_)
    · replace hp := ip c2 hp
      refine ok (m_ldcr (q := 18) rfl rfl rfl) ?_
      refine ok (m_aload_n (q := 19) rfl rfl rfl rfl) ?_
      refine ok (m_gfc (q := 22) rfl rfl rfl hr rfl rfl rfl) ?_
      refine ok (m_aload_n (q := 23) rfl rfl rfl rfl) ?_
      refine ok (m_gfs (z := 7) (q := 26) rfl rfl rfl hr rfl rfl rfl rfl rfl) ?_
      obtain ⟨g3, hp⟩ := hp
      refine ok (m_bals (q := 27) rfl rfl rfl hr rfl rfl g3 rfl) ?_
      refine ok (m_sipush (q := 30) rfl rfl rfl) ?_
      refine ok (m_iand (q := 31) rfl rfl rfl) ?_
      refine ok (m_i2c (q := 32) rfl rfl rfl) ?_
      obtain ⟨g6, hp⟩ := hp
      refine oke (e_ci (x_cv (q := 35) rfl rfl rfl rfl rfl rfl rfl rfl rfl rfl (is_sr (k := 9) hr (by decide))) (ev_J0_indexOf (D := D) 9 (o_i2c (o_and (D 48 (D 47 7)) 255)) (by decide) (rg_o _) g6) (Nat.le_trans (by decide) hd) hr) (fun s4 r5 => ?_)
      refine ok (m_goto (q := 39) rfl rfl rfl) ?_
      refine ok (m_istore_n (q := 40) (lo' := [some (am_r (some 47)), some (am_i (wz (w_J0_indexOf D 9 (o_i2c (o_and (D 48 (D 47 7)) 255)))))]) rfl rfl rfl rfl rfl) ?_
      refine ok (m_iload_n (q := 41) rfl rfl rfl rfl) ?_
      refine okf (m_ifge (qt := 51) (qf := 44) rfl rfl (Ev_rg (ev_J0_indexOf (D := D) 9 (o_i2c (o_and (D 48 (D 47 7)) 255)) (by decide) (rg_o _) g6) hr) rfl rfl) (fun c7 => ?_) (fun c7 => ?_)
      · replace hp := ip c7 hp
        refine ok (m_aload_n (q := 52) rfl rfl rfl rfl) ?_
        have g10 := hp
        refine oke (e_cvd (x_cv (q := 55) rfl rfl rfl rfl rfl rfl rfl rfl rfl rfl (is_st r5 rfl rfl)) (ev_X6_advance (D := D) g10) (Nat.le_trans (by decide) hd) r5) (fun s8 r9 => ?_)
        refine ok (m_iload_n (q := 56) rfl rfl rfl rfl) ?_
        exact ok (m_reti rfl rfl) (ok_i r9 (Ev_rg (ev_J0_indexOf (D := D) 9 (o_i2c (o_and (D 48 (D 47 7)) 255)) (by decide) (rg_o _) g6) hr))
      · refine ok (m_aload_n (q := 45) rfl rfl rfl rfl) ?_
        refine oke (e_cvd (x_cv (q := 48) rfl rfl rfl rfl rfl rfl rfl rfl rfl rfl (is_st r5 rfl rfl)) (ev_X6_refuse (D := D)) (Nat.le_trans (by decide) hd) r5) (fun s11 r12 => ?_)
        refine ok (m_goto (q := 55) rfl rfl rfl) ?_
        refine ok (m_iload_n (q := 56) rfl rfl rfl rfl) ?_
        exact ok (m_reti rfl rfl) (ok_i r12 (Ev_rg (ev_J0_indexOf (D := D) 9 (o_i2c (o_and (D 48 (D 47 7)) 255)) (by decide) (rg_o _) g6) hr))
    · refine ok (m_iconst (q := 39) rfl rfl rfl) ?_
      refine ok (m_istore_n (q := 40) (lo' := [some (am_r (some 47)), some (am_i (wz (-1)))]) rfl rfl rfl rfl rfl) ?_
      refine ok (m_iload_n (q := 41) rfl rfl rfl rfl) ?_
      refine ok ((m_ifge (qt := 51) (qf := 44) rfl rfl ⟨by decide, by decide⟩ rfl rfl).trans (if_neg (by decide))) ?_
      refine ok (m_aload_n (q := 45) rfl rfl rfl rfl) ?_
      refine oke (e_cvd (x_cv (q := 48) rfl rfl rfl rfl rfl rfl rfl rfl rfl rfl (is_st hr rfl rfl)) (ev_X6_refuse (D := D)) (Nat.le_trans (by decide) hd) hr) (fun s13 r14 => ?_)
      refine ok (m_goto (q := 55) rfl rfl rfl) ?_
      refine ok (m_iload_n (q := 56) rfl rfl rfl rfl) ?_
      exact ok (m_reti rfl rfl) (ok_i r14 ⟨by decide, by decide⟩)
  · refine ok (m_iconst (q := 39) rfl rfl rfl) ?_
    refine ok (m_istore_n (q := 40) (lo' := [some (am_r (some 47)), some (am_i (wz (-1)))]) rfl rfl rfl rfl rfl) ?_
    refine ok (m_iload_n (q := 41) rfl rfl rfl rfl) ?_
    refine ok ((m_ifge (qt := 51) (qf := 44) rfl rfl ⟨by decide, by decide⟩ rfl rfl).trans (if_neg (by decide))) ?_
    refine ok (m_aload_n (q := 45) rfl rfl rfl rfl) ?_
    refine oke (e_cvd (x_cv (q := 48) rfl rfl rfl rfl rfl rfl rfl rfl rfl rfl (is_st hr rfl rfl)) (ev_X6_refuse (D := D)) (Nat.le_trans (by decide) hd) hr) (fun s15 r16 => ?_)
    refine ok (m_goto (q := 55) rfl rfl rfl) ?_
    refine ok (m_iload_n (q := 56) rfl rfl rfl rfl) ?_
    exact ok (m_reti rfl rfl) (ok_i r16 ⟨by decide, by decide⟩)
theorem fl_X6_takeComparison (D : aD) (t : Nat) (i : Int) (ht : Nat.ble t 49 = true) : u_X6_takeComparison D (900 + t) i = D (900 + t) i := fl_if (fl_if (fl_if ((fl_X6_advance D t i ht).trans (rfl)) ((fl_X6_refuse D t i ht).trans (rfl))) ((fl_X6_refuse D t i ht).trans (rfl))) ((fl_X6_refuse D t i ht).trans (rfl))
/-- a number out of its digits -/
def nvF (T : Int → Int) (a : Int) : Nat → Int
  | 0 => 0
  | k + 1 => 10 * nvF T a k + T (a + k) - 48
def nv (T : Int → Int) (a e : Int) : Int := nvF T a (e - a).toNat
def tenP : Nat → Int
  | 0 => 1
  | k + 1 => 10 * tenP k
theorem nvF_b {T : Int → Int} {a : Int} : ∀ (k : Nat), (∀ i, a ≤ i → i < a + k → kc (T i) = 2) → 0 ≤ nvF T a k ∧ nvF T a k < tenP k
  | 0, _ => ⟨Int.le_refl _, by show (0 : Int) < 1; decide⟩
  | k + 1, h => by
    have ih := nvF_b k (fun i h1 h2 => h i h1 (by omega))
    have hk := kc2.mp (h (a + k) (by omega) (by omega))
    show 0 ≤ 10 * nvF T a k + T (a + k) - 48 ∧ 10 * nvF T a k + T (a + k) - 48 < 10 * tenP k
    omega
theorem ten_le : ∀ k, k ≤ 4 → tenP k ≤ 10000 := by
  intro k hk
  rcases (by omega : k = 0 ∨ k = 1 ∨ k = 2 ∨ k = 3 ∨ k = 4) with rfl | rfl | rfl | rfl | rfl <;> decide
theorem nv_b {T : Int → Int} {a e : Int} (h0 : a ≤ e) (h1 : e ≤ a + 4) (h : ∀ i, a ≤ i → i < e → kc (T i) = 2) : 0 ≤ nv T a e ∧ nv T a e ≤ 9999 := by
  have h2 := nvF_b (T := T) (a := a) (e - a).toNat (fun i q1 q2 => h i q1 (by omega))
  have h3 := ten_le (e - a).toNat (by omega)
  unfold nv
  omega
abbrev isN (D : aD) (m : Int) : Prop := D 47 3 = -1 ∧ D 47 6 = 2 ∧ D 47 8 - D 47 7 ≤ 4 ∧ nv (D 48) (D 47 7) (D 47 8) ≤ m
def w_num (D : aD) (m : Int) : Int := if isN D m then nv (D 48) (D 47 7) (D 47 8) else -1
def u_num (D : aD) (m : Int) : aD := if isN D m then u_adv D else u_X6_refuse D
def p_num (D : aD) (_ : Int) : Prop := (0 ≤ D 47 7 ∧ D 47 7 ≤ D 47 8 ∧ D 47 8 ≤ 700) ∧ (D 47 6 = 2 → (∀ i, D 47 7 ≤ i → i < D 47 8 → kc (D 48 i) = 2) ∧ p_adv D)
abbrev P_X6_takeNumber : Nat → Option am_E := am_fy tb_X6_takeNumber
def K_X6_takeNumber_36 (n : Nat) (A : aA) (D : aD) (a1 : Int) (a2 : Int) (a3 : Int) (x : Int) (D' : aD) : Prop := Lp n 2 P_X6_takeNumber 36 [some (am_r (some 47)), some (am_i (wz a1)), some (am_i (wz a2)), some (am_i (wz a3))] [] A D (ri x) A D'
set_option maxRecDepth 100000 in
theorem rl_X6_takeNumber {n : Nat} {A : aA} {D D' : aD} (a1 : Int) (h1 : rg a1) {x : Int} (hp : (if D 47 3 = (-1) then (if D 47 6 = 2 then (if 4 < wr ((D 47 8) - (D 47 7)) then (x = (-1) ∧ D' = (u_X6_refuse D)) else K_X6_takeNumber_36 (n) A D a1 0 (D 47 7) x D') else (x = (-1) ∧ D' = (u_X6_refuse D))) else (x = (-1) ∧ D' = (u_X6_refuse D)))) : Ev (n) (3) 49 [am_r (some 47), am_i (wz a1)] A D (ri x) A D' := by
  refine Ev_of (c := 2) (P := P_X6_takeNumber) (lo := [some (am_r (some 47)), some (am_i (wz a1)), none, none]) rfl rfl rfl (fun d hd s hr => ?_)
  refine ok (m_iconst (q := 1) rfl rfl rfl) ?_
  refine ok (m_istore_n (q := 2) (lo' := [some (am_r (some 47)), some (am_i (wz a1)), some (am_i (wz 0)), none]) rfl rfl rfl rfl rfl) ?_
  refine ok (m_aload_n (q := 3) rfl rfl rfl rfl) ?_
  refine ok (m_gfs (z := 3) (q := 6) rfl rfl rfl hr rfl rfl rfl rfl rfl) ?_
  refine ok (m_iconst (q := 7) rfl rfl rfl) ?_
  refine okc (m_cmpne (qt := 76) (qf := 10) rfl rfl (Rp_rg hr 47 3) ⟨by decide, by decide⟩ rfl rfl) (fun c1 => ?_) (fun c1 => ?_)
  · replace hp := ip c1 hp
    refine ok (m_aload_n (q := 11) rfl rfl rfl rfl) ?_
    refine ok (m_gfs (z := 6) (q := 14) rfl rfl rfl hr rfl rfl rfl rfl rfl) ?_
    refine ok (m_iconst (q := 15) rfl rfl rfl) ?_
    refine okc (m_cmpne (qt := 76) (qf := 18) rfl rfl (Rp_rg hr 47 6) ⟨by decide, by decide⟩ rfl rfl) (fun c2 => ?_) (fun c2 => ?_)
    · replace hp := ip c2 hp
      refine ok (m_aload_n (q := 19) rfl rfl rfl rfl) ?_
      refine ok (m_gfs (z := 8) (q := 22) rfl rfl rfl hr rfl rfl rfl rfl rfl) ?_
      refine ok (m_aload_n (q := 23) rfl rfl rfl rfl) ?_
      refine ok (m_gfs (z := 7) (q := 26) rfl rfl rfl hr rfl rfl rfl rfl rfl) ?_
      refine ok (m_isub (q := 27) rfl rfl rfl) ?_
      refine ok (m_iconst (q := 28) rfl rfl rfl) ?_
      refine okc (m_cmpgt (qt := 76) (qf := 31) rfl rfl (rg_wr _) ⟨by decide, by decide⟩ rfl rfl) (fun c3 => ?_) (fun c3 => ?_)
      · replace hp := ip c3 hp
        refine ok (m_aload_n (q := 77) rfl rfl rfl rfl) ?_
        refine oke (e_cvd (x_cv (q := 80) rfl rfl rfl rfl rfl rfl rfl rfl rfl rfl (is_st hr rfl rfl)) (ev_X6_refuse (D := D)) (Nat.le_trans (by decide) hd) hr) (fun s4 r5 => ?_)
        refine ok (m_iconst (q := 81) rfl rfl rfl) ?_
        exact ok (m_reti rfl rfl) (ok_iq r5 ⟨by decide, by decide⟩ hp)
      · replace hp := iq c3 hp
        refine ok (m_aload_n (q := 32) rfl rfl rfl rfl) ?_
        refine ok (m_gfs (z := 7) (q := 35) rfl rfl rfl hr rfl rfl rfl rfl rfl) ?_
        refine ok (m_istore_n (q := 36) (lo' := [some (am_r (some 47)), some (am_i (wz a1)), some (am_i (wz 0)), some (am_i (wz (D 47 7)))]) rfl rfl rfl rfl rfl) ?_
        exact hp d hd _ hr
    · replace hp := iq c2 hp
      refine ok (m_aload_n (q := 77) rfl rfl rfl rfl) ?_
      refine oke (e_cvd (x_cv (q := 80) rfl rfl rfl rfl rfl rfl rfl rfl rfl rfl (is_st hr rfl rfl)) (ev_X6_refuse (D := D)) (Nat.le_trans (by decide) hd) hr) (fun s6 r7 => ?_)
      refine ok (m_iconst (q := 81) rfl rfl rfl) ?_
      exact ok (m_reti rfl rfl) (ok_iq r7 ⟨by decide, by decide⟩ hp)
  · replace hp := iq c1 hp
    refine ok (m_aload_n (q := 77) rfl rfl rfl rfl) ?_
    refine oke (e_cvd (x_cv (q := 80) rfl rfl rfl rfl rfl rfl rfl rfl rfl rfl (is_st hr rfl rfl)) (ev_X6_refuse (D := D)) (Nat.le_trans (by decide) hd) hr) (fun s8 r9 => ?_)
    refine ok (m_iconst (q := 81) rfl rfl rfl) ?_
    exact ok (m_reti rfl rfl) (ok_iq r9 ⟨by decide, by decide⟩ hp)
set_option maxRecDepth 100000 in
theorem rl_X6_takeNumber_36 {n : Nat} {A : aA} {D D' : aD} (a1 : Int) (a2 : Int) (a3 : Int) (h1 : rg a1) (h2 : rg a2) (h3 : rg a3) {x : Int} (hp : (if D 47 8 ≤ a3 then (if a1 < a2 then (x = (-1) ∧ D' = (u_X6_refuse D)) else (p_adv D) ∧ (x = a2 ∧ D' = (u_adv D))) else (0 ≤ a3 ∧ a3 < 700) ∧ K_X6_takeNumber_36 (n) A D a1 (wr ((wr ((wr (a2 * 10)) + (D 48 a3))) - 48)) (wr (a3 + 1)) x D')) : K_X6_takeNumber_36 (n) A D a1 a2 a3 x D' := by
  unfold K_X6_takeNumber_36
  refine fun d hd s hr => ?_
  refine ok (m_iload_n (q := 37) rfl rfl rfl rfl) ?_
  refine ok (m_aload_n (q := 38) rfl rfl rfl rfl) ?_
  refine ok (m_gfs (z := 8) (q := 41) rfl rfl rfl hr rfl rfl rfl rfl rfl) ?_
  refine okc (m_cmpge (qt := 65) (qf := 44) rfl rfl h3 (Rp_rg hr 47 8) rfl rfl) (fun c10 => ?_) (fun c10 => ?_)
  · replace hp := ip c10 hp
    refine ok (m_iload_n (q := 66) rfl rfl rfl rfl) ?_
    refine ok (m_iload_n (q := 67) rfl rfl rfl rfl) ?_
    refine okc (m_cmpgt (qt := 76) (qf := 70) rfl rfl h2 h1 rfl rfl) (fun c11 => ?_) (fun c11 => ?_)
    · replace hp := ip c11 hp
      refine ok (m_aload_n (q := 77) rfl rfl rfl rfl) ?_
      refine oke (e_cvd (x_cv (q := 80) rfl rfl rfl rfl rfl rfl rfl rfl rfl rfl (is_st hr rfl rfl)) (ev_X6_refuse (D := D)) (Nat.le_trans (by decide) hd) hr) (fun s12 r13 => ?_)
      refine ok (m_iconst (q := 81) rfl rfl rfl) ?_
      exact ok (m_reti rfl rfl) (ok_iq r13 ⟨by decide, by decide⟩ hp)
    · replace hp := iq c11 hp
      refine ok (m_aload_n (q := 71) rfl rfl rfl rfl) ?_
      obtain ⟨g16, hp⟩ := hp
      refine oke (e_cvd (x_cv (q := 74) rfl rfl rfl rfl rfl rfl rfl rfl rfl rfl (is_st hr rfl rfl)) (ev_X6_advance (D := D) g16) (Nat.le_trans (by decide) hd) hr) (fun s14 r15 => ?_)
      refine ok (m_iload_n (q := 75) rfl rfl rfl rfl) ?_
      exact ok (m_reti rfl rfl) (ok_iq r15 h2 hp)
  · replace hp := iq c10 hp
    refine ok (m_iload_n (q := 45) rfl rfl rfl rfl) ?_
    refine ok (m_bipush (q := 47) rfl rfl rfl) ?_
    refine ok (m_imul (q := 48) rfl rfl rfl) ?_
    refine ok (m_aload_n (q := 49) rfl rfl rfl rfl) ?_
    refine ok (m_gfc (q := 52) rfl rfl rfl hr rfl rfl rfl) ?_
    refine ok (m_iload_n (q := 53) rfl rfl rfl rfl) ?_
    obtain ⟨g17, hp⟩ := hp
    refine ok (m_bals (q := 54) rfl rfl rfl hr rfl rfl g17 rfl) ?_
    refine ok (m_iadd (q := 55) rfl rfl rfl) ?_
    refine ok (m_bipush (q := 57) rfl rfl rfl) ?_
    refine ok (m_isub (q := 58) rfl rfl rfl) ?_
    refine ok (m_istore_n (q := 59) (lo' := [some (am_r (some 47)), some (am_i (wz a1)), some (am_i (wz (wr ((wr ((wr (a2 * 10)) + (D 48 a3))) - 48)))), some (am_i (wz a3))]) rfl rfl rfl rfl rfl) ?_
    refine ok (m_iinc (q := 62) (lo' := [some (am_r (some 47)), some (am_i (wz a1)), some (am_i (wz (wr ((wr ((wr (a2 * 10)) + (D 48 a3))) - 48)))), some (am_i (wz (wr (a3 + 1))))]) rfl rfl rfl rfl rfl rfl rfl) ?_
    refine ok (m_goto (q := 36) rfl rfl rfl) ?_
    exact hp d hd _ hr
theorem K_num (m : Int) (hm : rg m) (hp : p_num D m) (h3 : D 47 3 = -1) (h6 : D 47 6 = 2) (h4 : D 47 8 - D 47 7 ≤ 4) : ∀ (r j : Nat), D 47 7 + j + r = D 47 8 → K_X6_takeNumber_36 n A D m (nvF (D 48) (D 47 7) j) (D 47 7 + j) (w_num D m) (u_num D m) := by
  obtain ⟨⟨p0, p1, p2⟩, hq⟩ := hp
  obtain ⟨hd, ha⟩ := hq h6
  have hnb : ∀ j : Nat, D 47 7 + j ≤ D 47 8 → 0 ≤ nvF (D 48) (D 47 7) j ∧ nvF (D 48) (D 47 7) j ≤ 9999 := by
    intro j hj
    have h2 := nvF_b (T := D 48) (a := D 47 7) j (fun i q1 q2 => hd i q1 (by omega))
    have h3 := ten_le j (by omega)
    omega
  intro r
  induction r with
  | zero =>
    intro j e
    have hb := hnb j (by omega)
    refine rl_X6_takeNumber_36 m _ _ hm (rgb (by omega) (by omega)) (rgb (by omega) (by omega)) ?_
    rw [if_pos (by omega)]
    have en : nv (D 48) (D 47 7) (D 47 8) = nvF (D 48) (D 47 7) j := by unfold nv; rw [show (D 47 8 - D 47 7).toNat = j by omega]
    unfold w_num u_num
    by_cases q : m < nvF (D 48) (D 47 7) j
    · have hz : ¬ isN D m := fun z => by have := z.2.2.2; omega
      rw [if_pos q, if_neg hz, if_neg hz]
      exact ⟨rfl, rfl⟩
    · have hz : isN D m := ⟨h3, h6, h4, by omega⟩
      rw [if_neg q, if_pos hz, if_pos hz, en]
      exact ⟨ha, rfl, rfl⟩
  | succ r ih =>
    intro j e
    have hb := hnb j (by omega)
    have hi := ih (j + 1) (by omega)
    have hb2 := hnb (j + 1) (by omega)
    have hk := kc2.mp (hd (D 47 7 + j) (by omega) (by omega))
    refine rl_X6_takeNumber_36 m _ _ hm (rgb (by omega) (by omega)) (rgb (by omega) (by omega)) ?_
    rw [if_neg (by omega), wr_id (z := nvF (D 48) (D 47 7) j * 10) (by omega) (by omega), wr_id (z := nvF (D 48) (D 47 7) j * 10 + D 48 (D 47 7 + j)) (by omega) (by omega), wr_id (z := nvF (D 48) (D 47 7) j * 10 + D 48 (D 47 7 + j) - 48) (by omega) (by omega), wr_id (z := D 47 7 + (j : Int) + 1) (by omega) (by omega)]
    refine ⟨⟨by omega, by omega⟩, ?_⟩
    have e1 : nvF (D 48) (D 47 7) j * 10 + D 48 (D 47 7 + j) - 48 = nvF (D 48) (D 47 7) (j + 1) := by
      show _ = 10 * nvF (D 48) (D 47 7) j + D 48 (D 47 7 + j) - 48
      omega
    rw [e1, show D 47 7 + (j : Int) + 1 = D 47 7 + ((j + 1 : Nat) : Int) by omega]
    exact hi
theorem ev_X6_takeNumber (m : Int) (hm : rg m) (hp : p_num D m) : Ev n 3 49 [am_r (some 47), am_i (wz m)] A D (ri (w_num D m)) A (u_num D m) := by
  refine rl_X6_takeNumber m hm ?_
  obtain ⟨p0, p1, p2⟩ := hp.1
  have hno : ¬ isN D m → (w_num D m = -1 ∧ u_num D m = u_X6_refuse D) := fun q => by unfold w_num u_num; rw [if_neg q, if_neg q]; exact ⟨rfl, rfl⟩
  by_cases h3 : D 47 3 = -1
  · rw [if_pos h3]
    by_cases h6 : D 47 6 = 2
    · rw [if_pos h6, wr_id (by omega) (by omega)]
      by_cases h4 : 4 < D 47 8 - D 47 7
      · rw [if_pos h4]; exact hno (fun z => by have := z.2.2.1; omega)
      · rw [if_neg h4]
        have := K_num (n := n) (A := A) m hm hp h3 h6 (by omega) (D 47 8 - D 47 7).toNat 0 (by omega)
        rw [show D 47 7 + ((0 : Nat) : Int) = D 47 7 by omega] at this
        exact this
    · rw [if_neg h6]; exact hno (fun z => h6 z.2.1)
  · rw [if_neg h3]; exact hno (fun z => h3 z.1)
theorem num_r {m : Int} (hp : p_num D m) : rg (w_num D m) := by
  unfold w_num
  split
  · rename_i q
    have := nv_b (T := D 48) (a := D 47 7) (e := D 47 8) hp.1.2.1 (by have := q.2.2.1; omega) (hp.2 q.2.1).1
    exact rgb (by omega) (by omega)
  · exact rgb (by omega) (by omega)
theorem fl_X6_takeNumber (D : aD) (m : Int) (t : Nat) (i : Int) (ht : Nat.ble t 49 = true) : u_num D m (900 + t) i = D (900 + t) i := by
  unfold u_num
  split
  · exact fl_X6_advance D t i ht
  · exact fl_X6_refuse D t i ht
end Wrd
