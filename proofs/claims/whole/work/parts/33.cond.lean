/-! Conditions: what they say of six facts; the class's signs behind what they join, the reference's tree. -/
section Cd
variable {n : Nat} {A : aA} {D : aD}
abbrev Tf : Type := (Int → Int) → Bool
def hd1 : List Bool → Bool
  | [] => false
  | b :: _ => b
def tl1 : List Bool → List Bool
  | [] => []
  | _ :: r => r
theorem hd1_get (s : List Bool) : hd1 s = s.getD 0 false := by cases s <;> rfl
theorem tl1_get (s : List Bool) (i : Nat) : (tl1 s).getD i false = s.getD (i + 1) false := by cases s <;> rfl
theorem tl1_len (s : List Bool) : (tl1 s).length ≤ s.length := by cases s <;> simp [tl1]
def Rb (l : Int64) (s : List Bool) : Prop := ∀ i, i < 64 → l.toBitVec.getLsbD i = s.getD i false
theorem Rb_0 : Rb (0 : Int64) [] := fun i _ => by simp
theorem Rb_not {l : Int64} {s : List Bool} (h : Rb l s) : Rb (l ^^^ (1 : Int64)) ((!hd1 s) :: tl1 s) := by
  intro i hi
  rw [Int64.toBitVec_xor, BitVec.getLsbD_xor, h i hi]
  cases i with
  | zero => rw [hd1_get]; show (s.getD 0 false ^^ true) = _; simp
  | succ i =>
    have e : ((1 : Int64).toBitVec).getLsbD (i + 1) = false := by
      have : (1 : Int64).toBitVec = 1#64 := by decide
      rw [this]; simp
    rw [e]; show (s.getD (i + 1) false ^^ false) = (tl1 s).getD i false
    rw [tl1_get]; simp
theorem sh_c1 : ((wz 1).toInt64.toUInt64 &&& Int64.toUInt64 63) = (1 : UInt64) := by decide
theorem sh_c2 : ((wz 1).toInt64 &&& 63) = (1 : Int64) := by decide
theorem shr_get (l : Int64) (i : Nat) : ((l.toUInt64 >>> (1 : UInt64)).toInt64).toBitVec.getLsbD i = l.toBitVec.getLsbD (i + 1) := by
  show ((l.toUInt64 >>> (1 : UInt64)).toBitVec).getLsbD i = _
  rw [UInt64.toBitVec_shiftRight]
  have : (1 : UInt64).toBitVec % 64 = 1#64 := by decide
  rw [this]
  show (l.toBitVec >>> (1#64)).getLsbD i = _
  rw [BitVec.ushiftRight_eq', BitVec.getLsbD_ushiftRight]
  congr 1
  have : (1#64).toNat = 1 := by decide
  omega
theorem shl_get (l : Int64) (i : Nat) : (l <<< (1 : Int64)).toBitVec.getLsbD i = (decide (i < 64) && !decide (i < 1) && l.toBitVec.getLsbD (i - 1)) := by
  rw [Int64.toBitVec_shiftLeft]
  have : ((1 : Int64).toBitVec.smod 64) = 1#64 := by decide
  rw [this, BitVec.shiftLeft_eq', BitVec.getLsbD_shiftLeft]
  rfl
theorem getD_big {s : List Bool} {i : Nat} (h : s.length ≤ i) : s.getD i false = false := by
  rw [List.getD_eq_getElem?_getD, List.getElem?_eq_none h]; rfl
theorem Rb_and {l : Int64} {s : List Bool} (h : Rb l s) (hl : s.length ≤ 64) : Rb (((l.toUInt64 >>> ((wz 1).toInt64.toUInt64 &&& Int64.toUInt64 63)).toInt64) &&& (l ||| ((-2) : Int64))) ((hd1 (tl1 s) && hd1 s) :: tl1 (tl1 s)) := by
  intro i hi
  rw [sh_c1, Int64.toBitVec_and, BitVec.getLsbD_and, shr_get, Int64.toBitVec_or, BitVec.getLsbD_or]
  cases i with
  | zero =>
    have e : ((-2 : Int64).toBitVec).getLsbD 0 = false := by decide
    rw [e, h 1 (by omega), h 0 (by omega)]
    show (s.getD 1 false && (s.getD 0 false || false)) = (hd1 (tl1 s) && hd1 s)
    rw [hd1_get, hd1_get, tl1_get]; simp
  | succ i =>
    have e : ((-2 : Int64).toBitVec).getLsbD (i + 1) = true := by
      have key : ∀ j : Fin 63, ((-2 : Int64).toBitVec).getLsbD (j.val + 1) = true := by decide
      exact key ⟨i, by omega⟩
    rw [e]
    show (l.toBitVec.getLsbD (i + 1 + 1) && (l.toBitVec.getLsbD (i + 1) || true)) = (tl1 (tl1 s)).getD i false
    rw [tl1_get, tl1_get, Bool.or_true, Bool.and_true]
    by_cases q : i + 1 + 1 < 64
    · exact h _ q
    · rw [getD_big (by omega)]
      exact BitVec.getLsbD_of_ge _ _ (by omega)
theorem Rb_or {l : Int64} {s : List Bool} (h : Rb l s) (hl : s.length ≤ 64) : Rb (((l.toUInt64 >>> ((wz 1).toInt64.toUInt64 &&& Int64.toUInt64 63)).toInt64) ||| (l &&& (1 : Int64))) ((hd1 (tl1 s) || hd1 s) :: tl1 (tl1 s)) := by
  intro i hi
  rw [sh_c1, Int64.toBitVec_or, BitVec.getLsbD_or, shr_get, Int64.toBitVec_and, BitVec.getLsbD_and]
  have e1 : (1 : Int64).toBitVec = 1#64 := by decide
  rw [e1]
  cases i with
  | zero =>
    rw [h 1 (by omega), h 0 (by omega)]
    show (s.getD 1 false || (s.getD 0 false && true)) = (hd1 (tl1 s) || hd1 s)
    rw [hd1_get, hd1_get, tl1_get]; simp
  | succ i =>
    have e : (1#64).getLsbD (i + 1) = false := by simp
    rw [e]
    show (l.toBitVec.getLsbD (i + 1 + 1) || (l.toBitVec.getLsbD (i + 1) && false)) = (tl1 (tl1 s)).getD i false
    rw [tl1_get, tl1_get, Bool.and_false, Bool.or_false]
    by_cases q : i + 1 + 1 < 64
    · exact h _ q
    · rw [getD_big (by omega)]
      exact BitVec.getLsbD_of_ge _ _ (by omega)
theorem Rb_psh {l : Int64} {s : List Bool} (h : Rb l s) (b : Bool) {m : Int64} (hm : ∀ i, i < 64 → m.toBitVec.getLsbD i = (decide (i = 0) && b)) : Rb ((l <<< ((wz 1).toInt64 &&& 63)) ||| m) (b :: s) := by
  intro i hi
  rw [sh_c2, Int64.toBitVec_or, BitVec.getLsbD_or, shl_get, hm i hi]
  cases i with
  | zero => simp
  | succ i =>
    show (decide (i + 1 < 64) && !decide (i + 1 < 1) && l.toBitVec.getLsbD (i + 1 - 1) || (decide (i + 1 = 0) && b)) = s.getD i false
    rw [← h i (by omega)]
    simp [hi]
theorem m0_get : ∀ i, i < 64 → ((wz 0).toInt64).toBitVec.getLsbD i = (decide (i = 0) && false) := by
  intro i hi
  have : ((wz 0).toInt64).toBitVec = 0#64 := by decide
  rw [this]; simp
theorem m1_get : ∀ i, i < 64 → ((wz 1).toInt64).toBitVec.getLsbD i = (decide (i = 0) && true) := by
  intro i hi
  have key : ∀ j : Fin 64, ((wz 1).toInt64).toBitVec.getLsbD j.val = (decide (j.val = 0) && true) := by decide
  exact key ⟨i, hi⟩
theorem Rb_tst {l : Int64} {s : List Bool} (h : Rb l s) : (o_lcmp (l &&& (1 : Int64)) (0 : Int64) = 0) ↔ hd1 s = false := by
  have e0 : (l &&& (1 : Int64) = 0) ↔ hd1 s = false := by
    rw [hd1_get, ← h 0 (by omega)]
    have e1 : (1 : Int64).toBitVec = 1#64 := by decide
    constructor
    · intro q
      have : (l &&& (1 : Int64)).toBitVec.getLsbD 0 = false := by rw [q]; decide
      rw [Int64.toBitVec_and, BitVec.getLsbD_and, e1] at this
      simpa using this
    · intro q
      apply Int64.toBitVec_inj.mp
      apply BitVec.eq_of_getLsbD_eq
      intro i hi
      rw [Int64.toBitVec_and, BitVec.getLsbD_and, e1]
      have z : (0 : Int64).toBitVec.getLsbD i = false := by
        have : (0 : Int64).toBitVec = 0#64 := by decide
        rw [this]; simp
      rw [z]
      cases i with
      | zero => rw [q]; rfl
      | succ i => simp
  rw [← e0]
  unfold o_lcmp
  constructor
  · intro q
    split at q
    · omega
    · split at q
      · assumption
      · omega
  · intro q
    rw [q]
    rfl
/-- one sign, one fact -/
def cmpv (f : Int → Int) (c : Int) : Bool := if c / 10000 % 3 = 0 then decide (f (c / 30000) < c % 10000) else if c / 10000 % 3 = 1 then decide (c % 10000 < f (c / 30000)) else decide (f (c / 30000) = c % 10000)
def ev1 (f : Int → Int) (s : List Bool) (c : Int) : List Bool := if c = -1 then (!hd1 s) :: tl1 s else if c = -2 then (hd1 (tl1 s) && hd1 s) :: tl1 (tl1 s) else if c = -3 then (hd1 (tl1 s) || hd1 s) :: tl1 (tl1 s) else cmpv f c :: s
def PX (g f : Int → Int) (m : Int) : List Bool := foi (fun s i => ev1 f s (g i)) [] m
theorem cmp_eq {i c : Int} (h0 : 0 ≤ c) (h1 : c < 180000) : v_X7_compares D i c = (if cmpv (fun j => D 3401 (1024 * i + j)) c = true then 1 else 0) ∧ (0 ≤ c / 30000 ∧ c / 30000 < 6) ∧ (wr ((wr (c.tdiv 10000)).tdiv 3)).tmod 6 = c / 30000 := by
  have e1 : c.tdiv 10000 = c / 10000 := Int.tdiv_eq_ediv_of_nonneg h0
  have e2 : wr (c / 10000) = c / 10000 := wr_id (by omega) (by omega)
  have e3 : (c / 10000).tdiv 3 = c / 10000 / 3 := Int.tdiv_eq_ediv_of_nonneg (by omega)
  have e4 : wr (c / 10000 / 3) = c / 10000 / 3 := wr_id (by omega) (by omega)
  have e5 : (c / 10000 / 3).tmod 6 = c / 10000 / 3 % 6 := Int.tmod_eq_emod_of_nonneg (by omega)
  have e6 : (c / 10000).tmod 3 = c / 10000 % 3 := Int.tmod_eq_emod_of_nonneg (by omega)
  have e7 : c.tmod 10000 = c % 10000 := Int.tmod_eq_emod_of_nonneg h0
  have e8 : c / 10000 / 3 % 6 = c / 30000 := by omega
  refine ⟨?_, ⟨by omega, by omega⟩, by rw [e1, e2, e3, e4, e5, e8]⟩
  unfold v_X7_compares cmpv
  rw [e1, e2, e3, e4, e5, e6, e7, e8]
  by_cases c1 : c / 10000 % 3 = 0
  · simp only [if_pos c1, decide_eq_true_eq]; split <;> split <;> omega
  · simp only [if_neg c1]
    by_cases c2 : c / 10000 % 3 = 1
    · simp only [if_pos c2, decide_eq_true_eq]; split <;> split <;> omega
    · simp only [if_neg c2, decide_eq_true_eq]
abbrev P_X7_holds : Nat → Option am_E := am_fy tb_X7_holds
def K_X7_holds_5 (n : Nat) (A : aA) (D : aD) (i0 : Int) (i1 : Int) (l2 : Int64) (a4 : Int) (x : Int) (D' : aD) : Prop := Lp n 1 P_X7_holds 5 [some (am_r (some (A 14 i0))), some (am_r (some (A 22 i1))), some (am_l l2), none, some (am_i (wz a4)), none] [] A D (ri x) A D'
set_option maxRecDepth 100000 in
theorem rl_X7_holds {n : Nat} {A : aA} {D D' : aD} (i0 : Int) (i1 : Int) (f0 : D 914 i0 = 1) (f1 : D 922 i1 = 1) {x : Int} (hp : K_X7_holds_5 (n + 2) A D i0 i1 (0 : Int64) 0 x D') : Ev (n + 2) (2) 64 [am_r (some (A 14 i0)), am_r (some (A 22 i1))] A D (ri x) A D' := by
  refine Ev_of (c := 1) (P := P_X7_holds) (lo := [some (am_r (some (A 14 i0))), some (am_r (some (A 22 i1))), none, none, none, none]) rfl rfl rfl (fun d hd s hr => ?_)
  refine ok (m_lconst (q := 1) rfl rfl rfl) ?_
  refine ok (m_lstore_n (q := 2) (lo' := [some (am_r (some (A 14 i0))), some (am_r (some (A 22 i1))), some (am_l (0 : Int64)), none, none, none]) rfl rfl rfl rfl rfl) ?_
  refine ok (m_iconst (q := 3) rfl rfl rfl) ?_
  refine ok (m_istore (q := 5) (lo' := [some (am_r (some (A 14 i0))), some (am_r (some (A 22 i1))), some (am_l (0 : Int64)), none, some (am_i (wz 0)), none]) rfl rfl rfl rfl rfl) ?_
  exact hp d hd _ hr
set_option maxRecDepth 100000 in
theorem rl_X7_holds_5 {n : Nat} {A : aA} {D D' : aD} (i0 : Int) (i1 : Int) (l2 : Int64) (a4 : Int) (f0 : D 914 i0 = 1) (f1 : D 922 i1 = 1) (h4 : rg a4) {x : Int} (hp : (if D 3200 i1 ≤ a4 then (if o_lcmp (l2 &&& (1 : Int64)) (0 : Int64) = 0 then (x = 0 ∧ D' = D) else (x = 1 ∧ D' = D)) else (0 ≤ a4 ∧ a4 < D 3200 i1) ∧ (if D 3201 (1024 * i1 + a4) = (-1) then K_X7_holds_5 (n + 2) A D i0 i1 (l2 ^^^ (1 : Int64)) (wr (a4 + 1)) x D' else (if D 3201 (1024 * i1 + a4) = (-2) then K_X7_holds_5 (n + 2) A D i0 i1 (((l2.toUInt64 >>> ((wz 1).toInt64.toUInt64 &&& Int64.toUInt64 63)).toInt64) &&& (l2 ||| ((-2) : Int64))) (wr (a4 + 1)) x D' else (if D 3201 (1024 * i1 + a4) = (-3) then K_X7_holds_5 (n + 2) A D i0 i1 (((l2.toUInt64 >>> ((wz 1).toInt64.toUInt64 &&& Int64.toUInt64 63)).toInt64) ||| (l2 &&& (1 : Int64))) (wr (a4 + 1)) x D' else (p_X7_compares D i0 (D 3201 (1024 * i1 + a4))) ∧ (if v_X7_compares D i0 (D 3201 (1024 * i1 + a4)) = 0 then K_X7_holds_5 (n + 2) A D i0 i1 ((l2 <<< ((wz 1).toInt64 &&& 63)) ||| ((wz 0).toInt64)) (wr (a4 + 1)) x D' else K_X7_holds_5 (n + 2) A D i0 i1 ((l2 <<< ((wz 1).toInt64 &&& 63)) ||| ((wz 1).toInt64)) (wr (a4 + 1)) x D')))))) : K_X7_holds_5 (n + 2) A D i0 i1 l2 a4 x D' := by
  unfold K_X7_holds_5
  refine fun d hd s hr => ?_
  refine ok (m_iload (q := 7) rfl rfl rfl rfl) ?_
  refine ok (m_aload_n (q := 8) rfl rfl rfl rfl) ?_
  refine ok (m_lent (t := 22) (q := 9) rfl rfl rfl hr rfl f1 rfl rfl rfl) ?_
  refine okc (m_cmpge (qt := 95) (qf := 12) rfl rfl h4 (show rg (D 3200 i1) from Rp_rg hr 3200 i1) rfl rfl) (fun c1 => ?_) (fun c1 => ?_)
  · replace hp := ip c1 hp
    refine ok (m_lload_n (q := 96) rfl rfl rfl rfl) ?_
    refine ok (m_lconst (q := 97) rfl rfl rfl) ?_
    refine ok (m_land (q := 98) rfl rfl rfl) ?_
    refine ok (m_lconst (q := 99) rfl rfl rfl) ?_
    refine ok (m_lcmp (q := 100) rfl rfl rfl) ?_
    refine okc (m_ifeq (qt := 107) (qf := 103) rfl rfl (rg_lcmp _ _) rfl rfl) (fun c2 => ?_) (fun c2 => ?_)
    · replace hp := ip c2 hp
      refine ok (m_iconst (q := 108) rfl rfl rfl) ?_
      exact ok (m_retb rfl rfl ⟨by decide, by decide⟩) (ok_iq hr ⟨by decide, by decide⟩ hp)
    · replace hp := iq c2 hp
      refine ok (m_iconst (q := 104) rfl rfl rfl) ?_
      refine ok (m_goto (q := 108) rfl rfl rfl) ?_
      exact ok (m_retb rfl rfl ⟨by decide, by decide⟩) (ok_iq hr ⟨by decide, by decide⟩ hp)
  · replace hp := iq c1 hp
    refine ok (m_aload_n (q := 13) rfl rfl rfl rfl) ?_
    refine ok (m_iload (q := 15) rfl rfl rfl rfl) ?_
    obtain ⟨g3, hp⟩ := hp
    refine ok (m_ialt (t := 22) (q := 16) rfl rfl rfl hr rfl f1 rfl rfl rfl g3 rfl) ?_
    refine ok (m_istore (q := 18) (lo' := [some (am_r (some (A 14 i0))), some (am_r (some (A 22 i1))), some (am_l l2), none, some (am_i (wz a4)), some (am_i (wz (D 3201 (1024 * i1 + a4))))]) rfl rfl rfl rfl rfl) ?_
    refine ok (m_iload (q := 20) rfl rfl rfl rfl) ?_
    refine ok (m_iconst (q := 21) rfl rfl rfl) ?_
    refine okc (m_cmpne (qt := 31) (qf := 24) rfl rfl (show rg (D 3201 (1024 * i1 + a4)) from Rp_rg hr 3201 (1024 * i1 + a4)) ⟨by decide, by decide⟩ rfl rfl) (fun c4 => ?_) (fun c4 => ?_)
    · replace hp := ip c4 hp
      refine ok (m_lload_n (q := 25) rfl rfl rfl rfl) ?_
      refine ok (m_lconst (q := 26) rfl rfl rfl) ?_
      refine ok (m_lxor (q := 27) rfl rfl rfl) ?_
      refine ok (m_lstore_n (q := 28) (lo' := [some (am_r (some (A 14 i0))), some (am_r (some (A 22 i1))), some (am_l (l2 ^^^ (1 : Int64))), none, some (am_i (wz a4)), some (am_i (wz (D 3201 (1024 * i1 + a4))))]) rfl rfl rfl rfl rfl) ?_
      refine ok (m_goto (q := 89) rfl rfl rfl) ?_
      refine ok (m_iinc (q := 92) (lo' := [some (am_r (some (A 14 i0))), some (am_r (some (A 22 i1))), some (am_l (l2 ^^^ (1 : Int64))), none, some (am_i (wz (wr (a4 + 1)))), some (am_i (wz (D 3201 (1024 * i1 + a4))))]) rfl rfl rfl rfl rfl rfl rfl) ?_
      refine ok (m_goto (q := 5) rfl rfl rfl) ?_
      refine ok (mk rfl (lo' := [some (am_r (some (A 14 i0))), some (am_r (some (A 22 i1))), some (am_l (l2 ^^^ (1 : Int64))), none, some (am_i (wz (wr (a4 + 1)))), none]) rfl) ?_
      exact hp d hd _ hr
    · replace hp := iq c4 hp
      refine ok (m_iload (q := 33) rfl rfl rfl rfl) ?_
      refine ok (m_bipush (q := 35) rfl rfl rfl) ?_
      refine okc (m_cmpne (qt := 51) (qf := 38) rfl rfl (show rg (D 3201 (1024 * i1 + a4)) from Rp_rg hr 3201 (1024 * i1 + a4)) ⟨by decide, by decide⟩ rfl rfl) (fun c5 => ?_) (fun c5 => ?_)
      · replace hp := ip c5 hp
        refine ok (m_lload_n (q := 39) rfl rfl rfl rfl) ?_
        refine ok (m_iconst (q := 40) rfl rfl rfl) ?_
        refine ok (m_lushr (q := 41) rfl rfl rfl) ?_
        refine ok (m_lload_n (q := 42) rfl rfl rfl rfl) ?_
        refine ok (m_ldc2_w (q := 45) rfl rfl rfl) ?_
        refine ok (m_lor (q := 46) rfl rfl rfl) ?_
        refine ok (m_land (q := 47) rfl rfl rfl) ?_
        refine ok (m_lstore_n (q := 48) (lo' := [some (am_r (some (A 14 i0))), some (am_r (some (A 22 i1))), some (am_l (((l2.toUInt64 >>> ((wz 1).toInt64.toUInt64 &&& Int64.toUInt64 63)).toInt64) &&& (l2 ||| ((-2) : Int64)))), none, some (am_i (wz a4)), some (am_i (wz (D 3201 (1024 * i1 + a4))))]) rfl rfl rfl rfl rfl) ?_
        refine ok (m_goto (q := 89) rfl rfl rfl) ?_
        refine ok (m_iinc (q := 92) (lo' := [some (am_r (some (A 14 i0))), some (am_r (some (A 22 i1))), some (am_l (((l2.toUInt64 >>> ((wz 1).toInt64.toUInt64 &&& Int64.toUInt64 63)).toInt64) &&& (l2 ||| ((-2) : Int64)))), none, some (am_i (wz (wr (a4 + 1)))), some (am_i (wz (D 3201 (1024 * i1 + a4))))]) rfl rfl rfl rfl rfl rfl rfl) ?_
        refine ok (m_goto (q := 5) rfl rfl rfl) ?_
        refine ok (mk rfl (lo' := [some (am_r (some (A 14 i0))), some (am_r (some (A 22 i1))), some (am_l (((l2.toUInt64 >>> ((wz 1).toInt64.toUInt64 &&& Int64.toUInt64 63)).toInt64) &&& (l2 ||| ((-2) : Int64)))), none, some (am_i (wz (wr (a4 + 1)))), none]) rfl) ?_
        exact hp d hd _ hr
      · replace hp := iq c5 hp
        refine ok (m_iload (q := 53) rfl rfl rfl rfl) ?_
        refine ok (m_bipush (q := 55) rfl rfl rfl) ?_
        refine okc (m_cmpne (qt := 69) (qf := 58) rfl rfl (show rg (D 3201 (1024 * i1 + a4)) from Rp_rg hr 3201 (1024 * i1 + a4)) ⟨by decide, by decide⟩ rfl rfl) (fun c6 => ?_) (fun c6 => ?_)
        · replace hp := ip c6 hp
          refine ok (m_lload_n (q := 59) rfl rfl rfl rfl) ?_
          refine ok (m_iconst (q := 60) rfl rfl rfl) ?_
          refine ok (m_lushr (q := 61) rfl rfl rfl) ?_
          refine ok (m_lload_n (q := 62) rfl rfl rfl rfl) ?_
          refine ok (m_lconst (q := 63) rfl rfl rfl) ?_
          refine ok (m_land (q := 64) rfl rfl rfl) ?_
          refine ok (m_lor (q := 65) rfl rfl rfl) ?_
          refine ok (m_lstore_n (q := 66) (lo' := [some (am_r (some (A 14 i0))), some (am_r (some (A 22 i1))), some (am_l (((l2.toUInt64 >>> ((wz 1).toInt64.toUInt64 &&& Int64.toUInt64 63)).toInt64) ||| (l2 &&& (1 : Int64)))), none, some (am_i (wz a4)), some (am_i (wz (D 3201 (1024 * i1 + a4))))]) rfl rfl rfl rfl rfl) ?_
          refine ok (m_goto (q := 89) rfl rfl rfl) ?_
          refine ok (m_iinc (q := 92) (lo' := [some (am_r (some (A 14 i0))), some (am_r (some (A 22 i1))), some (am_l (((l2.toUInt64 >>> ((wz 1).toInt64.toUInt64 &&& Int64.toUInt64 63)).toInt64) ||| (l2 &&& (1 : Int64)))), none, some (am_i (wz (wr (a4 + 1)))), some (am_i (wz (D 3201 (1024 * i1 + a4))))]) rfl rfl rfl rfl rfl rfl rfl) ?_
          refine ok (m_goto (q := 5) rfl rfl rfl) ?_
          refine ok (mk rfl (lo' := [some (am_r (some (A 14 i0))), some (am_r (some (A 22 i1))), some (am_l (((l2.toUInt64 >>> ((wz 1).toInt64.toUInt64 &&& Int64.toUInt64 63)).toInt64) ||| (l2 &&& (1 : Int64)))), none, some (am_i (wz (wr (a4 + 1)))), none]) rfl) ?_
          exact hp d hd _ hr
        · replace hp := iq c6 hp
          refine ok (m_lload_n (q := 70) rfl rfl rfl rfl) ?_
          refine ok (m_iconst (q := 71) rfl rfl rfl) ?_
          refine ok (m_lshl (q := 72) rfl rfl rfl) ?_
          refine ok (m_aload_n (q := 73) rfl rfl rfl rfl) ?_
          refine ok (m_iload (q := 75) rfl rfl rfl rfl) ?_
          obtain ⟨g9, hp⟩ := hp
          refine oke (e_ci (x_cv (q := 78) rfl rfl rfl rfl rfl rfl rfl rfl rfl rfl (is_ty hr rfl f0)) (ev_X7_compares (D := D) i0 (D 3201 (1024 * i1 + a4)) f0 (show rg (D 3201 (1024 * i1 + a4)) from Rp_rg hr 3201 (1024 * i1 + a4)) g9) (Nat.le_trans (by decide) hd) hr) (fun s7 r8 => ?_)
          refine okc (m_ifeq (qt := 85) (qf := 81) rfl rfl (Ev_rg (ev_X7_compares (D := D) i0 (D 3201 (1024 * i1 + a4)) f0 (show rg (D 3201 (1024 * i1 + a4)) from Rp_rg hr 3201 (1024 * i1 + a4)) g9) hr) rfl rfl) (fun c10 => ?_) (fun c10 => ?_)
          · replace hp := ip c10 hp
            refine ok (m_iconst (q := 86) rfl rfl rfl) ?_
            refine ok (m_i2l (q := 87) rfl rfl rfl) ?_
            refine ok (m_lor (q := 88) rfl rfl rfl) ?_
            refine ok (m_lstore_n (q := 89) (lo' := [some (am_r (some (A 14 i0))), some (am_r (some (A 22 i1))), some (am_l ((l2 <<< ((wz 1).toInt64 &&& 63)) ||| ((wz 0).toInt64))), none, some (am_i (wz a4)), some (am_i (wz (D 3201 (1024 * i1 + a4))))]) rfl rfl rfl rfl rfl) ?_
            refine ok (m_iinc (q := 92) (lo' := [some (am_r (some (A 14 i0))), some (am_r (some (A 22 i1))), some (am_l ((l2 <<< ((wz 1).toInt64 &&& 63)) ||| ((wz 0).toInt64))), none, some (am_i (wz (wr (a4 + 1)))), some (am_i (wz (D 3201 (1024 * i1 + a4))))]) rfl rfl rfl rfl rfl rfl rfl) ?_
            refine ok (m_goto (q := 5) rfl rfl rfl) ?_
            refine ok (mk rfl (lo' := [some (am_r (some (A 14 i0))), some (am_r (some (A 22 i1))), some (am_l ((l2 <<< ((wz 1).toInt64 &&& 63)) ||| ((wz 0).toInt64))), none, some (am_i (wz (wr (a4 + 1)))), none]) rfl) ?_
            exact hp d hd _ r8
          · replace hp := iq c10 hp
            refine ok (m_iconst (q := 82) rfl rfl rfl) ?_
            refine ok (m_goto (q := 86) rfl rfl rfl) ?_
            refine ok (m_i2l (q := 87) rfl rfl rfl) ?_
            refine ok (m_lor (q := 88) rfl rfl rfl) ?_
            refine ok (m_lstore_n (q := 89) (lo' := [some (am_r (some (A 14 i0))), some (am_r (some (A 22 i1))), some (am_l ((l2 <<< ((wz 1).toInt64 &&& 63)) ||| ((wz 1).toInt64))), none, some (am_i (wz a4)), some (am_i (wz (D 3201 (1024 * i1 + a4))))]) rfl rfl rfl rfl rfl) ?_
            refine ok (m_iinc (q := 92) (lo' := [some (am_r (some (A 14 i0))), some (am_r (some (A 22 i1))), some (am_l ((l2 <<< ((wz 1).toInt64 &&& 63)) ||| ((wz 1).toInt64))), none, some (am_i (wz (wr (a4 + 1)))), some (am_i (wz (D 3201 (1024 * i1 + a4))))]) rfl rfl rfl rfl rfl rfl rfl) ?_
            refine ok (m_goto (q := 5) rfl rfl rfl) ?_
            refine ok (mk rfl (lo' := [some (am_r (some (A 14 i0))), some (am_r (some (A 22 i1))), some (am_l ((l2 <<< ((wz 1).toInt64 &&& 63)) ||| ((wz 1).toInt64))), none, some (am_i (wz (wr (a4 + 1)))), none]) rfl) ?_
            exact hp d hd _ r8
abbrev P_X12_holds : Nat → Option am_E := am_fy tb_X12_holds
def K_X12_holds_39 (n : Nat) (c : Nat) (A : aA) (D : aD) (a2 : Int) (x : Int) (D' : aD) : Prop := Lp n c P_X12_holds 39 [some (am_r (some 70)), none, some (am_i (wz a2))] [] A D (ri x) A D'
def K_X12_holds_73 (n : Nat) (c : Nat) (A : aA) (D : aD) (a2 : Int) (x : Int) (D' : aD) : Prop := Lp n c P_X12_holds 73 [some (am_r (some 70)), none, some (am_i (wz a2))] [] A D (ri x) A D'
set_option maxRecDepth 100000 in
theorem rl_X12_holds {n : Nat} {A : aA} {D D' : aD} {c : Nat} (hc : 0 ≤ c) (a1 : Int) (h1 : rg a1) {x : Int} (hp : (0 ≤ a1 ∧ a1 < 5200) ∧ (if D 99 a1 = 0 then K_X12_holds_39 (n + 2) c A D (D 100 a1) x D' else (if D 99 a1 = 1 then K_X12_holds_73 (n + 2) c A D (D 100 a1) x D' else (if D 99 a1 = 2 then (∃ x13 : Int, ∃ D14 : aD, Ev (n + 2) c 176 [am_r (some 70), am_i (wz (D 100 a1))] A D (ri x13) A D14 ∧ (if x13 = 0 then (x = 1 ∧ D' = D14) else (x = 0 ∧ D' = D14))) else (0 ≤ D 102 a1 ∧ D 102 a1 < 6) ∧ (if D 103 a1 = 60 then (if D 104 a1 ≤ D 105 (D 102 a1) then (x = 0 ∧ D' = D) else (x = 1 ∧ D' = D)) else (if D 103 a1 = 62 then (if D 105 (D 102 a1) ≤ D 104 a1 then (x = 0 ∧ D' = D) else (x = 1 ∧ D' = D)) else (if D 105 (D 102 a1) = D 104 a1 then (x = 1 ∧ D' = D) else (x = 0 ∧ D' = D)))))))) : Ev (n + 2) (c + 1) 176 [am_r (some 70), am_i (wz a1)] A D (ri x) A D' := by
  refine Ev_of (c := c) (P := P_X12_holds) (lo := [some (am_r (some 70)), some (am_i (wz a1)), none]) rfl rfl rfl (fun d hd s hr => ?_)
  refine ok (m_aload_n (q := 1) rfl rfl rfl rfl) ?_
  refine ok (m_gfc (q := 4) rfl rfl rfl hr rfl rfl rfl) ?_
  refine ok (m_iload_n (q := 5) rfl rfl rfl rfl) ?_
  obtain ⟨g1, hp⟩ := hp
  refine ok (m_ials (q := 6) rfl rfl rfl hr rfl rfl g1 rfl) ?_
  refine ok (m_tsw (z := 0) (qs := [32, 66, 100]) (qd := 119) rfl rfl (Rp_rg hr 99 a1) rfl rfl rfl rfl) ?_
  refine okc (c := D 99 a1 = 0) (rfl) (fun c8 => ?_) (fun c8 => ?_)
  · replace hp := ip c8 hp
    refine ok (m_aload_n (q := 33) rfl rfl rfl rfl) ?_
    refine ok (m_gfc (q := 36) rfl rfl rfl hr rfl rfl rfl) ?_
    refine ok (m_iload_n (q := 37) rfl rfl rfl rfl) ?_
    refine ok (m_ials (q := 38) rfl rfl rfl hr rfl rfl g1 rfl) ?_
    refine ok (m_istore_n (q := 39) (lo' := [some (am_r (some 70)), some (am_i (wz a1)), some (am_i (wz (D 100 a1)))]) rfl rfl rfl rfl rfl) ?_
    refine ok (mk rfl (lo' := [some (am_r (some 70)), none, some (am_i (wz (D 100 a1)))]) rfl) ?_
    exact hp d hd _ hr
  · replace hp := iq c8 hp
    refine okc (c := D 99 a1 = 1) (rfl) (fun c9 => ?_) (fun c9 => ?_)
    · replace hp := ip c9 hp
      refine ok (m_aload_n (q := 67) rfl rfl rfl rfl) ?_
      refine ok (m_gfc (q := 70) rfl rfl rfl hr rfl rfl rfl) ?_
      refine ok (m_iload_n (q := 71) rfl rfl rfl rfl) ?_
      refine ok (m_ials (q := 72) rfl rfl rfl hr rfl rfl g1 rfl) ?_
      refine ok (m_istore_n (q := 73) (lo' := [some (am_r (some 70)), some (am_i (wz a1)), some (am_i (wz (D 100 a1)))]) rfl rfl rfl rfl rfl) ?_
      refine ok (mk rfl (lo' := [some (am_r (some 70)), none, some (am_i (wz (D 100 a1)))]) rfl) ?_
      exact hp d hd _ hr
    · replace hp := iq c9 hp
      refine okc (c := D 99 a1 = 2) (rfl) (fun c10 => ?_) (fun c10 => ?_)
      · replace hp := ip c10 hp
        refine ok (m_aload_n (q := 101) rfl rfl rfl rfl) ?_
        refine ok (m_aload_n (q := 102) rfl rfl rfl rfl) ?_
        refine ok (m_gfc (q := 105) rfl rfl rfl hr rfl rfl rfl) ?_
        refine ok (m_iload_n (q := 106) rfl rfl rfl rfl) ?_
        refine ok (m_ials (q := 107) rfl rfl rfl hr rfl rfl g1 rfl) ?_
        obtain ⟨x13, D14, e15, hp⟩ := hp
        refine oke (e_ci (x_cv (q := 110) rfl rfl rfl rfl rfl rfl rfl rfl rfl rfl (is_st hr rfl rfl)) e15 hd hr) (fun s11 r12 => ?_)
        refine okc (m_ifne (qt := 117) (qf := 113) rfl rfl (Ev_rg e15 hr) rfl rfl) (fun c16 => ?_) (fun c16 => ?_)
        · replace hp := ip c16 hp
          refine ok (m_iconst (q := 114) rfl rfl rfl) ?_
          refine ok (m_goto (q := 118) rfl rfl rfl) ?_
          exact ok (m_retb rfl rfl ⟨by decide, by decide⟩) (ok_iq r12 ⟨by decide, by decide⟩ hp)
        · replace hp := iq c16 hp
          refine ok (m_iconst (q := 118) rfl rfl rfl) ?_
          exact ok (m_retb rfl rfl ⟨by decide, by decide⟩) (ok_iq r12 ⟨by decide, by decide⟩ hp)
      · replace hp := iq c10 hp
        refine ok (m_aload_n (q := 120) rfl rfl rfl rfl) ?_
        refine ok (m_gfc (q := 123) rfl rfl rfl hr rfl rfl rfl) ?_
        refine ok (m_aload_n (q := 124) rfl rfl rfl rfl) ?_
        refine ok (m_gfc (q := 127) rfl rfl rfl hr rfl rfl rfl) ?_
        refine ok (m_iload_n (q := 128) rfl rfl rfl rfl) ?_
        refine ok (m_ials (q := 129) rfl rfl rfl hr rfl rfl g1 rfl) ?_
        obtain ⟨g2, hp⟩ := hp
        refine ok (m_ials (q := 130) rfl rfl rfl hr rfl rfl g2 rfl) ?_
        refine ok (m_istore_n (q := 131) (lo' := [some (am_r (some 70)), some (am_i (wz a1)), some (am_i (wz (D 105 (D 102 a1))))]) rfl rfl rfl rfl rfl) ?_
        refine ok (m_aload_n (q := 132) rfl rfl rfl rfl) ?_
        refine ok (m_gfc (q := 135) rfl rfl rfl hr rfl rfl rfl) ?_
        refine ok (m_iload_n (q := 136) rfl rfl rfl rfl) ?_
        refine ok (m_ials (q := 137) rfl rfl rfl hr rfl rfl g1 rfl) ?_
        refine ok (m_bipush (q := 139) rfl rfl rfl) ?_
        refine okc (m_cmpne (qt := 160) (qf := 142) rfl rfl (Rp_rg hr 103 a1) ⟨by decide, by decide⟩ rfl rfl) (fun c3 => ?_) (fun c3 => ?_)
        · replace hp := ip c3 hp
          refine ok (m_iload_n (q := 143) rfl rfl rfl rfl) ?_
          refine ok (m_aload_n (q := 144) rfl rfl rfl rfl) ?_
          refine ok (m_gfc (q := 147) rfl rfl rfl hr rfl rfl rfl) ?_
          refine ok (m_iload_n (q := 148) rfl rfl rfl rfl) ?_
          refine ok (m_ials (q := 149) rfl rfl rfl hr rfl rfl g1 rfl) ?_
          refine okc (m_cmpge (qt := 156) (qf := 152) rfl rfl (Rp_rg hr 105 (D 102 a1)) (Rp_rg hr 104 a1) rfl rfl) (fun c4 => ?_) (fun c4 => ?_)
          · replace hp := ip c4 hp
            refine ok (m_iconst (q := 157) rfl rfl rfl) ?_
            refine ok (m_goto (q := 204) rfl rfl rfl) ?_
            exact ok (m_retb rfl rfl ⟨by decide, by decide⟩) (ok_iq hr ⟨by decide, by decide⟩ hp)
          · replace hp := iq c4 hp
            refine ok (m_iconst (q := 153) rfl rfl rfl) ?_
            refine ok (m_goto (q := 204) rfl rfl rfl) ?_
            exact ok (m_retb rfl rfl ⟨by decide, by decide⟩) (ok_iq hr ⟨by decide, by decide⟩ hp)
        · replace hp := iq c3 hp
          refine ok (m_aload_n (q := 161) rfl rfl rfl rfl) ?_
          refine ok (m_gfc (q := 164) rfl rfl rfl hr rfl rfl rfl) ?_
          refine ok (m_iload_n (q := 165) rfl rfl rfl rfl) ?_
          refine ok (m_ials (q := 166) rfl rfl rfl hr rfl rfl g1 rfl) ?_
          refine ok (m_bipush (q := 168) rfl rfl rfl) ?_
          refine okc (m_cmpne (qt := 189) (qf := 171) rfl rfl (Rp_rg hr 103 a1) ⟨by decide, by decide⟩ rfl rfl) (fun c5 => ?_) (fun c5 => ?_)
          · replace hp := ip c5 hp
            refine ok (m_iload_n (q := 172) rfl rfl rfl rfl) ?_
            refine ok (m_aload_n (q := 173) rfl rfl rfl rfl) ?_
            refine ok (m_gfc (q := 176) rfl rfl rfl hr rfl rfl rfl) ?_
            refine ok (m_iload_n (q := 177) rfl rfl rfl rfl) ?_
            refine ok (m_ials (q := 178) rfl rfl rfl hr rfl rfl g1 rfl) ?_
            refine okc (m_cmple (qt := 185) (qf := 181) rfl rfl (Rp_rg hr 105 (D 102 a1)) (Rp_rg hr 104 a1) rfl rfl) (fun c6 => ?_) (fun c6 => ?_)
            · replace hp := ip c6 hp
              refine ok (m_iconst (q := 186) rfl rfl rfl) ?_
              refine ok (m_goto (q := 204) rfl rfl rfl) ?_
              exact ok (m_retb rfl rfl ⟨by decide, by decide⟩) (ok_iq hr ⟨by decide, by decide⟩ hp)
            · replace hp := iq c6 hp
              refine ok (m_iconst (q := 182) rfl rfl rfl) ?_
              refine ok (m_goto (q := 204) rfl rfl rfl) ?_
              exact ok (m_retb rfl rfl ⟨by decide, by decide⟩) (ok_iq hr ⟨by decide, by decide⟩ hp)
          · replace hp := iq c5 hp
            refine ok (m_iload_n (q := 190) rfl rfl rfl rfl) ?_
            refine ok (m_aload_n (q := 191) rfl rfl rfl rfl) ?_
            refine ok (m_gfc (q := 194) rfl rfl rfl hr rfl rfl rfl) ?_
            refine ok (m_iload_n (q := 195) rfl rfl rfl rfl) ?_
            refine ok (m_ials (q := 196) rfl rfl rfl hr rfl rfl g1 rfl) ?_
            refine okc (m_cmpne (qt := 203) (qf := 199) rfl rfl (Rp_rg hr 105 (D 102 a1)) (Rp_rg hr 104 a1) rfl rfl) (fun c7 => ?_) (fun c7 => ?_)
            · replace hp := ip c7 hp
              refine ok (m_iconst (q := 200) rfl rfl rfl) ?_
              refine ok (m_goto (q := 204) rfl rfl rfl) ?_
              exact ok (m_retb rfl rfl ⟨by decide, by decide⟩) (ok_iq hr ⟨by decide, by decide⟩ hp)
            · replace hp := iq c7 hp
              refine ok (m_iconst (q := 204) rfl rfl rfl) ?_
              exact ok (m_retb rfl rfl ⟨by decide, by decide⟩) (ok_iq hr ⟨by decide, by decide⟩ hp)
set_option maxRecDepth 100000 in
theorem rl_X12_holds_39 {n : Nat} {A : aA} {D D' : aD} {c : Nat} (hc : 0 ≤ c) (a2 : Int) (h2 : rg a2) {x : Int} (hp : (if a2 = (-1) then (x = 0 ∧ D' = D) else (∃ x20 : Int, ∃ D21 : aD, Ev (n + 2) c 176 [am_r (some 70), am_i (wz a2)] A D (ri x20) A D21 ∧ (if x20 = 0 then (0 ≤ a2 ∧ a2 < 5200) ∧ K_X12_holds_39 (n + 2) c A D21 (D21 101 a2) x D' else (x = 1 ∧ D' = D21))))) : K_X12_holds_39 (n + 2) c A D a2 x D' := by
  unfold K_X12_holds_39
  refine fun d hd s hr => ?_
  refine ok (m_iload_n (q := 40) rfl rfl rfl rfl) ?_
  refine ok (m_iconst (q := 41) rfl rfl rfl) ?_
  refine okc (m_cmpeq (qt := 64) (qf := 44) rfl rfl h2 ⟨by decide, by decide⟩ rfl rfl) (fun c17 => ?_) (fun c17 => ?_)
  · replace hp := ip c17 hp
    refine ok (m_iconst (q := 65) rfl rfl rfl) ?_
    exact ok (m_retb rfl rfl ⟨by decide, by decide⟩) (ok_iq hr ⟨by decide, by decide⟩ hp)
  · replace hp := iq c17 hp
    refine ok (m_aload_n (q := 45) rfl rfl rfl rfl) ?_
    refine ok (m_iload_n (q := 46) rfl rfl rfl rfl) ?_
    obtain ⟨x20, D21, e22, hp⟩ := hp
    refine oke (e_ci (x_cv (q := 49) rfl rfl rfl rfl rfl rfl rfl rfl rfl rfl (is_st hr rfl rfl)) e22 hd hr) (fun s18 r19 => ?_)
    refine okc (m_ifeq (qt := 54) (qf := 52) rfl rfl (Ev_rg e22 hr) rfl rfl) (fun c23 => ?_) (fun c23 => ?_)
    · replace hp := ip c23 hp
      refine ok (m_aload_n (q := 55) rfl rfl rfl rfl) ?_
      refine ok (m_gfc (q := 58) rfl rfl rfl r19 rfl rfl rfl) ?_
      refine ok (m_iload_n (q := 59) rfl rfl rfl rfl) ?_
      obtain ⟨g24, hp⟩ := hp
      refine ok (m_ials (q := 60) rfl rfl rfl r19 rfl rfl g24 rfl) ?_
      refine ok (m_istore_n (q := 61) (lo' := [some (am_r (some 70)), none, some (am_i (wz (D21 101 a2)))]) rfl rfl rfl rfl rfl) ?_
      refine ok (m_goto (q := 39) rfl rfl rfl) ?_
      exact hp d hd _ r19
    · replace hp := iq c23 hp
      refine ok (m_iconst (q := 53) rfl rfl rfl) ?_
      exact ok (m_retb rfl rfl ⟨by decide, by decide⟩) (ok_iq r19 ⟨by decide, by decide⟩ hp)
set_option maxRecDepth 100000 in
theorem rl_X12_holds_73 {n : Nat} {A : aA} {D D' : aD} {c : Nat} (hc : 0 ≤ c) (a2 : Int) (h2 : rg a2) {x : Int} (hp : (if a2 = (-1) then (x = 1 ∧ D' = D) else (∃ x28 : Int, ∃ D29 : aD, Ev (n + 2) c 176 [am_r (some 70), am_i (wz a2)] A D (ri x28) A D29 ∧ (if x28 = 0 then (x = 0 ∧ D' = D29) else (0 ≤ a2 ∧ a2 < 5200) ∧ K_X12_holds_73 (n + 2) c A D29 (D29 101 a2) x D')))) : K_X12_holds_73 (n + 2) c A D a2 x D' := by
  unfold K_X12_holds_73
  refine fun d hd s hr => ?_
  refine ok (m_iload_n (q := 74) rfl rfl rfl rfl) ?_
  refine ok (m_iconst (q := 75) rfl rfl rfl) ?_
  refine okc (m_cmpeq (qt := 98) (qf := 78) rfl rfl h2 ⟨by decide, by decide⟩ rfl rfl) (fun c25 => ?_) (fun c25 => ?_)
  · replace hp := ip c25 hp
    refine ok (m_iconst (q := 99) rfl rfl rfl) ?_
    exact ok (m_retb rfl rfl ⟨by decide, by decide⟩) (ok_iq hr ⟨by decide, by decide⟩ hp)
  · replace hp := iq c25 hp
    refine ok (m_aload_n (q := 79) rfl rfl rfl rfl) ?_
    refine ok (m_iload_n (q := 80) rfl rfl rfl rfl) ?_
    obtain ⟨x28, D29, e30, hp⟩ := hp
    refine oke (e_ci (x_cv (q := 83) rfl rfl rfl rfl rfl rfl rfl rfl rfl rfl (is_st hr rfl rfl)) e30 hd hr) (fun s26 r27 => ?_)
    refine okc (m_ifne (qt := 88) (qf := 86) rfl rfl (Ev_rg e30 hr) rfl rfl) (fun c31 => ?_) (fun c31 => ?_)
    · replace hp := ip c31 hp
      refine ok (m_iconst (q := 87) rfl rfl rfl) ?_
      exact ok (m_retb rfl rfl ⟨by decide, by decide⟩) (ok_iq r27 ⟨by decide, by decide⟩ hp)
    · replace hp := iq c31 hp
      refine ok (m_aload_n (q := 89) rfl rfl rfl rfl) ?_
      refine ok (m_gfc (q := 92) rfl rfl rfl r27 rfl rfl rfl) ?_
      refine ok (m_iload_n (q := 93) rfl rfl rfl rfl) ?_
      obtain ⟨g32, hp⟩ := hp
      refine ok (m_ials (q := 94) rfl rfl rfl r27 rfl rfl g32 rfl) ?_
      refine ok (m_istore_n (q := 95) (lo' := [some (am_r (some 70)), none, some (am_i (wz (D29 101 a2)))]) rfl rfl rfl rfl rfl) ?_
      refine ok (m_goto (q := 73) rfl rfl rfl) ?_
      exact hp d hd _ r27
/-- a condition of the class tells φ -/
def XC (D : aD) (e : Int) (φ : Tf) : Prop := (0 ≤ D 3200 e ∧ D 3200 e ≤ 700) ∧ (∀ i, 0 ≤ i → i < D 3200 e → -3 ≤ D 3201 (1024 * e + i) ∧ D 3201 (1024 * e + i) < 180000) ∧ ∀ f, (∀ i, 0 ≤ i → i ≤ D 3200 e → (PX (fun j => D 3201 (1024 * e + j)) f i).length ≤ 60) ∧ hd1 (PX (fun j => D 3201 (1024 * e + j)) f (D 3200 e)) = φ f
theorem K_holds {i e : Int} {φ : Tf} (f0 : D 914 i = 1) (f1 : D 922 e = 1) (h : XC D e φ) (h6 : D 3400 i = 6) : ∀ j, 0 ≤ j → j ≤ D 3200 e → ∀ l, Rb l (PX (fun j => D 3201 (1024 * e + j)) (fun j => D 3401 (1024 * i + j)) j) → K_X7_holds_5 (n + 2) A D i e l j (if φ (fun j => D 3401 (1024 * i + j)) = true then 1 else 0) D := by
  obtain ⟨hl, hb, hf⟩ := h
  obtain ⟨hz, hr⟩ := hf (fun j => D 3401 (1024 * i + j))
  refine dn_ind (K := fun j => ∀ l, Rb l (PX (fun j => D 3201 (1024 * e + j)) (fun j => D 3401 (1024 * i + j)) j) → K_X7_holds_5 (n + 2) A D i e l j (if φ (fun j => D 3401 (1024 * i + j)) = true then 1 else 0) D) (lo := 0) (N := D 3200 e) ?_ ?_
  · intro l q
    refine rl_X7_holds_5 _ _ _ _ f0 f1 (rgb (by omega) (by omega)) ?_
    rw [if_pos (Int.le_refl _), ← hr]
    have ht := Rb_tst q
    by_cases c : hd1 (PX (fun j => D 3201 (1024 * e + j)) (fun j => D 3401 (1024 * i + j)) (D 3200 e)) = true
    · rw [if_neg (fun z => by rw [ht.mp z] at c; cases c), if_pos c]; exact ⟨rfl, rfl⟩
    · rw [if_pos (ht.mpr (by simpa using c)), if_neg c]; exact ⟨rfl, rfl⟩
  · intro j j0 j1 ih l q
    refine rl_X7_holds_5 _ _ _ _ f0 f1 (rgb (by omega) (by omega)) ?_
    rw [if_neg (by omega), wr1 j0 j1 (by omega)]
    refine ⟨⟨j0, j1⟩, ?_⟩
    have hbj := hb j j0 j1
    have hzj := hz j j0 (by omega)
    have es : PX (fun j => D 3201 (1024 * e + j)) (fun j => D 3401 (1024 * i + j)) (j + 1) = ev1 (fun j => D 3401 (1024 * i + j)) (PX (fun j => D 3201 (1024 * e + j)) (fun j => D 3401 (1024 * i + j)) j) (D 3201 (1024 * e + j)) := foi_s j0
    rw [es] at ih
    generalize PX (fun j => D 3201 (1024 * e + j)) (fun j => D 3401 (1024 * i + j)) j = S at *
    unfold ev1 at ih
    by_cases c1 : D 3201 (1024 * e + j) = -1
    · rw [if_pos c1] at ih ⊢; exact ih _ (Rb_not q)
    rw [if_neg c1] at ih ⊢
    by_cases c2 : D 3201 (1024 * e + j) = -2
    · rw [if_pos c2] at ih ⊢; exact ih _ (Rb_and q (by omega))
    rw [if_neg c2] at ih ⊢
    by_cases c3 : D 3201 (1024 * e + j) = -3
    · rw [if_pos c3] at ih ⊢; exact ih _ (Rb_or q (by omega))
    rw [if_neg c3] at ih ⊢
    have hc := cmp_eq (D := D) (i := i) (c := D 3201 (1024 * e + j)) (by omega) (by omega)
    refine ⟨?_, ?_⟩
    · unfold p_X7_compares
      rw [hc.2.2, h6]; exact hc.2.1
    · rw [hc.1]
      by_cases c4 : cmpv (fun j => D 3401 (1024 * i + j)) (D 3201 (1024 * e + j)) = true
      · rw [if_pos c4, if_neg (by decide)]
        rw [c4] at ih; exact ih _ (Rb_psh q true m1_get)
      · rw [if_neg c4, if_pos rfl]
        have c5 : cmpv (fun j => D 3401 (1024 * i + j)) (D 3201 (1024 * e + j)) = false := by simpa using c4
        rw [c5] at ih; exact ih _ (Rb_psh q false m0_get)
theorem ev_holdsX (i e : Int) {φ : Tf} (f0 : D 914 i = 1) (f1 : D 922 e = 1) (h : XC D e φ) (h6 : D 3400 i = 6) : Ev (n + 2) 2 64 [am_r (some (A 14 i)), am_r (some (A 22 e))] A D (ri (if φ (fun j => D 3401 (1024 * i + j)) = true then 1 else 0)) A D :=
  rl_X7_holds i e f0 f1 (K_holds f0 f1 h h6 0 (Int.le_refl _) h.1.1 _ Rb_0)
/-- the reference's tree -/
def chn (D : aD) (B : Int) : Int → List Int → Prop
  | a, [] => a = -1
  | a, x :: xs => a = x ∧ 0 ≤ x ∧ x < B ∧ chn D B (D 101 x) xs
def lfv (f : Int → Int) (w s m : Int) : Bool := if s = 60 then decide (f w < m) else if s = 62 then decide (m < f w) else decide (f w = m)
def HM (D : aD) (B : Int) : Nat → Int → Tf → Prop
  | 0, _, _ => False
  | d + 1, k, φ => (0 ≤ k ∧ k < B) ∧ ((D 99 k = 0 ∧ ∃ L : List (Int × Tf), chn D B (D 100 k) (L.map Prod.fst) ∧ (∀ x ∈ L, HM D B d x.1 x.2) ∧ ∀ f, φ f = L.any (fun x => x.2 f)) ∨ (D 99 k = 1 ∧ ∃ L : List (Int × Tf), chn D B (D 100 k) (L.map Prod.fst) ∧ (∀ x ∈ L, HM D B d x.1 x.2) ∧ ∀ f, φ f = L.all (fun x => x.2 f)) ∨ (D 99 k = 2 ∧ ∃ ψ : Tf, HM D B d (D 100 k) ψ ∧ ∀ f, φ f = !ψ f) ∨ (D 99 k = 3 ∧ (0 ≤ D 102 k ∧ D 102 k < 6) ∧ ∀ f, φ f = lfv f (D 102 k) (D 103 k) (D 104 k)))
theorem chn_cg {D' : aD} {B B' : Int} (hB : B ≤ B') (h : ∀ i, 0 ≤ i → i < B → D' 101 i = D 101 i) : ∀ (xs : List Int) (a : Int), chn D B a xs → chn D' B' a xs := by
  intro xs
  induction xs with
  | nil => intro a q; exact q
  | cons x xs ih =>
    intro a q
    obtain ⟨q1, q2, q3, q4⟩ := q
    refine ⟨q1, q2, by omega, ?_⟩
    rw [h x q2 q3]; exact ih _ q4
theorem HM_cg {D' : aD} {B B' : Int} (hB : B ≤ B') (h : ∀ i, 0 ≤ i → i < B → D' 99 i = D 99 i ∧ D' 100 i = D 100 i ∧ D' 101 i = D 101 i ∧ D' 102 i = D 102 i ∧ D' 103 i = D 103 i ∧ D' 104 i = D 104 i) : ∀ (d : Nat) (k : Int) (φ : Tf), HM D B d k φ → HM D' B' d k φ := by
  intro d
  induction d with
  | zero => intro k φ q; exact q
  | succ d ih =>
    intro k φ q
    obtain ⟨hk, q⟩ := q
    have e := h k hk.1 hk.2
    refine ⟨⟨hk.1, by omega⟩, ?_⟩
    rw [e.1, e.2.1, e.2.2.2.1, e.2.2.2.2.1, e.2.2.2.2.2]
    rcases q with ⟨q1, L, q2, q3, q4⟩ | ⟨q1, L, q2, q3, q4⟩ | ⟨q1, ψ, q2, q3⟩ | q
    · exact Or.inl ⟨q1, L, chn_cg hB (fun i i0 i1 => (h i i0 i1).2.2.1) _ _ q2, fun x hx => ih _ _ (q3 x hx), q4⟩
    · exact Or.inr (Or.inl ⟨q1, L, chn_cg hB (fun i i0 i1 => (h i i0 i1).2.2.1) _ _ q2, fun x hx => ih _ _ (q3 x hx), q4⟩)
    · exact Or.inr (Or.inr (Or.inl ⟨q1, ψ, ih _ _ q2, q3⟩))
    · exact Or.inr (Or.inr (Or.inr q))
theorem HM_k {B : Int} {d : Nat} {k : Int} {φ : Tf} (h : HM D B d k φ) : 0 ≤ k ∧ k < B := by
  cases d with
  | zero => exact h.elim
  | succ d => exact h.1
theorem HM_up {B : Int} : ∀ (d : Nat) (k : Int) (φ : Tf), HM D B d k φ → HM D B (d + 1) k φ := by
  intro d
  induction d with
  | zero => intro k φ q; exact q.elim
  | succ d ih =>
    intro k φ q
    obtain ⟨hk, q⟩ := q
    refine ⟨hk, ?_⟩
    rcases q with ⟨q1, L, q2, q3, q4⟩ | ⟨q1, L, q2, q3, q4⟩ | ⟨q1, ψ, q2, q3⟩ | q
    · exact Or.inl ⟨q1, L, q2, fun x hx => ih _ _ (q3 x hx), q4⟩
    · exact Or.inr (Or.inl ⟨q1, L, q2, fun x hx => ih _ _ (q3 x hx), q4⟩)
    · exact Or.inr (Or.inr (Or.inl ⟨q1, ψ, ih _ _ q2, q3⟩))
    · exact Or.inr (Or.inr (Or.inr q))
theorem HM_le {B : Int} {d d' : Nat} (hd : d ≤ d') {k : Int} {φ : Tf} (h : HM D B d k φ) : HM D B d' k φ := by
  induction hd with
  | refl => exact h
  | step _ ih => exact HM_up _ _ _ ih
theorem b_i {b : Bool} : ((if b = true then 1 else 0 : Int) = 0) ↔ b = false := by cases b <;> simp
theorem ev_holdsM {B : Int} (hB : B ≤ 5200) : ∀ (d : Nat) (k : Int) (φ : Tf), HM D B d k φ → Ev (n + 2) d 176 [am_r (some 70), am_i (wz k)] A D (ri (if φ (D 105) = true then 1 else 0)) A D := by
  intro d
  induction d with
  | zero => intro k φ q; exact q.elim
  | succ d ih =>
    intro k φ q
    obtain ⟨hk, q⟩ := q
    refine rl_X12_holds (Nat.zero_le d) k (rgb (by omega) (by omega)) ⟨⟨by omega, by omega⟩, ?_⟩
    rcases q with ⟨q1, L, q2, q3, q4⟩ | ⟨q1, L, q2, q3, q4⟩ | ⟨q1, ψ, q2, q3⟩ | ⟨q1, q2, q3⟩
    · rw [if_pos q1, q4]
      clear q4
      have key : ∀ (L : List (Int × Tf)) (a : Int), chn D B a (L.map Prod.fst) → (∀ x ∈ L, HM D B d x.1 x.2) → K_X12_holds_39 (n + 2) d A D a (if (L.any fun x => x.2 (D 105)) = true then 1 else 0) D := by
        intro L
        induction L with
        | nil =>
          intro a h1 _
          have h1 : a = -1 := h1
          refine rl_X12_holds_39 (Nat.zero_le d) a (rgb (by omega) (by omega)) ?_
          rw [if_pos h1]; exact ⟨rfl, rfl⟩
        | cons x L ihL =>
          intro a h1 h2
          obtain ⟨rfl, r1, r2, r3⟩ := h1
          refine rl_X12_holds_39 (Nat.zero_le d) _ (rgb (by omega) (by omega)) ?_
          rw [if_neg (by omega)]
          refine ⟨_, D, ih _ _ (h2 x (List.mem_cons_self ..)), ?_⟩
          by_cases c : x.2 (D 105) = true
          · rw [if_neg (by rw [if_pos c]; decide)]
            refine ⟨?_, rfl⟩
            rw [List.any_cons, c]; rfl
          · rw [if_pos (by rw [if_neg c])]
            refine ⟨⟨by omega, by omega⟩, ?_⟩
            have := ihL _ r3 (fun y hy => h2 y (List.mem_cons_of_mem _ hy))
            rw [List.any_cons, show x.2 (D 105) = false by simpa using c]
            exact this
      exact key L _ q2 q3
    · rw [if_neg (by omega), if_pos q1, q4]
      clear q4
      have key : ∀ (L : List (Int × Tf)) (a : Int), chn D B a (L.map Prod.fst) → (∀ x ∈ L, HM D B d x.1 x.2) → K_X12_holds_73 (n + 2) d A D a (if (L.all fun x => x.2 (D 105)) = true then 1 else 0) D := by
        intro L
        induction L with
        | nil =>
          intro a h1 _
          have h1 : a = -1 := h1
          refine rl_X12_holds_73 (Nat.zero_le d) a (rgb (by omega) (by omega)) ?_
          rw [if_pos h1]; exact ⟨rfl, rfl⟩
        | cons x L ihL =>
          intro a h1 h2
          obtain ⟨rfl, r1, r2, r3⟩ := h1
          refine rl_X12_holds_73 (Nat.zero_le d) _ (rgb (by omega) (by omega)) ?_
          rw [if_neg (by omega)]
          refine ⟨_, D, ih _ _ (h2 x (List.mem_cons_self ..)), ?_⟩
          by_cases c : x.2 (D 105) = true
          · rw [if_neg (by rw [if_pos c]; decide)]
            refine ⟨⟨by omega, by omega⟩, ?_⟩
            have := ihL _ r3 (fun y hy => h2 y (List.mem_cons_of_mem _ hy))
            rw [List.all_cons, c]
            exact this
          · rw [if_pos (by rw [if_neg c])]
            refine ⟨?_, rfl⟩
            rw [List.all_cons, show x.2 (D 105) = false by simpa using c]; rfl
      exact key L _ q2 q3
    · rw [if_neg (by omega), if_neg (by omega), if_pos q1, q3]
      refine ⟨_, D, ih _ _ q2, ?_⟩
      by_cases c : ψ (D 105) = true
      · rw [if_neg (by rw [if_pos c]; decide), c]; exact ⟨rfl, rfl⟩
      · rw [if_pos (by rw [if_neg c]), show ψ (D 105) = false by simpa using c]; exact ⟨rfl, rfl⟩
    · rw [if_neg (by omega), if_neg (by omega), if_neg (by omega), q3]
      refine ⟨q2, ?_⟩
      unfold lfv
      by_cases c1 : D 103 k = 60
      · rw [if_pos c1, if_pos c1]
        by_cases c2 : D 105 (D 102 k) < D 104 k
        · rw [if_neg (by omega), if_pos (decide_eq_true c2)]; exact ⟨rfl, rfl⟩
        · rw [if_pos (by omega), if_neg (by simpa using c2)]; exact ⟨rfl, rfl⟩
      rw [if_neg c1, if_neg c1]
      by_cases c3 : D 103 k = 62
      · rw [if_pos c3, if_pos c3]
        by_cases c2 : D 104 k < D 105 (D 102 k)
        · rw [if_neg (by omega), if_pos (decide_eq_true c2)]; exact ⟨rfl, rfl⟩
        · rw [if_pos (by omega), if_neg (by simpa using c2)]; exact ⟨rfl, rfl⟩
      rw [if_neg c3, if_neg c3]
      by_cases c2 : D 105 (D 102 k) = D 104 k
      · rw [if_pos c2, if_pos (decide_eq_true c2)]; exact ⟨rfl, rfl⟩
      · rw [if_neg c2, if_neg (by simpa using c2)]; exact ⟨rfl, rfl⟩
/-- a tree tells one thing alone -/
theorem chn_fun {B : Int} : ∀ (xs ys : List Int) (a : Int), chn D B a xs → chn D B a ys → xs = ys := by
  intro xs
  induction xs with
  | nil =>
    intro ys a h1 h2
    cases ys with
    | nil => rfl
    | cons y ys => have h1 : a = -1 := h1; obtain ⟨e, h3, _⟩ := h2; omega
  | cons x xs ih =>
    intro ys a h1 h2
    cases ys with
    | nil => have h2 : a = -1 := h2; obtain ⟨e, h3, _⟩ := h1; omega
    | cons y ys =>
      obtain ⟨rfl, _, _, h3⟩ := h1
      obtain ⟨rfl, _, _, h4⟩ := h2
      rw [ih ys _ h3 h4]
theorem map_any {Q : Int → Tf → Prop} {f : Int → Int} (hQ : ∀ k φ ψ, Q k φ → Q k ψ → φ f = ψ f) : ∀ (L L' : List (Int × Tf)), L.map Prod.fst = L'.map Prod.fst → (∀ x ∈ L, Q x.1 x.2) → (∀ x ∈ L', Q x.1 x.2) → L.any (fun x => x.2 f) = L'.any (fun x => x.2 f) ∧ L.all (fun x => x.2 f) = L'.all (fun x => x.2 f) := by
  intro L
  induction L with
  | nil => intro L' h _ _; cases L' with
    | nil => exact ⟨rfl, rfl⟩
    | cons y ys => cases h
  | cons x xs ih =>
    intro L' h h1 h2
    cases L' with
    | nil => cases h
    | cons y ys =>
      simp only [List.map_cons, List.cons.injEq] at h
      have e := ih ys h.2 (fun z hz => h1 z (List.mem_cons_of_mem _ hz)) (fun z hz => h2 z (List.mem_cons_of_mem _ hz))
      have e2 : x.2 f = y.2 f := hQ x.1 x.2 y.2 (h1 x (List.mem_cons_self ..)) (by rw [h.1]; exact h2 y (List.mem_cons_self ..))
      simp only [List.any_cons, List.all_cons, e.1, e.2, e2]; exact ⟨trivial, trivial⟩
theorem HM_fun {B : Int} : ∀ (d : Nat) (k : Int) (φ ψ : Tf), HM D B d k φ → HM D B d k ψ → ∀ f, φ f = ψ f := by
  intro d
  induction d with
  | zero => intro k φ ψ h; exact h.elim
  | succ d ih =>
    intro k φ ψ h1 h2 f
    obtain ⟨_, h1⟩ := h1
    obtain ⟨_, h2⟩ := h2
    rcases h1 with ⟨q1, L, q2, q3, q4⟩ | ⟨q1, L, q2, q3, q4⟩ | ⟨q1, θ, q2, q3⟩ | ⟨q1, q2, q3⟩ <;>
    rcases h2 with ⟨r1, M, r2, r3, r4⟩ | ⟨r1, M, r2, r3, r4⟩ | ⟨r1, η, r2, r3⟩ | ⟨r1, r2, r3⟩ <;> try omega
    · rw [q4, r4]; exact (map_any (Q := HM D B d) (fun k φ ψ a b => ih k φ ψ a b f) L M (chn_fun _ _ _ q2 r2) q3 r3).1
    · rw [q4, r4]; exact (map_any (Q := HM D B d) (fun k φ ψ a b => ih k φ ψ a b f) L M (chn_fun _ _ _ q2 r2) q3 r3).2
    · rw [q3, r3, ih _ _ _ q2 r2 f]
    · rw [q3, r3]
theorem HM_six {B : Int} : ∀ (d : Nat) (k : Int) (φ : Tf), HM D B d k φ → ∀ f g : Int → Int, (∀ j, 0 ≤ j → j < 6 → f j = g j) → φ f = φ g := by
  intro d
  induction d with
  | zero => intro k φ h; exact h.elim
  | succ d ih =>
    intro k φ h1 f g e
    obtain ⟨_, h1⟩ := h1
    rcases h1 with ⟨q1, L, q2, q3, q4⟩ | ⟨q1, L, q2, q3, q4⟩ | ⟨q1, θ, q2, q3⟩ | ⟨q1, q2, q3⟩
    · rw [q4, q4]
      clear q2 q4
      induction L with
      | nil => rfl
      | cons x L ihL => rw [List.any_cons, List.any_cons, ih _ _ (q3 x (List.mem_cons_self ..)) f g e, ihL (fun y hy => q3 y (List.mem_cons_of_mem _ hy))]
    · rw [q4, q4]
      clear q2 q4
      induction L with
      | nil => rfl
      | cons x L ihL => rw [List.all_cons, List.all_cons, ih _ _ (q3 x (List.mem_cons_self ..)) f g e, ihL (fun y hy => q3 y (List.mem_cons_of_mem _ hy))]
    · rw [q3, q3, ih _ _ q2 f g e]
    · rw [q3, q3]; unfold lfv; rw [e _ q2.1 q2.2]
/-- bits -/
def bs : Nat → Int → Int
  | 0, _ => 0
  | m + 1, v => if v ≤ 0 then 0 else v % 2 + bs m (v / 2)
set_option maxRecDepth 100000 in
theorem and1 : ∀ m : Fin 256, o_and (m.val : Int) 1 = (m.val : Int) % 2 := by decide
set_option maxRecDepth 100000 in
theorem shr1 : ∀ m : Fin 256, o_shr (m.val : Int) 1 = (m.val : Int) / 2 := by decide
set_option maxRecDepth 100000 in
theorem bc_all : ∀ m : Fin 256, v_J6_bitCount_0f7a4 (fun _ _ => 0) (m.val : Int) = bs 8 (m.val : Int) := by decide
theorem bc_eq {v : Int} (h0 : 0 ≤ v) (h1 : v ≤ 255) : v_J6_bitCount_0f7a4 D v = bs 8 v := by
  have := bc_all ⟨v.toNat, by omega⟩
  simp only [Int.toNat_of_nonneg h0] at this
  exact this
theorem bs_b : ∀ (m : Nat) (v : Int), 0 ≤ bs m v ∧ bs m v ≤ m := by
  intro m
  induction m with
  | zero => intro v; exact ⟨Int.le_refl _, Int.le_refl _⟩
  | succ m ih => intro v; unfold bs; have := ih (v / 2); split <;> omega
abbrev P_X12_bits : Nat → Option am_E := am_fy tb_X12_bits
def K_X12_bits_4 (n : Nat) (A : aA) (D : aD) (a1 : Int) (a2 : Int) (x : Int) (D' : aD) : Prop := Lp n 0 P_X12_bits 4 [none, some (am_i (wz a1)), some (am_i (wz a2))] [] A D (ri x) A D'
set_option maxRecDepth 100000 in
theorem rl_X12_bits {n : Nat} {A : aA} {D D' : aD} (a0 : Int) (h0 : rg a0) {x : Int} (hp : K_X12_bits_4 (n) A D 0 a0 x D') : Ev (n) (1) 128 [am_i (wz a0)] A D (ri x) A D' := by
  refine Ev_of (c := 0) (P := P_X12_bits) (lo := [some (am_i (wz a0)), none, none]) rfl rfl rfl (fun d hd s hr => ?_)
  refine ok (m_iconst (q := 1) rfl rfl rfl) ?_
  refine ok (m_istore_n (q := 2) (lo' := [some (am_i (wz a0)), some (am_i (wz 0)), none]) rfl rfl rfl rfl rfl) ?_
  refine ok (m_iload_n (q := 3) rfl rfl rfl rfl) ?_
  refine ok (m_istore_n (q := 4) (lo' := [some (am_i (wz a0)), some (am_i (wz 0)), some (am_i (wz a0))]) rfl rfl rfl rfl rfl) ?_
  refine ok (mk rfl (lo' := [none, some (am_i (wz 0)), some (am_i (wz a0))]) rfl) ?_
  exact hp d hd _ hr
set_option maxRecDepth 100000 in
theorem rl_X12_bits_4 {n : Nat} {A : aA} {D D' : aD} (a1 : Int) (a2 : Int) (h1 : rg a1) (h2 : rg a2) {x : Int} (hp : (if a2 ≤ 0 then (x = a1 ∧ D' = D) else K_X12_bits_4 (n) A D (wr (a1 + (o_and a2 1))) (o_shr a2 1) x D')) : K_X12_bits_4 (n) A D a1 a2 x D' := by
  unfold K_X12_bits_4
  refine fun d hd s hr => ?_
  refine ok (m_iload_n (q := 5) rfl rfl rfl rfl) ?_
  refine okc (m_ifle (qt := 21) (qf := 8) rfl rfl h2 rfl rfl) (fun c1 => ?_) (fun c1 => ?_)
  · replace hp := ip c1 hp
    refine ok (m_iload_n (q := 22) rfl rfl rfl rfl) ?_
    exact ok (m_reti rfl rfl) (ok_iq hr h1 hp)
  · replace hp := iq c1 hp
    refine ok (m_iload_n (q := 9) rfl rfl rfl rfl) ?_
    refine ok (m_iload_n (q := 10) rfl rfl rfl rfl) ?_
    refine ok (m_iconst (q := 11) rfl rfl rfl) ?_
    refine ok (m_iand (q := 12) rfl rfl rfl) ?_
    refine ok (m_iadd (q := 13) rfl rfl rfl) ?_
    refine ok (m_istore_n (q := 14) (lo' := [none, some (am_i (wz (wr (a1 + (o_and a2 1))))), some (am_i (wz a2))]) rfl rfl rfl rfl rfl) ?_
    refine ok (m_iload_n (q := 15) rfl rfl rfl rfl) ?_
    refine ok (m_iconst (q := 16) rfl rfl rfl) ?_
    refine ok (m_ishr (q := 17) rfl rfl rfl) ?_
    refine ok (m_istore_n (q := 18) (lo' := [none, some (am_i (wz (wr (a1 + (o_and a2 1))))), some (am_i (wz (o_shr a2 1)))]) rfl rfl rfl rfl rfl) ?_
    refine ok (m_goto (q := 4) rfl rfl rfl) ?_
    exact hp d hd _ hr
def p_bits (_ : aD) (v : Int) : Prop := 0 ≤ v ∧ v ≤ 255
def w_bits (_ : aD) (v : Int) : Int := bs 8 v
theorem K_bits : ∀ (m : Nat) (v a : Int), m ≤ 8 → 0 ≤ v → v < ((2 ^ m : Nat) : Int) → 0 ≤ a → a + m ≤ 8 → K_X12_bits_4 n A D a v (a + bs m v) D := by
  intro m
  induction m with
  | zero =>
    intro v a hm h0 h1 h2 h3
    have : v = 0 := by simp at h1; omega
    refine rl_X12_bits_4 _ _ (rgb (by omega) (by omega)) (rgb (by omega) (by omega)) ?_
    rw [if_pos (by omega)]; exact ⟨by simp [bs], rfl⟩
  | succ m ih =>
    intro v a hm h0 h1 h2 h3
    have hp : (2 : Nat) ^ (m + 1) ≤ 2 ^ 8 := Nat.pow_le_pow_right (by decide) hm
    have hq : (2 : Nat) ^ (m + 1) = 2 ^ m * 2 := Nat.pow_succ 2 m
    have h8 : (2 : Nat) ^ 8 = 256 := by decide
    have e1 := and1 ⟨v.toNat, by omega⟩
    have e2 := shr1 ⟨v.toNat, by omega⟩
    simp only [Int.toNat_of_nonneg h0] at e1 e2
    refine rl_X12_bits_4 _ _ (rgb (by omega) (by omega)) (rgb (by omega) (by omega)) ?_
    by_cases c : v ≤ 0
    · rw [if_pos c]; refine ⟨?_, rfl⟩; unfold bs; rw [if_pos c]; omega
    · rw [if_neg c, e1, e2, wr_id (by omega) (by omega)]
      have := ih (v / 2) (a + v % 2) (by omega) (by omega) (by omega) (by omega) (by omega)
      unfold bs
      rw [if_neg c, ← Int.add_assoc]; exact this
theorem ev_X12_bits (v : Int) (h : rg v) (hp : p_bits D v) : Ev n 1 128 [am_i (wz v)] A D (ri (w_bits D v)) A D := by
  refine rl_X12_bits v h ?_
  have := K_bits (n := n) (A := A) (D := D) 8 v 0 (Nat.le_refl _) hp.1 (by have := hp.2; omega) (Int.le_refl _) (by omega)
  rw [Int.zero_add] at this; exact this
end Cd
