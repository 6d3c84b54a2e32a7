/-! Feed. -/
section Fd
variable {n : Nat} {A : aA} {D : aD}
abbrev P_X6_append : Nat → Option am_E := am_fy tb_X6_append
def K_X6_append_3 (n : Nat) (A : aA) (D : aD) (a1 : Int) (a2 : Int) (D' : aD) : Prop := Lp n 0 P_X6_append 3 [some (am_r (some 47)), some (am_i (wz a1)), some (am_i (wz a2))] [] A D rv A D'
set_option maxRecDepth 100000 in
theorem rl_X6_append {n : Nat} {A : aA} {D D' : aD} (a1 : Int) (h1 : rg a1) (hp : K_X6_append_3 (n) A D a1 24 D') : Ev (n) (1) 41 [am_r (some 47), am_i (wz a1)] A D rv A D' := by
  refine Ev_of (c := 0) (P := P_X6_append) (lo := [some (am_r (some 47)), some (am_i (wz a1)), none]) rfl rfl rfl (fun d hd s hr => ?_)
  refine ok (m_bipush (q := 2) rfl rfl rfl) ?_
  refine ok (m_istore_n (q := 3) (lo' := [some (am_r (some 47)), some (am_i (wz a1)), some (am_i (wz 24))]) rfl rfl rfl rfl rfl) ?_
  exact hp d hd _ hr
set_option maxRecDepth 100000 in
theorem rl_X6_append_3 {n : Nat} {A : aA} {D D' : aD} (a1 : Int) (a2 : Int) (h1 : rg a1) (h2 : rg a2) (hp : (if a2 < 0 then (D' = D) else (if 700 ≤ D 47 2 then (D' = D) else (0 ≤ D 47 2 ∧ D 47 2 < 700) ∧ K_X6_append_3 (n) A (up (up D 48 (D 47 2) (o_i2b (o_ushr a1 a2))) 47 2 (wr ((D 47 2) + 1))) a1 (wr (a2 + (-8))) D'))) : K_X6_append_3 (n) A D a1 a2 D' := by
  unfold K_X6_append_3
  refine fun d hd s hr => ?_
  refine ok (m_iload_n (q := 4) rfl rfl rfl rfl) ?_
  refine okc (m_iflt (qt := 46) (qf := 7) rfl rfl h2 rfl rfl) (fun c1 => ?_) (fun c1 => ?_)
  · replace hp := ip c1 hp
    exact ok (m_retv rfl rfl) (ok_vq hr hp)
  · replace hp := iq c1 hp
    refine ok (m_aload_n (q := 8) rfl rfl rfl rfl) ?_
    refine ok (m_gfs (z := 2) (q := 11) rfl rfl rfl hr rfl rfl rfl rfl rfl) ?_
    refine ok (m_sipush (q := 14) rfl rfl rfl) ?_
    refine okc (m_cmpge (qt := 46) (qf := 17) rfl rfl (Rp_rg hr 47 2) ⟨by decide, by decide⟩ rfl rfl) (fun c2 => ?_) (fun c2 => ?_)
    · replace hp := ip c2 hp
      exact ok (m_retv rfl rfl) (ok_vq hr hp)
    · replace hp := iq c2 hp
      refine ok (m_aload_n (q := 18) rfl rfl rfl rfl) ?_
      refine ok (m_gfc (q := 21) rfl rfl rfl hr rfl rfl rfl) ?_
      refine ok (m_aload_n (q := 22) rfl rfl rfl rfl) ?_
      refine ok (m_gfs (z := 2) (q := 25) rfl rfl rfl hr rfl rfl rfl rfl rfl) ?_
      refine ok (m_iload_n (q := 26) rfl rfl rfl rfl) ?_
      refine ok (m_iload_n (q := 27) rfl rfl rfl rfl) ?_
      refine ok (m_iushr (q := 28) rfl rfl rfl) ?_
      refine ok (m_i2b (q := 29) rfl rfl rfl) ?_
      obtain ⟨g5, hp⟩ := hp
      refine oke (e_bas (q := 30) rfl rfl rfl hr rfl rfl g5 (rg_o _) (nar_1 (i2b_rg _).1 (i2b_rg _).2)) (fun s4 r3 => ?_)
      refine ok (m_aload_n (q := 31) rfl rfl rfl rfl) ?_
      refine ok (m_dup (q := 32) rfl rfl rfl rfl) ?_
      refine ok (m_gfs (z := 2) (q := 35) (w := D 47 2) rfl rfl rfl r3 rfl rfl rfl rfl rfl) ?_
      refine ok (m_iconst (q := 36) rfl rfl rfl) ?_
      refine ok (m_iadd (q := 37) rfl rfl rfl) ?_
      refine oke (e_pfs (q := 40) rfl rfl rfl r3 rfl rfl rfl rfl (rg_wr _)) (fun s7 r6 => ?_)
      refine ok (m_iinc (q := 43) (lo' := [some (am_r (some 47)), some (am_i (wz a1)), some (am_i (wz (wr (a2 + (-8)))))]) rfl rfl rfl rfl rfl rfl rfl) ?_
      refine ok (m_goto (q := 3) rfl rfl rfl) ?_
      exact hp d hd _ r6
abbrev P_X12_four : Nat → Option am_E := am_fy tb_X12_four
def K_X12_four_3 (n : Nat) (A : aA) (D : aD) (a1 : Int) (a2 : Int) (D' : aD) : Prop := Lp n 0 P_X12_four 3 [some (am_r (some 70)), some (am_i (wz a1)), some (am_i (wz a2))] [] A D rv A D'
set_option maxRecDepth 100000 in
theorem rl_X12_four {n : Nat} {A : aA} {D D' : aD} (a1 : Int) (h1 : rg a1) (hp : K_X12_four_3 (n) A D a1 24 D') : Ev (n) (1) 152 [am_r (some 70), am_i (wz a1)] A D rv A D' := by
  refine Ev_of (c := 0) (P := P_X12_four) (lo := [some (am_r (some 70)), some (am_i (wz a1)), none]) rfl rfl rfl (fun d hd s hr => ?_)
  refine ok (m_bipush (q := 2) rfl rfl rfl) ?_
  refine ok (m_istore_n (q := 3) (lo' := [some (am_r (some 70)), some (am_i (wz a1)), some (am_i (wz 24))]) rfl rfl rfl rfl rfl) ?_
  exact hp d hd _ hr
set_option maxRecDepth 100000 in
theorem rl_X12_four_3 {n : Nat} {A : aA} {D D' : aD} (a1 : Int) (a2 : Int) (h1 : rg a1) (h2 : rg a2) (hp : (if a2 < 0 then (D' = D) else (0 ≤ D 70 28 ∧ D 70 28 < 700) ∧ K_X12_four_3 (n) A (up (up D 106 (D 70 28) (o_i2b (o_shr a1 a2))) 70 28 (wr ((D 70 28) + 1))) a1 (wr (a2 + (-8))) D')) : K_X12_four_3 (n) A D a1 a2 D' := by
  unfold K_X12_four_3
  refine fun d hd s hr => ?_
  refine ok (m_iload_n (q := 4) rfl rfl rfl rfl) ?_
  refine okc (m_iflt (qt := 36) (qf := 7) rfl rfl h2 rfl rfl) (fun c1 => ?_) (fun c1 => ?_)
  · replace hp := ip c1 hp
    exact ok (m_retv rfl rfl) (ok_vq hr hp)
  · replace hp := iq c1 hp
    refine ok (m_aload_n (q := 8) rfl rfl rfl rfl) ?_
    refine ok (m_gfc (q := 11) rfl rfl rfl hr rfl rfl rfl) ?_
    refine ok (m_aload_n (q := 12) rfl rfl rfl rfl) ?_
    refine ok (m_gfs (z := 28) (q := 15) rfl rfl rfl hr rfl rfl rfl rfl rfl) ?_
    refine ok (m_iload_n (q := 16) rfl rfl rfl rfl) ?_
    refine ok (m_iload_n (q := 17) rfl rfl rfl rfl) ?_
    refine ok (m_ishr (q := 18) rfl rfl rfl) ?_
    refine ok (m_i2b (q := 19) rfl rfl rfl) ?_
    obtain ⟨g4, hp⟩ := hp
    refine oke (e_bas (q := 20) rfl rfl rfl hr rfl rfl g4 (rg_o _) (nar_1 (i2b_rg _).1 (i2b_rg _).2)) (fun s3 r2 => ?_)
    refine ok (m_aload_n (q := 21) rfl rfl rfl rfl) ?_
    refine ok (m_dup (q := 22) rfl rfl rfl rfl) ?_
    refine ok (m_gfs (z := 28) (q := 25) (w := D 70 28) rfl rfl rfl r2 rfl rfl rfl rfl rfl) ?_
    refine ok (m_iconst (q := 26) rfl rfl rfl) ?_
    refine ok (m_iadd (q := 27) rfl rfl rfl) ?_
    refine oke (e_pfs (q := 30) rfl rfl rfl r2 rfl rfl rfl rfl (rg_wr _)) (fun s6 r5 => ?_)
    refine ok (m_iinc (q := 33) (lo' := [some (am_r (some 70)), some (am_i (wz a1)), some (am_i (wz (wr (a2 + (-8)))))]) rfl rfl rfl rfl rfl rfl rfl) ?_
    refine ok (m_goto (q := 3) rfl rfl rfl) ?_
    exact hp d hd _ r5
/-- four bytes come behind the others -/
def by4 (v k : Int) : Int := o_i2b (o_shr v (24 - 8 * k))
def w4 (D : aD) (a f : Nat) (x : Int) (v : Int) : aD := fun c i => if c = a ∧ D f x ≤ i ∧ i < D f x + 4 then by4 v (i - D f x) else if c = f ∧ i = x then D f x + 4 else D c i
theorem i2b_sh {a b : Int32} (h : ∀ i, i < 8 → a.toBitVec.getLsbD i = b.toBitVec.getLsbD i) : a.toInt8.toInt32.toInt = b.toInt8.toInt32.toInt := by
  have e : a.toInt8 = b.toInt8 := by
    apply Int8.toBitVec_inj.mp
    rw [Int32.toBitVec_toInt8, Int32.toBitVec_toInt8]
    apply BitVec.eq_of_getLsbD_eq
    intro i hi
    rw [BitVec.getLsbD_signExtend, BitVec.getLsbD_signExtend]
    simp only [hi, decide_true, Bool.true_and]
    rw [if_pos (by omega), if_pos (by omega)]
    exact h i hi
  rw [e]
theorem by_eq {v s : Int} (hs : s = 24 ∨ s = 16 ∨ s = 8 ∨ s = 0) : o_i2b (o_ushr v s) = o_i2b (o_shr v s) := by
  unfold o_i2b o_ushr o_shr
  rw [wz_of, wz_of]
  apply i2b_sh
  intro i hi
  generalize wz v = x
  rcases hs with rfl | rfl | rfl | rfl
  · have e1 : ((wz 24).toUInt32 &&& Int32.toUInt32 31) = (24 : UInt32) := by decide
    have e2 : (wz 24 &&& 31) = (24 : Int32) := by decide
    rw [e1, e2]
    show ((x.toUInt32 >>> (24 : UInt32)).toBitVec).getLsbD i = _
    rw [UInt32.toBitVec_shiftRight, Int32.toBitVec_shiftRight]
    have e3 : ((24 : UInt32).toBitVec % 32) = 24#32 := by decide
    have e4 : ((24 : Int32).toBitVec.smod 32) = 24#32 := by decide
    rw [e3, e4]
    show (x.toBitVec >>> 24#32).getLsbD i = (BitVec.sshiftRight' x.toBitVec 24#32).getLsbD i
    rw [BitVec.ushiftRight_eq', BitVec.getLsbD_ushiftRight, BitVec.sshiftRight_eq', BitVec.getLsbD_sshiftRight]
    have e5 : (24#32).toNat = 24 := by decide
    rw [e5]
    have hw : decide (32 ≤ i) = false := by simp; omega
    rw [hw]
    simp only [Bool.not_false, Bool.true_and]
    rw [if_pos (by omega)]
  · have e1 : ((wz 16).toUInt32 &&& Int32.toUInt32 31) = (16 : UInt32) := by decide
    have e2 : (wz 16 &&& 31) = (16 : Int32) := by decide
    rw [e1, e2]
    show ((x.toUInt32 >>> (16 : UInt32)).toBitVec).getLsbD i = _
    rw [UInt32.toBitVec_shiftRight, Int32.toBitVec_shiftRight]
    have e3 : ((16 : UInt32).toBitVec % 32) = 16#32 := by decide
    have e4 : ((16 : Int32).toBitVec.smod 32) = 16#32 := by decide
    rw [e3, e4]
    show (x.toBitVec >>> 16#32).getLsbD i = (BitVec.sshiftRight' x.toBitVec 16#32).getLsbD i
    rw [BitVec.ushiftRight_eq', BitVec.getLsbD_ushiftRight, BitVec.sshiftRight_eq', BitVec.getLsbD_sshiftRight]
    have e5 : (16#32).toNat = 16 := by decide
    rw [e5]
    have hw : decide (32 ≤ i) = false := by simp; omega
    rw [hw]
    simp only [Bool.not_false, Bool.true_and]
    rw [if_pos (by omega)]
  · have e1 : ((wz 8).toUInt32 &&& Int32.toUInt32 31) = (8 : UInt32) := by decide
    have e2 : (wz 8 &&& 31) = (8 : Int32) := by decide
    rw [e1, e2]
    show ((x.toUInt32 >>> (8 : UInt32)).toBitVec).getLsbD i = _
    rw [UInt32.toBitVec_shiftRight, Int32.toBitVec_shiftRight]
    have e3 : ((8 : UInt32).toBitVec % 32) = 8#32 := by decide
    have e4 : ((8 : Int32).toBitVec.smod 32) = 8#32 := by decide
    rw [e3, e4]
    show (x.toBitVec >>> 8#32).getLsbD i = (BitVec.sshiftRight' x.toBitVec 8#32).getLsbD i
    rw [BitVec.ushiftRight_eq', BitVec.getLsbD_ushiftRight, BitVec.sshiftRight_eq', BitVec.getLsbD_sshiftRight]
    have e5 : (8#32).toNat = 8 := by decide
    rw [e5]
    have hw : decide (32 ≤ i) = false := by simp; omega
    rw [hw]
    simp only [Bool.not_false, Bool.true_and]
    rw [if_pos (by omega)]
  · have e1 : ((wz 0).toUInt32 &&& Int32.toUInt32 31) = (0 : UInt32) := by decide
    have e2 : (wz 0 &&& 31) = (0 : Int32) := by decide
    rw [e1, e2]
    show ((x.toUInt32 >>> (0 : UInt32)).toBitVec).getLsbD i = _
    rw [UInt32.toBitVec_shiftRight, Int32.toBitVec_shiftRight]
    have e3 : ((0 : UInt32).toBitVec % 32) = 0#32 := by decide
    have e4 : ((0 : Int32).toBitVec.smod 32) = 0#32 := by decide
    rw [e3, e4]
    show (x.toBitVec >>> 0#32).getLsbD i = (BitVec.sshiftRight' x.toBitVec 0#32).getLsbD i
    rw [BitVec.ushiftRight_eq', BitVec.getLsbD_ushiftRight, BitVec.sshiftRight_eq', BitVec.getLsbD_sshiftRight]
    have e5 : (0#32).toNat = 0 := by decide
    rw [e5]
    have hw : decide (32 ≤ i) = false := by simp; omega
    rw [hw]
    simp only [Bool.not_false, Bool.true_and]
    rw [if_pos (by omega)]
def pw4 (D : aD) (a f : Nat) (x L v k : Int) : aD := fun c i => if c = a ∧ L ≤ i ∧ i < L + k then by4 v (i - L) else if c = f ∧ i = x then L + k else D c i
theorem pw4_0 {a f : Nat} {x v : Int} : pw4 D a f x (D f x) v 0 = D := by
  funext c i
  show (if c = a ∧ D f x ≤ i ∧ i < D f x + 0 then _ else if c = f ∧ i = x then D f x + 0 else D c i) = D c i
  rw [if_neg (fun z => by omega)]
  split
  · rename_i z; rw [z.1, z.2]; omega
  · rfl
theorem pw4_s {a f : Nat} {x L v k b : Int} (haf : a ≠ f) (hk : 0 ≤ k) (hb : b = by4 v k) : up (up (pw4 D a f x L v k) a (L + k) b) f x (L + k + 1) = pw4 D a f x L v (k + 1) := by
  subst hb
  funext c i
  show (if c = f ∧ i = x then L + k + 1 else if c = a ∧ i = L + k then by4 v k else if c = a ∧ L ≤ i ∧ i < L + k then by4 v (i - L) else if c = f ∧ i = x then L + k else D c i) = if c = a ∧ L ≤ i ∧ i < L + (k + 1) then by4 v (i - L) else if c = f ∧ i = x then L + (k + 1) else D c i
  by_cases c1 : c = f ∧ i = x
  · rw [if_pos c1, if_neg (fun z => haf (z.1.symm.trans c1.1)), if_pos c1]; omega
  · rw [if_neg c1]
    by_cases c2 : c = a
    · by_cases c3 : i = L + k
      · rw [if_pos ⟨c2, c3⟩, if_pos ⟨c2, by omega, by omega⟩, show i - L = k by omega]
      · rw [if_neg (fun z => c3 z.2)]
        by_cases c4 : L ≤ i ∧ i < L + k
        · rw [if_pos ⟨c2, c4⟩, if_pos ⟨c2, by omega, by omega⟩]
        · rw [if_neg (fun z => c4 z.2), if_neg c1, if_neg (fun z => c4 ⟨z.2.1, by omega⟩), if_neg c1]
    · rw [if_neg (fun z => c2 z.1), if_neg (fun z => c2 z.1), if_neg c1, if_neg (fun z => c2 z.1), if_neg c1]
theorem pw4_f {a f : Nat} {x L v k : Int} (haf : a ≠ f) : pw4 D a f x L v k f x = L + k := by
  show (if f = a ∧ _ then _ else if f = f ∧ x = x then L + k else D f x) = _
  rw [if_neg (fun z => haf z.1.symm), if_pos ⟨rfl, rfl⟩]
theorem K_app {v : Int} (hv : rg v) (h0 : 0 ≤ D 47 2) (h1 : D 47 2 + 4 ≤ 700) : K_X6_append_3 n A D v 24 (w4 D 48 47 2 v) := by
  have e0 : K_X6_append_3 n A (pw4 D 48 47 2 (D 47 2) v 4) v (-8) (w4 D 48 47 2 v) := by
    refine rl_X6_append_3 _ _ hv (rgb (by omega) (by omega)) ?_
    rw [if_pos (by decide)]; rfl
  have step : ∀ k t t' : Int, 0 ≤ k → k < 4 → t = 24 - 8 * k → t' = t - 8 → K_X6_append_3 n A (pw4 D 48 47 2 (D 47 2) v (k + 1)) v t' (w4 D 48 47 2 v) → K_X6_append_3 n A (pw4 D 48 47 2 (D 47 2) v k) v t (w4 D 48 47 2 v) := by
    intro k t t' k0 k1 ht ht' H
    refine rl_X6_append_3 _ _ hv (rgb (by omega) (by omega)) ?_
    rw [if_neg (by omega), pw4_f (by decide), if_neg (by omega), wr_id (z := D 47 2 + k + 1) (by omega) (by omega), wr_id (z := t + -8) (by omega) (by omega), pw4_s (by decide) k0 (by rw [by_eq (by omega), ht]; rfl), show t + -8 = t' by omega]
    exact ⟨by omega, H⟩
  have := step 0 24 16 (by omega) (by omega) (by omega) (by omega) (step 1 16 8 (by omega) (by omega) (by omega) (by omega) (step 2 8 0 (by omega) (by omega) (by omega) (by omega) (step 3 0 (-8) (by omega) (by omega) (by omega) (by omega) e0)))
  rw [pw4_0] at this; exact this
theorem K_fou {v : Int} (hv : rg v) (h0 : 0 ≤ D 70 28) (h1 : D 70 28 + 4 ≤ 700) : K_X12_four_3 n A D v 24 (w4 D 106 70 28 v) := by
  have e0 : K_X12_four_3 n A (pw4 D 106 70 28 (D 70 28) v 4) v (-8) (w4 D 106 70 28 v) := by
    refine rl_X12_four_3 _ _ hv (rgb (by omega) (by omega)) ?_
    rw [if_pos (by decide)]; rfl
  have step : ∀ k t t' : Int, 0 ≤ k → k < 4 → t = 24 - 8 * k → t' = t - 8 → K_X12_four_3 n A (pw4 D 106 70 28 (D 70 28) v (k + 1)) v t' (w4 D 106 70 28 v) → K_X12_four_3 n A (pw4 D 106 70 28 (D 70 28) v k) v t (w4 D 106 70 28 v) := by
    intro k t t' k0 k1 ht ht' H
    refine rl_X12_four_3 _ _ hv (rgb (by omega) (by omega)) ?_
    rw [if_neg (by omega), pw4_f (by decide), wr_id (z := D 70 28 + k + 1) (by omega) (by omega), wr_id (z := t + -8) (by omega) (by omega), pw4_s (by decide) k0 (by rw [ht]; rfl), show t + -8 = t' by omega]
    exact ⟨by omega, H⟩
  have := step 0 24 16 (by omega) (by omega) (by omega) (by omega) (step 1 16 8 (by omega) (by omega) (by omega) (by omega) (step 2 8 0 (by omega) (by omega) (by omega) (by omega) (step 3 0 (-8) (by omega) (by omega) (by omega) (by omega) e0)))
  rw [pw4_0] at this; exact this
def u_app (D : aD) (v : Int) : aD := w4 D 48 47 2 v
def p_app (D : aD) (_ : Int) : Prop := 0 ≤ D 47 2 ∧ D 47 2 + 4 ≤ 700
def u_fou (D : aD) (v : Int) : aD := w4 D 106 70 28 v
def p_fou (D : aD) (_ : Int) : Prop := 0 ≤ D 70 28 ∧ D 70 28 + 4 ≤ 700
theorem ev_app (v : Int) (h : rg v) (hp : p_app D v) : Ev n 1 41 [am_r (some 47), am_i (wz v)] A D rv A (u_app D v) := rl_X6_append v h (K_app h hp.1 hp.2)
theorem ev_fou (v : Int) (h : rg v) (hp : p_fou D v) : Ev n 1 152 [am_r (some 70), am_i (wz v)] A D rv A (u_fou D v) := rl_X12_four v h (K_fou h hp.1 hp.2)
theorem w4_c {a f c : Nat} {x v : Int} (h1 : c ≠ a) (h2 : c ≠ f) : w4 D a f x v c = D c := by
  funext i; show (if c = a ∧ _ then _ else if c = f ∧ i = x then _ else D c i) = _
  rw [if_neg (fun z => h1 z.1), if_neg (fun z => h2 z.1)]
theorem w4_x {a f : Nat} {x v : Int} (h : a ≠ f) : w4 D a f x v f x = D f x + 4 := by
  show (if f = a ∧ _ then _ else if f = f ∧ x = x then _ else _) = _
  rw [if_neg (fun z => h z.1.symm), if_pos ⟨rfl, rfl⟩]
theorem w4_o {a f : Nat} {x v i : Int} (h : a ≠ f) (hi : i ≠ x) : w4 D a f x v f i = D f i := by
  show (if f = a ∧ _ then _ else if f = f ∧ i = x then _ else _) = _
  rw [if_neg (fun z => h z.1.symm), if_neg (fun z => hi z.2)]
theorem w4_a {a f : Nat} {x v i : Int} (h : a ≠ f) : w4 D a f x v a i = if D f x ≤ i ∧ i < D f x + 4 then by4 v (i - D f x) else D a i := by
  show (if a = a ∧ D f x ≤ i ∧ i < D f x + 4 then _ else if a = f ∧ i = x then _ else D a i) = _
  by_cases c : D f x ≤ i ∧ i < D f x + 4
  · rw [if_pos ⟨rfl, c⟩, if_pos c]
  · rw [if_neg (fun z => c z.2), if_neg c, if_neg (fun z => h z.1)]
theorem fl_app (D : aD) (v : Int) (t : Nat) (i : Int) (ht : Nat.ble t 49 = true) : u_app D v (900 + t) i = D (900 + t) i := by unfold u_app; rw [w4_c (fl_ne rfl ht) (fl_ne rfl ht)]
theorem fl_fou (D : aD) (v : Int) (t : Nat) (i : Int) (ht : Nat.ble t 49 = true) : u_fou D v (900 + t) i = D (900 + t) i := by unfold u_fou; rw [w4_c (fl_ne rfl ht) (fl_ne rfl ht)]
abbrev P_X11_feed : Nat → Option am_E := am_fy tb_X11_feed
def v_X11_feed (D : aD) (a1 : Int) (a2 : Int) (a3 : Int) (a4 : Int) (a5 : Int) : Int := if wr ((D 47 2) + 20) ≤ 700 then (u_app (u_app (u_app (u_app (u_app D a1) a2) a3) a4) a5) 47 2 else (-1)
def u_X11_feed (D : aD) (a1 : Int) (a2 : Int) (a3 : Int) (a4 : Int) (a5 : Int) : aD := if wr ((D 47 2) + 20) ≤ 700 then (u_app (u_app (u_app (u_app (u_app D a1) a2) a3) a4) a5) else D
def p_X11_feed (D : aD) (a1 : Int) (a2 : Int) (a3 : Int) (a4 : Int) (a5 : Int) : Prop := (if wr ((D 47 2) + 20) ≤ 700 then (p_app D a1) ∧ (p_app (u_app D a1) a2) ∧ (p_app (u_app (u_app D a1) a2) a3) ∧ (p_app (u_app (u_app (u_app D a1) a2) a3) a4) ∧ (p_app (u_app (u_app (u_app (u_app D a1) a2) a3) a4) a5) else True)
set_option maxRecDepth 100000 in
theorem ev_X11_feed {n : Nat} {A : aA} {D : aD} (a1 : Int) (a2 : Int) (a3 : Int) (a4 : Int) (a5 : Int) (h1 : rg a1) (h2 : rg a2) (h3 : rg a3) (h4 : rg a4) (h5 : rg a5) (hp : p_X11_feed D a1 a2 a3 a4 a5) : Ev (n) 2 84 [am_r (some 32), am_i (wz a1), am_i (wz a2), am_i (wz a3), am_i (wz a4), am_i (wz a5)] A D (ri (v_X11_feed D a1 a2 a3 a4 a5)) A (u_X11_feed D a1 a2 a3 a4 a5) := by
  unfold p_X11_feed at hp
  unfold v_X11_feed u_X11_feed
  refine Ev_of (c := 1) (P := P_X11_feed) (lo := [some (am_r (some 32)), some (am_i (wz a1)), some (am_i (wz a2)), some (am_i (wz a3)), some (am_i (wz a4)), some (am_i (wz a5))]) rfl rfl rfl (fun d hd s hr => ?_)
  refine ok (m_aload_n (q := 1) rfl rfl rfl rfl) ?_
  refine ok (m_gfc (q := 4) rfl rfl rfl hr rfl rfl rfl) ?_
  refine ok (m_gfs (z := 2) (q := 7) rfl rfl rfl hr rfl rfl rfl rfl rfl) ?_
  refine ok (m_bipush (q := 9) rfl rfl rfl) ?_
  refine ok (m_iadd (q := 10) rfl rfl rfl) ?_
  refine ok (m_sipush (q := 13) rfl rfl rfl) ?_
  refine okf (m_cmple (qt := 18) (qf := 16) rfl rfl (rg_wr _) ⟨by decide, by decide⟩ rfl rfl) (fun c1 => ?_) (fun c1 => ?_)
  · replace hp := ip c1 hp
    refine ok (m_aload_n (q := 19) rfl rfl rfl rfl) ?_
    refine ok (m_gfc (q := 22) rfl rfl rfl hr rfl rfl rfl) ?_
    refine ok (m_iload_n (q := 23) rfl rfl rfl rfl) ?_
    obtain ⟨g4, hp⟩ := hp
    refine oke (e_cvd (x_cv (q := 26) rfl rfl rfl rfl rfl rfl rfl rfl rfl rfl (is_st hr rfl rfl)) (ev_app (D := D) a1 h1 g4) (Nat.le_trans (by decide) hd) hr) (fun s2 r3 => ?_)
    refine ok (m_aload_n (q := 27) rfl rfl rfl rfl) ?_
    refine ok (m_gfc (q := 30) rfl rfl rfl r3 rfl rfl rfl) ?_
    refine ok (m_iload_n (q := 31) rfl rfl rfl rfl) ?_
    obtain ⟨g7, hp⟩ := hp
    refine oke (e_cvd (x_cv (q := 34) rfl rfl rfl rfl rfl rfl rfl rfl rfl rfl (is_st r3 rfl rfl)) (ev_app (D := (u_app D a1)) a2 h2 g7) (Nat.le_trans (by decide) hd) r3) (fun s5 r6 => ?_)
    refine ok (m_aload_n (q := 35) rfl rfl rfl rfl) ?_
    refine ok (m_gfc (q := 38) rfl rfl rfl r6 rfl rfl rfl) ?_
    refine ok (m_iload_n (q := 39) rfl rfl rfl rfl) ?_
    obtain ⟨g10, hp⟩ := hp
    refine oke (e_cvd (x_cv (q := 42) rfl rfl rfl rfl rfl rfl rfl rfl rfl rfl (is_st r6 rfl rfl)) (ev_app (D := (u_app (u_app D a1) a2)) a3 h3 g10) (Nat.le_trans (by decide) hd) r6) (fun s8 r9 => ?_)
    refine ok (m_aload_n (q := 43) rfl rfl rfl rfl) ?_
    refine ok (m_gfc (q := 46) rfl rfl rfl r9 rfl rfl rfl) ?_
    refine ok (m_iload (q := 48) rfl rfl rfl rfl) ?_
    obtain ⟨g13, hp⟩ := hp
    refine oke (e_cvd (x_cv (q := 51) rfl rfl rfl rfl rfl rfl rfl rfl rfl rfl (is_st r9 rfl rfl)) (ev_app (D := (u_app (u_app (u_app D a1) a2) a3)) a4 h4 g13) (Nat.le_trans (by decide) hd) r9) (fun s11 r12 => ?_)
    refine ok (m_aload_n (q := 52) rfl rfl rfl rfl) ?_
    refine ok (m_gfc (q := 55) rfl rfl rfl r12 rfl rfl rfl) ?_
    refine ok (m_iload (q := 57) rfl rfl rfl rfl) ?_
    have g16 := hp
    refine oke (e_cvd (x_cv (q := 60) rfl rfl rfl rfl rfl rfl rfl rfl rfl rfl (is_st r12 rfl rfl)) (ev_app (D := (u_app (u_app (u_app (u_app D a1) a2) a3) a4)) a5 h5 g16) (Nat.le_trans (by decide) hd) r12) (fun s14 r15 => ?_)
    refine ok (m_aload_n (q := 61) rfl rfl rfl rfl) ?_
    refine ok (m_gfc (q := 64) rfl rfl rfl r15 rfl rfl rfl) ?_
    refine ok (m_gfs (z := 2) (q := 67) rfl rfl rfl r15 rfl rfl rfl rfl rfl) ?_
    exact ok (m_reti rfl rfl) (ok_i r15 (Rp_rg r15 47 2))
  · refine ok (m_iconst (q := 17) rfl rfl rfl) ?_
    exact ok (m_reti rfl rfl) (ok_i hr ⟨by decide, by decide⟩)
theorem fl_X11_feed (D : aD) (a1 : Int) (a2 : Int) (a3 : Int) (a4 : Int) (a5 : Int) (t : Nat) (i : Int) (ht : Nat.ble t 49 = true) : u_X11_feed D a1 a2 a3 a4 a5 (900 + t) i = D (900 + t) i := fl_if ((fl_app (u_app (u_app (u_app (u_app D a1) a2) a3) a4) a5 t i ht).trans ((fl_app (u_app (u_app (u_app D a1) a2) a3) a4 t i ht).trans ((fl_app (u_app (u_app D a1) a2) a3 t i ht).trans ((fl_app (u_app D a1) a2 t i ht).trans ((fl_app D a1 t i ht).trans (rfl)))))) (rfl)
abbrev P_X12_feed : Nat → Option am_E := am_fy tb_X12_feed
def v_X12_feed (D : aD) (a1 : Int) (a2 : Int) (a3 : Int) (a4 : Int) (a5 : Int) : Int := if wr ((D 70 28) + 20) ≤ 700 then (u_fou (u_fou (u_fou (u_fou (u_fou D a1) a2) a3) a4) a5) 70 28 else (-1)
def u_X12_feed (D : aD) (a1 : Int) (a2 : Int) (a3 : Int) (a4 : Int) (a5 : Int) : aD := if wr ((D 70 28) + 20) ≤ 700 then (u_fou (u_fou (u_fou (u_fou (u_fou D a1) a2) a3) a4) a5) else D
def p_X12_feed (D : aD) (a1 : Int) (a2 : Int) (a3 : Int) (a4 : Int) (a5 : Int) : Prop := (if wr ((D 70 28) + 20) ≤ 700 then (p_fou D a1) ∧ (p_fou (u_fou D a1) a2) ∧ (p_fou (u_fou (u_fou D a1) a2) a3) ∧ (p_fou (u_fou (u_fou (u_fou D a1) a2) a3) a4) ∧ (p_fou (u_fou (u_fou (u_fou (u_fou D a1) a2) a3) a4) a5) else True)
set_option maxRecDepth 100000 in
theorem ev_X12_feed {n : Nat} {A : aA} {D : aD} (a1 : Int) (a2 : Int) (a3 : Int) (a4 : Int) (a5 : Int) (h1 : rg a1) (h2 : rg a2) (h3 : rg a3) (h4 : rg a4) (h5 : rg a5) (hp : p_X12_feed D a1 a2 a3 a4 a5) : Ev (n) 2 151 [am_r (some 70), am_i (wz a1), am_i (wz a2), am_i (wz a3), am_i (wz a4), am_i (wz a5)] A D (ri (v_X12_feed D a1 a2 a3 a4 a5)) A (u_X12_feed D a1 a2 a3 a4 a5) := by
  unfold p_X12_feed at hp
  unfold v_X12_feed u_X12_feed
  refine Ev_of (c := 1) (P := P_X12_feed) (lo := [some (am_r (some 70)), some (am_i (wz a1)), some (am_i (wz a2)), some (am_i (wz a3)), some (am_i (wz a4)), some (am_i (wz a5))]) rfl rfl rfl (fun d hd s hr => ?_)
  refine ok (m_aload_n (q := 1) rfl rfl rfl rfl) ?_
  refine ok (m_gfs (z := 28) (q := 4) rfl rfl rfl hr rfl rfl rfl rfl rfl) ?_
  refine ok (m_bipush (q := 6) rfl rfl rfl) ?_
  refine ok (m_iadd (q := 7) rfl rfl rfl) ?_
  refine ok (m_sipush (q := 10) rfl rfl rfl) ?_
  refine okf (m_cmple (qt := 15) (qf := 13) rfl rfl (rg_wr _) ⟨by decide, by decide⟩ rfl rfl) (fun c1 => ?_) (fun c1 => ?_)
  · replace hp := ip c1 hp
    refine ok (m_aload_n (q := 16) rfl rfl rfl rfl) ?_
    refine ok (m_iload_n (q := 17) rfl rfl rfl rfl) ?_
    obtain ⟨g4, hp⟩ := hp
    refine oke (e_cvd (x_cv (q := 20) rfl rfl rfl rfl rfl rfl rfl rfl rfl rfl (is_st hr rfl rfl)) (ev_fou (D := D) a1 h1 g4) (Nat.le_trans (by decide) hd) hr) (fun s2 r3 => ?_)
    refine ok (m_aload_n (q := 21) rfl rfl rfl rfl) ?_
    refine ok (m_iload_n (q := 22) rfl rfl rfl rfl) ?_
    obtain ⟨g7, hp⟩ := hp
    refine oke (e_cvd (x_cv (q := 25) rfl rfl rfl rfl rfl rfl rfl rfl rfl rfl (is_st r3 rfl rfl)) (ev_fou (D := (u_fou D a1)) a2 h2 g7) (Nat.le_trans (by decide) hd) r3) (fun s5 r6 => ?_)
    refine ok (m_aload_n (q := 26) rfl rfl rfl rfl) ?_
    refine ok (m_iload_n (q := 27) rfl rfl rfl rfl) ?_
    obtain ⟨g10, hp⟩ := hp
    refine oke (e_cvd (x_cv (q := 30) rfl rfl rfl rfl rfl rfl rfl rfl rfl rfl (is_st r6 rfl rfl)) (ev_fou (D := (u_fou (u_fou D a1) a2)) a3 h3 g10) (Nat.le_trans (by decide) hd) r6) (fun s8 r9 => ?_)
    refine ok (m_aload_n (q := 31) rfl rfl rfl rfl) ?_
    refine ok (m_iload (q := 33) rfl rfl rfl rfl) ?_
    obtain ⟨g13, hp⟩ := hp
    refine oke (e_cvd (x_cv (q := 36) rfl rfl rfl rfl rfl rfl rfl rfl rfl rfl (is_st r9 rfl rfl)) (ev_fou (D := (u_fou (u_fou (u_fou D a1) a2) a3)) a4 h4 g13) (Nat.le_trans (by decide) hd) r9) (fun s11 r12 => ?_)
    refine ok (m_aload_n (q := 37) rfl rfl rfl rfl) ?_
    refine ok (m_iload (q := 39) rfl rfl rfl rfl) ?_
    have g16 := hp
    refine oke (e_cvd (x_cv (q := 42) rfl rfl rfl rfl rfl rfl rfl rfl rfl rfl (is_st r12 rfl rfl)) (ev_fou (D := (u_fou (u_fou (u_fou (u_fou D a1) a2) a3) a4)) a5 h5 g16) (Nat.le_trans (by decide) hd) r12) (fun s14 r15 => ?_)
    refine ok (m_aload_n (q := 43) rfl rfl rfl rfl) ?_
    refine ok (m_gfs (z := 28) (q := 46) rfl rfl rfl r15 rfl rfl rfl rfl rfl) ?_
    exact ok (m_reti rfl rfl) (ok_i r15 (Rp_rg r15 70 28))
  · refine ok (m_iconst (q := 14) rfl rfl rfl) ?_
    exact ok (m_reti rfl rfl) (ok_i hr ⟨by decide, by decide⟩)
theorem fl_X12_feed (D : aD) (a1 : Int) (a2 : Int) (a3 : Int) (a4 : Int) (a5 : Int) (t : Nat) (i : Int) (ht : Nat.ble t 49 = true) : u_X12_feed D a1 a2 a3 a4 a5 (900 + t) i = D (900 + t) i := fl_if ((fl_fou (u_fou (u_fou (u_fou (u_fou D a1) a2) a3) a4) a5 t i ht).trans ((fl_fou (u_fou (u_fou (u_fou D a1) a2) a3) a4 t i ht).trans ((fl_fou (u_fou (u_fou D a1) a2) a3 t i ht).trans ((fl_fou (u_fou D a1) a2 t i ht).trans ((fl_fou D a1 t i ht).trans (rfl)))))) (rfl)
theorem by4_b (v k : Int) : -128 ≤ by4 v k ∧ by4 v k ≤ 127 := i2b_rg _
def bt5 (a b c d e j : Int) : Int := if 16 ≤ j ∧ j < 20 then by4 e (j - 16) else if 12 ≤ j ∧ j < 16 then by4 d (j - 12) else if 8 ≤ j ∧ j < 12 then by4 c (j - 8) else if 4 ≤ j ∧ j < 8 then by4 b (j - 4) else by4 a j
theorem bt5_b (a b c d e j : Int) : -128 ≤ bt5 a b c d e j ∧ bt5 a b c d e j ≤ 127 := by
  unfold bt5
  repeat' split
  all_goals exact by4_b _ _
theorem w20_a {a f : Nat} {x v1 v2 v3 v4 v5 i : Int} (h : a ≠ f) : w4 (w4 (w4 (w4 (w4 D a f x v1) a f x v2) a f x v3) a f x v4) a f x v5 a i = if D f x ≤ i ∧ i < D f x + 20 then bt5 v1 v2 v3 v4 v5 (i - D f x) else D a i := by
  simp only [w4_a h, w4_x h]
  generalize D f x = L
  generalize D a i = y
  unfold bt5
  by_cases c5 : L + 4 + 4 + 4 + 4 ≤ i ∧ i < L + 4 + 4 + 4 + 4 + 4
  · rw [if_pos c5, if_pos (by omega), if_pos (by omega)]; congr 1; omega
  rw [if_neg c5]
  by_cases c4 : L + 4 + 4 + 4 ≤ i ∧ i < L + 4 + 4 + 4 + 4
  · rw [if_pos c4, if_pos (by omega), if_neg (by omega), if_pos (by omega)]; congr 1; omega
  rw [if_neg c4]
  by_cases c3 : L + 4 + 4 ≤ i ∧ i < L + 4 + 4 + 4
  · rw [if_pos c3, if_pos (by omega), if_neg (by omega), if_neg (by omega), if_pos (by omega)]; congr 1; omega
  rw [if_neg c3]
  by_cases c2 : L + 4 ≤ i ∧ i < L + 4 + 4
  · rw [if_pos c2, if_pos (by omega), if_neg (by omega), if_neg (by omega), if_neg (by omega), if_pos (by omega)]; congr 1; omega
  rw [if_neg c2]
  by_cases c1 : L ≤ i ∧ i < L + 4
  · rw [if_pos c1, if_pos (by omega), if_neg (by omega), if_neg (by omega), if_neg (by omega), if_neg (by omega)]
  · rw [if_neg c1, if_neg (by omega)]
theorem w20_x {a f : Nat} {x v1 v2 v3 v4 v5 : Int} (h : a ≠ f) : w4 (w4 (w4 (w4 (w4 D a f x v1) a f x v2) a f x v3) a f x v4) a f x v5 f x = D f x + 20 := by
  simp only [w4_x h]; omega
theorem w20_c {a f c : Nat} {x v1 v2 v3 v4 v5 : Int} (h1 : c ≠ a) (h2 : c ≠ f) : w4 (w4 (w4 (w4 (w4 D a f x v1) a f x v2) a f x v3) a f x v4) a f x v5 c = D c := by
  rw [w4_c h1 h2, w4_c h1 h2, w4_c h1 h2, w4_c h1 h2, w4_c h1 h2]
theorem w20_o {a f : Nat} {x v1 v2 v3 v4 v5 i : Int} (h : a ≠ f) (hi : i ≠ x) : w4 (w4 (w4 (w4 (w4 D a f x v1) a f x v2) a f x v3) a f x v4) a f x v5 f i = D f i := by
  rw [w4_o h hi, w4_o h hi, w4_o h hi, w4_o h hi, w4_o h hi]
theorem c_feed (hI : Inv D) (a b c d e : Int) (h1 : rg a) (h2 : rg b) (h3 : rg c) (h4 : rg d) (h5 : rg e) : Wr 84 151 [am_i (wz a), am_i (wz b), am_i (wz c), am_i (wz d), am_i (wz e)] A D := by
  have ht := hI.iv.tp; unfold I_tp at ht
  by_cases q : D 70 28 + 20 ≤ 700
  · have pX : p_X11_feed D a b c d e := by
      unfold p_X11_feed p_app u_app
      simp only [w4_x (a := 48) (f := 47) (by decide)]
      rw [ht.1.1, wr_id (by omega) (by omega), if_pos q]
      refine ⟨?_, ?_, ?_, ?_, ?_⟩ <;> omega
    have eX : u_X11_feed D a b c d e = w4 (w4 (w4 (w4 (w4 D 48 47 2 a) 48 47 2 b) 48 47 2 c) 48 47 2 d) 48 47 2 e := by
      unfold u_X11_feed; rw [ht.1.1, wr_id (by omega) (by omega), if_pos q]; rfl
    have vX : v_X11_feed D a b c d e = D 70 28 + 20 := by
      unfold v_X11_feed; rw [ht.1.1, wr_id (by omega) (by omega), if_pos q]
      show w4 (w4 (w4 (w4 (w4 D 48 47 2 a) 48 47 2 b) 48 47 2 c) 48 47 2 d) 48 47 2 e 47 2 = _
      rw [w20_x (by decide), ht.1.1]
    generalize hF : w4 (w4 (w4 (w4 (w4 D 48 47 2 a) 48 47 2 b) 48 47 2 c) 48 47 2 d) 48 47 2 e = F at eX
    have fc : ∀ c', c' ≠ 48 → c' ≠ 47 → F c' = D c' := fun c' z1 z2 => by rw [← hF]; exact w20_c z1 z2
    have f70 : F 70 = D 70 := fc 70 (by decide) (by decide)
    have pM : p_X12_feed F a b c d e := by
      unfold p_X12_feed p_fou u_fou
      simp only [w4_x (a := 106) (f := 70) (by decide)]
      rw [f70, wr_id (by omega) (by omega), if_pos q]
      refine ⟨?_, ?_, ?_, ?_, ?_⟩ <;> omega
    have eM : u_X12_feed F a b c d e = w4 (w4 (w4 (w4 (w4 F 106 70 28 a) 106 70 28 b) 106 70 28 c) 106 70 28 d) 106 70 28 e := by
      unfold u_X12_feed; rw [f70, wr_id (by omega) (by omega), if_pos q]; rfl
    have vM : v_X12_feed F a b c d e = D 70 28 + 20 := by
      unfold v_X12_feed; rw [f70, wr_id (by omega) (by omega), if_pos q]
      show w4 (w4 (w4 (w4 (w4 F 106 70 28 a) 106 70 28 b) 106 70 28 c) 106 70 28 d) 106 70 28 e 70 28 = _
      rw [w20_x (by decide), f70]
    have gc : ∀ c', c' ≠ 106 → c' ≠ 70 → w4 (w4 (w4 (w4 (w4 F 106 70 28 a) 106 70 28 b) 106 70 28 c) 106 70 28 d) 106 70 28 e c' = F c' := fun c' z1 z2 => w20_c z1 z2
    have go : ∀ i, i ≠ 28 → w4 (w4 (w4 (w4 (w4 F 106 70 28 a) 106 70 28 b) 106 70 28 c) 106 70 28 d) 106 70 28 e 70 i = D 70 i := fun i z => by rw [w20_o (by decide) z, f70]
    have gx : w4 (w4 (w4 (w4 (w4 F 106 70 28 a) 106 70 28 b) 106 70 28 c) 106 70 28 d) 106 70 28 e 70 28 = D 70 28 + 20 := by rw [w20_x (by decide), f70]
    have ga : ∀ i, w4 (w4 (w4 (w4 (w4 F 106 70 28 a) 106 70 28 b) 106 70 28 c) 106 70 28 d) 106 70 28 e 106 i = if D 70 28 ≤ i ∧ i < D 70 28 + 20 then bt5 a b c d e (i - D 70 28) else D 106 i := fun i => by rw [w20_a (by decide), f70, fc 106 (by decide) (by decide)]
    have fx : F 47 2 = D 70 28 + 20 := by rw [← hF, w20_x (by decide), ht.1.1]
    have fo : F 47 3 = D 47 3 := by rw [← hF, w20_o (by decide) (by decide)]
    have fa : ∀ i, F 48 i = if D 70 28 ≤ i ∧ i < D 70 28 + 20 then bt5 a b c d e (i - D 70 28) else D 48 i := fun i => by rw [← hF, w20_a (by decide), ht.1.1]
    refine ⟨D 70 28 + 20, A, F, _, (Ev_i (Ev_D (ev_X11_feed (n := 0) a b c d e h1 h2 h3 h4 h5 pX) eX) vX).le (by decide), (Ev_i (Ev_D (ev_X12_feed (n := 0) a b c d e h1 h2 h3 h4 h5 pM) eM) vM).le (by decide), ?_⟩
    generalize w4 (w4 (w4 (w4 (w4 F 106 70 28 a) 106 70 28 b) 106 70 28 c) 106 70 28 d) 106 70 28 e = G at *
    have gd : ∀ c', c' ≠ 106 → c' ≠ 70 → c' ≠ 48 → c' ≠ 47 → G c' = D c' := fun c' z1 z2 z3 z4 => (gc c' z1 z2).trans (fc c' z3 z4)
    refine ⟨⟨?_, ?_⟩, ?_⟩
    · obtain ⟨p1, p2, p3, p4, p5, p6, p7, p8, p9, p10, p11, p12, p13, p14, p15⟩ := hI.iv
      refine iv15 ?_ ?_ ?_ ?_ ?_ ?_ ?_ ?_ ?_ ?_ ?_ ?_ ?_ ?_ ?_
      · simpa (disch := decide) only [I_ct, gd, go] using p1
      · simpa (disch := decide) only [I_cu, gd, go] using p2
      · unfold I_tp
        rw [gx, gc 47 (by decide) (by decide), gc 48 (by decide) (by decide), fx, fo, go 32 (by decide)]
        refine ⟨⟨rfl, by omega, by omega⟩, ht.2.1, fun i i0 i1 => ?_⟩
        rw [fa, ga]
        by_cases z : D 70 28 ≤ i ∧ i < D 70 28 + 20
        · rw [if_pos z, if_pos z]; exact ⟨rfl, bt5_b _ _ _ _ _ _⟩
        · rw [if_neg z, if_neg z]; exact ht.2.2 i i0 (by omega)
      · simpa (disch := decide) only [I_lg, gd, go] using p4
      · simpa (disch := decide) only [I_hs, gd, go] using p5
      · simpa (disch := decide) only [I_sv, gd, go] using p6
      · simpa (disch := decide) only [I_pl, gd, go] using p7
      · simpa (disch := decide) only [I_pg, gd, go] using p8
      · simpa (disch := decide) only [I_bx, gd, go] using p9
      · simpa (disch := decide) only [I_tm, gd, go] using p10
      · simpa (disch := decide) only [I_ak, v_X12_ageOn, gd, go] using p11
      · simpa (disch := decide) only [I_ws, gd, go] using p12
      · simpa (disch := decide) only [I_wf, gd, go] using p13
      · simpa (disch := decide) only [I_td, gd, go] using p14
      · simpa (disch := decide) only [I_cn, gd, go] using p15
    · exact Irb_k (fun c' z => gd c' (nrb z rfl) (nrb z rfl) (nrb z rfl) (nrb z rfl)) ⟨go 26 (by decide), go 27 (by decide)⟩ (fun l _ => by rw [gd 1002 (by decide) (by decide) (by decide) (by decide)]) hI.rb
    · exact ⟨gd 0 (by decide) (by decide) (by decide) (by decide), gd 1 (by decide) (by decide) (by decide) (by decide), by rw [gd 950 (by decide) (by decide) (by decide) (by decide)]; omega, by rw [gd 951 (by decide) (by decide) (by decide) (by decide)]; omega, by simp (disch := decide) only [gd]; first | exact id | trivial⟩
  · have pX : p_X11_feed D a b c d e := by unfold p_X11_feed; rw [ht.1.1, wr_id (by omega) (by omega), if_neg q]; trivial
    have pM : p_X12_feed D a b c d e := by unfold p_X12_feed; rw [wr_id (by omega) (by omega), if_neg q]; trivial
    have eX : u_X11_feed D a b c d e = D := by unfold u_X11_feed; rw [ht.1.1, wr_id (by omega) (by omega), if_neg q]
    have eM : u_X12_feed D a b c d e = D := by unfold u_X12_feed; rw [wr_id (by omega) (by omega), if_neg q]
    have vX : v_X11_feed D a b c d e = -1 := by unfold v_X11_feed; rw [ht.1.1, wr_id (by omega) (by omega), if_neg q]
    have vM : v_X12_feed D a b c d e = -1 := by unfold v_X12_feed; rw [wr_id (by omega) (by omega), if_neg q]
    exact Rd.wr ⟨-1, (Ev_i (Ev_D (ev_X11_feed (n := 0) a b c d e h1 h2 h3 h4 h5 pX) eX) vX).le (by decide), (Ev_i (Ev_D (ev_X12_feed (n := 0) a b c d e h1 h2 h3 h4 h5 pM) eM) vM).le (by decide)⟩ hI
end Fd
