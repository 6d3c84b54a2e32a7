/-! Digits to the base 32 and sets of digits as bits. -/
section Bt
theorem sh64 {d : Int} (h : 0 ≤ d ∧ d < 64) : ((wz d).toInt64.toUInt64 &&& Int64.toUInt64 63) = UInt64.ofNat d.toNat := by
  have key : ∀ k : Fin 64, ((wz (k.val : Int)).toInt64.toUInt64 &&& Int64.toUInt64 63) = UInt64.ofNat k.val := by decide
  have := key ⟨d.toNat, by omega⟩
  simp only at this
  rw [show ((d.toNat : Nat) : Int) = d by omega] at this
  exact this
theorem sh64s {d : Int} (h : 0 ≤ d ∧ d < 64) : ((wz d).toInt64 &&& 63) = Int64.ofNat d.toNat := by
  have key : ∀ k : Fin 64, ((wz (k.val : Int)).toInt64 &&& 63) = Int64.ofNat k.val := by decide
  have := key ⟨d.toNat, by omega⟩
  simp only at this
  rw [show ((d.toNat : Nat) : Int) = d by omega] at this
  exact this
theorem sh32 {d : Int} (h : 0 ≤ d ∧ d < 32) : (wz d &&& 31) = Int32.ofNat d.toNat := by
  have key : ∀ k : Fin 32, (wz (k.val : Int) &&& 31) = Int32.ofNat k.val := by decide
  have := key ⟨d.toNat, by omega⟩
  simp only at this
  rw [show ((d.toNat : Nat) : Int) = d by omega] at this
  exact this
theorem ub_shr {s : Int64} {k : Nat} (hk : k < 64) : ((s.toUInt64 >>> UInt64.ofNat k).toInt64).toBitVec = s.toBitVec >>> k := by
  show (s.toUInt64 >>> UInt64.ofNat k).toBitVec = _
  rw [UInt64.toBitVec_shiftRight]
  have e : ((UInt64.ofNat k).toBitVec % 64).toNat = k := by
    simp
    omega
  show s.toBitVec >>> ((UInt64.ofNat k).toBitVec % 64) = _
  rw [BitVec.ushiftRight_eq', e]
theorem sb_shr {s : Int64} {k : Nat} (hk : k < 64) : (s >>> Int64.ofNat k).toBitVec = s.toBitVec.sshiftRight k := by
  rw [Int64.toBitVec_shiftRight]
  have e : ((Int64.ofNat k).toBitVec.smod 64).toNat = k := by
    have key : ∀ k : Fin 64, ((Int64.ofNat k.val).toBitVec.smod 64).toNat = k.val := by decide
    exact key ⟨k, hk⟩
  rw [BitVec.sshiftRight_eq', e]
theorem sb_shl {s : Int64} {k : Nat} (hk : k < 64) : (s <<< Int64.ofNat k).toBitVec = s.toBitVec <<< k := by
  rw [Int64.toBitVec_shiftLeft]
  have e : ((Int64.ofNat k).toBitVec.smod 64).toNat = k := by
    have key : ∀ k : Fin 64, ((Int64.ofNat k.val).toBitVec.smod 64).toNat = k.val := by decide
    exact key ⟨k, hk⟩
  rw [BitVec.shiftLeft_eq', e]
theorem ib_shr {s : Int32} {k : Nat} (hk : k < 32) : (s >>> Int32.ofNat k).toBitVec = s.toBitVec.sshiftRight k := by
  rw [Int32.toBitVec_shiftRight]
  have e : ((Int32.ofNat k).toBitVec.smod 32).toNat = k := by
    have key : ∀ k : Fin 32, ((Int32.ofNat k.val).toBitVec.smod 32).toNat = k.val := by decide
    exact key ⟨k, hk⟩
  rw [BitVec.sshiftRight_eq', e]
theorem ib_shl {s : Int32} {k : Nat} (hk : k < 32) : (s <<< Int32.ofNat k).toBitVec = s.toBitVec <<< k := by
  rw [Int32.toBitVec_shiftLeft]
  have e : ((Int32.ofNat k).toBitVec.smod 32).toNat = k := by
    have key : ∀ k : Fin 32, ((Int32.ofNat k.val).toBitVec.smod 32).toNat = k.val := by decide
    exact key ⟨k, hk⟩
  rw [BitVec.shiftLeft_eq', e]
/-- a digit -/
abbrev dgt (l : Int64) (i : Int) : Int := o_and (o_l2i ((l.toUInt64 >>> ((wz (wr (5 * i))).toInt64.toUInt64 &&& Int64.toUInt64 63)).toInt64)) 31
theorem and31 (v : Int32) : 0 ≤ (v &&& 31).toInt ∧ (v &&& 31).toInt ≤ 31 := by
  have e : (v &&& 31).toBitVec.toNat ≤ 31 := by
    rw [Int32.toBitVec_and, BitVec.toNat_and]; exact Nat.and_le_right
  have e2 : (v &&& 31).toInt = ((v &&& 31).toBitVec.toNat : Int) := by
    show (v &&& 31).toBitVec.toInt = _
    rw [BitVec.toInt_eq_toNat_of_lt (by omega)]
  rw [e2]; omega
theorem dgt_b (l : Int64) (i : Int) : 0 ≤ dgt l i ∧ dgt l i ≤ 31 := and31 _
theorem dgt_M {l : Int64} {i : Int} (h0 : 0 ≤ o_lcmp l (0 : Int64)) (hi : 0 ≤ i ∧ i ≤ 12) : o_l2i ((l >>> ((wz (5 * i)).toInt64 &&& 63)) &&& (31 : Int64)) = dgt l i := by
  have hm : l.toBitVec.msb = false := by
    have : ¬ l < 0 := by
      intro h
      unfold o_lcmp at h0
      rw [if_neg (by intro h'; exact absurd (Int64.lt_trans h h') (Int64.lt_irrefl)), if_neg (by intro e; rw [e] at h; exact absurd h Int64.lt_irrefl)] at h0
      omega
    rw [Int64.lt_iff_toInt_lt] at this
    rw [BitVec.msb_eq_toInt]
    exact decide_eq_false this
  unfold dgt
  rw [wr_id (by omega) (by omega), sh64 ⟨by omega, by omega⟩, sh64s ⟨by omega, by omega⟩]
  generalize hk : (5 * i).toNat = k
  have hk64 : k < 64 := by omega
  show ((l >>> Int64.ofNat k) &&& 31).toInt32.toInt = (wz (((l.toUInt64 >>> UInt64.ofNat k).toInt64).toInt32.toInt) &&& wz 31).toInt
  congr 1
  apply Int32.toBitVec_inj.mp
  rw [Int32.toBitVec_and]
  have e1 : wz (((l.toUInt64 >>> UInt64.ofNat k).toInt64).toInt32.toInt) = ((l.toUInt64 >>> UInt64.ofNat k).toInt64).toInt32 := by
    unfold wz; rw [Int32.ofInt_toInt]
  rw [e1, Int64.toBitVec_toInt32, Int64.toBitVec_toInt32, Int64.toBitVec_and, ub_shr hk64, sb_shr hk64, BitVec.sshiftRight_eq_of_msb_false hm, BitVec.signExtend_eq_setWidth_of_le _ (by decide), BitVec.signExtend_eq_setWidth_of_le _ (by decide), BitVec.setWidth_and]
  rfl
/-- a set of digits, the class's and the reference's -/
abbrev sX (s : Int64) (d : Int) : Prop := o_lcmp (((s.toUInt64 >>> ((wz d).toInt64.toUInt64 &&& Int64.toUInt64 63)).toInt64) &&& (1 : Int64)) (0 : Int64) = 0
abbrev sM (s : Int) (d : Int) : Prop := o_and (o_shr s d) 1 = 1
theorem lcmp0 {a : Int64} : o_lcmp a 0 = 0 ↔ a = 0 := by
  unfold o_lcmp
  constructor
  · intro h
    split at h
    · omega
    · split at h
      · assumption
      · omega
  · intro h; subst h; decide
theorem sX_b {s : Int64} {d : Int} (h : 0 ≤ d ∧ d < 64) : sX s d ↔ s.toBitVec.getLsbD d.toNat = false := by
  unfold sX
  rw [lcmp0, sh64 h, ← Int64.toBitVec_inj, Int64.toBitVec_and, ub_shr (by omega)]
  generalize d.toNat = k
  constructor
  · intro e
    have := congrArg (fun z => z.getLsbD 0) e
    simpa using this
  · intro e
    apply BitVec.eq_of_getLsbD_eq
    intro j hj
    simp only [BitVec.getLsbD_and, BitVec.getLsbD_ushiftRight]
    by_cases c : j = 0
    · subst c; simp [e]
    · have : (Int64.toBitVec 1).getLsbD j = false := by
        show (1#64).getLsbD j = false
        simp [BitVec.getLsbD_one, c]
      rw [this, Bool.and_false]
      show false = (0#64).getLsbD j
      simp
theorem sM_b {s : Int} {d : Int} (h : 0 ≤ d ∧ d < 32) : sM s d ↔ (wz s).toBitVec.getLsbD d.toNat = true := by
  unfold sM o_and o_shr
  have hk : d.toNat < 32 := by omega
  rw [sh32 h]
  generalize d.toNat = k at *
  have e1 : wz ((wz s >>> Int32.ofNat k).toInt) = wz s >>> Int32.ofNat k := by unfold wz; rw [Int32.ofInt_toInt]
  rw [e1]
  have e2 : ((wz s >>> Int32.ofNat k) &&& wz 1).toInt = 1 ↔ ((wz s >>> Int32.ofNat k) &&& wz 1) = wz 1 := by
    constructor
    · intro e; apply Int32.toInt_inj.mp; rw [e]; decide
    · intro e; rw [e]; decide
  rw [e2, ← Int32.toBitVec_inj, Int32.toBitVec_and, ib_shr hk]
  constructor
  · intro e
    have := congrArg (fun z => z.getLsbD 0) e
    rw [show (wz 1).toBitVec = 1#32 from rfl] at this
    simp only [BitVec.getLsbD_and, BitVec.getLsbD_sshiftRight, Nat.add_zero, if_pos hk] at this
    simp only [show (1#32).getLsbD 0 = true from rfl, Bool.and_true, Bool.and_eq_true] at this
    exact this.2
  · intro e
    apply BitVec.eq_of_getLsbD_eq
    intro j hj
    rw [show (wz 1).toBitVec = 1#32 from rfl]
    simp only [BitVec.getLsbD_and]
    by_cases c : j = 0
    · subst c; simp [BitVec.getLsbD_sshiftRight, hk, e]
    · have : (1#32).getLsbD j = false := by
        simp [BitVec.getLsbD_one, c]
      simp [this]
theorem sX_0 {d : Int} (h : 0 ≤ d ∧ d < 64) : sX 0 d := by rw [sX_b h]; show (0#64).getLsbD _ = false; simp
theorem sM_0 {d : Int} (h : 0 ≤ d ∧ d < 32) : ¬ sM 0 d := by rw [sM_b h]; show ¬ (0#32).getLsbD _ = true; simp
theorem sX_o {s : Int64} {d e : Int} (h : 0 ≤ d ∧ d < 32) (h' : 0 ≤ e ∧ e < 32) : sX (s ||| ((1 : Int64) <<< ((wz e).toInt64 &&& 63))) d ↔ (d ≠ e ∧ sX s d) := by
  rw [sX_b (by omega), sX_b (by omega), Int64.toBitVec_or, sh64s (by omega), sb_shl (by omega), show (1 : Int64).toBitVec = 1#64 from rfl]
  have hd : d.toNat < 64 := by omega
  simp only [BitVec.getLsbD_or, BitVec.getLsbD_shiftLeft, BitVec.getLsbD_one, hd, Bool.or_eq_false_iff, Bool.and_eq_false_iff]
  constructor
  · rintro ⟨a, b⟩
    refine ⟨?_, a⟩
    rintro rfl
    simp at b
  · rintro ⟨a, b⟩
    refine ⟨b, ?_⟩
    have : d.toNat ≠ e.toNat := by omega
    by_cases c : d.toNat < e.toNat
    · simp [c]
    · have : d.toNat - e.toNat ≠ 0 := by omega
      simp [this]
theorem sM_o {s d e : Int} (h : 0 ≤ d ∧ d < 32) (h' : 0 ≤ e ∧ e < 32) : sM (o_or s (o_shl 1 e)) d ↔ (d = e ∨ sM s d) := by
  rw [sM_b h, sM_b h]
  unfold o_or o_shl
  have e1 : ∀ z : Int32, wz z.toInt = z := fun z => by unfold wz; rw [Int32.ofInt_toInt]
  rw [e1, e1, sh32 h', Int32.toBitVec_or, ib_shl (by omega), show (wz 1).toBitVec = 1#32 from rfl]
  have hd : d.toNat < 32 := by omega
  simp only [BitVec.getLsbD_or, BitVec.getLsbD_shiftLeft, BitVec.getLsbD_one, hd, Bool.or_eq_true]
  constructor
  · rintro (a | a)
    · exact Or.inr a
    · left
      simp at a
      omega
  · rintro (rfl | a)
    · right; simp
    · exact Or.inl a
end Bt
