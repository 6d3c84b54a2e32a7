/-! The program's ints as whole numbers (wz), and one instruction of a run in that form. -/
def wz (z : Int) : Int32 := Int32.ofInt z
def rg (z : Int) : Prop := -2147483648 ≤ z ∧ z ≤ 2147483647
theorem wz_to {z : Int} (h : rg z) : (wz z).toInt = z := Int32.toInt_ofInt_of_le (by have := h.1; omega) (by have := h.2; omega)
theorem wz_of (x : Int32) : wz x.toInt = x := Int32.ofInt_toInt x
theorem rg_of (x : Int32) : rg x.toInt := ⟨by have := x.le_toInt; omega, by have := x.toInt_lt; omega⟩
theorem wz_add (a b : Int) : wz a + wz b = wz (a + b) := (Int32.ofInt_add a b).symm
theorem wz_sub (a b : Int) : wz a - wz b = wz (a - b) := (Int32.ofInt_sub a b).symm
theorem wz_mul (a b : Int) : wz a * wz b = wz (a * b) := (Int32.ofInt_mul a b).symm
theorem wz_neg (a : Int) : -wz a = wz (-a) := (Int32.ofInt_neg a).symm
theorem wz_lt {a b : Int} (ha : rg a) (hb : rg b) : (wz a < wz b) = (a < b) := propext (by rw [Int32.lt_iff_toInt_lt, wz_to ha, wz_to hb])
theorem wz_le {a b : Int} (ha : rg a) (hb : rg b) : (wz a ≤ wz b) = (a ≤ b) := propext (by rw [Int32.le_iff_toInt_le, wz_to ha, wz_to hb])
theorem wz_eq {a b : Int} (ha : rg a) (hb : rg b) : (wz a = wz b) = (a = b) := propext (by rw [← Int32.toInt_inj, wz_to ha, wz_to hb])
theorem rg0 : rg 0 := by unfold rg; omega
theorem wz0 : wz 0 = 0 := by decide
theorem wz1 : wz 1 = 1 := by decide
theorem wz_inj {a b : Int} (ha : rg a) (hb : rg b) (h : wz a = wz b) : a = b := by rwa [wz_eq ha hb] at h
theorem wz_nat (n : Nat) : Int32.ofNat n = wz (n : Int) := (Int32.ofInt_eq_ofNat).symm
theorem wz_k (z : Int) : am_k z = wz z := by
  cases z with
  | ofNat n => exact wz_nat n
  | negSucc n =>
    show -(Int32.ofNat (n + 1)) = wz (Int.negSucc n)
    rw [wz_nat, wz_neg]
    rfl
theorem wz_clamp {a : Int} (h : rg a) : (wz a).toNatClampNeg = a.toNat := by show (wz a).toInt.toNat = _; rw [wz_to h]
theorem wz_div {a b : Int} (ha : rg a) (hb : rg b) : wz a / wz b = wz (a.tdiv b) := (Int32.ofInt_tdiv (by have := ha.1; exact this) (by have := ha.2; exact this) (by have := hb.1; exact this) (by have := hb.2; exact this)).symm
theorem wz_max {a b : Int} (ha : rg a) (hb : rg b) : (if wz a < wz b then wz b else wz a) = wz (max a b) := by
  simp only [wz_lt ha hb]
  by_cases h : a < b
  · rw [if_pos h, Int.max_eq_right (by omega)]
  · rw [if_neg h, Int.max_eq_left (by omega)]
theorem wz_min {a b : Int} (ha : rg a) (hb : rg b) : (if wz b < wz a then wz b else wz a) = wz (min a b) := by
  simp only [wz_lt hb ha]
  by_cases h : b < a
  · rw [if_pos h, Int.min_eq_right (by omega)]
  · rw [if_neg h, Int.min_eq_left (by omega)]
theorem wz_abs {a : Int} (ha : rg a) : (if 0 ≤ wz a then wz a else 0 - wz a) = wz (a.natAbs : Int) := by
  simp only [← wz0, wz_le rg0 ha, wz_sub]
  by_cases h : 0 ≤ a
  · rw [if_pos h]; congr 1; omega
  · rw [if_neg h]; congr 1; omega
theorem wz_b01 {a : Int} (h : 0 ≤ a ∧ a ≤ 1) : am_nar 2 (wz a) = wz a := by
  have : a = 0 ∨ a = 1 := by omega
  rcases this with rfl | rfl <;> decide
def o_and (a b : Int) : Int := (wz a &&& wz b).toInt
def o_or (a b : Int) : Int := (wz a ||| wz b).toInt
def o_xor (a b : Int) : Int := (wz a ^^^ wz b).toInt
def o_shl (a b : Int) : Int := (wz a <<< (wz b &&& 31)).toInt
def o_shr (a b : Int) : Int := (wz a >>> (wz b &&& 31)).toInt
def o_ushr (a b : Int) : Int := ((wz a).toUInt32 >>> ((wz b).toUInt32 &&& Int32.toUInt32 31)).toInt32.toInt
def o_lcmp (a b : Int64) : Int := if b < a then 1 else if a = b then 0 else -1
def o_l2i (a : Int64) : Int := a.toInt32.toInt
def o_i2b (a : Int) : Int := (wz a).toInt8.toInt32.toInt
def o_i2c (a : Int) : Int := ((wz a).toUInt32 % 65536).toInt32.toInt
theorem wz_lcmp (a b : Int64) : lg_cmp a b = wz (o_lcmp a b) := by
  unfold lg_cmp o_lcmp
  by_cases h : b < a
  · rw [if_pos h, if_pos h]; rfl
  · rw [if_neg h, if_neg h]
    by_cases h2 : a = b
    · rw [if_pos h2, if_pos h2]; rfl
    · rw [if_neg h2, if_neg h2]; decide
def wr (z : Int) : Int := (wz z).toInt
theorem rg_wr (z : Int) : rg (wr z) := rg_of _
theorem wz_wr (z : Int) : wz (wr z) = wz z := wz_of _
theorem wr_id {z : Int} (h1 : -2147483648 ≤ z) (h2 : z ≤ 2147483647) : wr z = z := wz_to ⟨h1, h2⟩
theorem rg_o (x : Int32) : rg x.toInt := rg_of x
theorem rg_max {a b : Int} (ha : rg a) (hb : rg b) : rg (max a b) := by unfold rg at *; omega
theorem rg_min {a b : Int} (ha : rg a) (hb : rg b) : rg (min a b) := by unfold rg at *; omega
theorem rg_lcmp (a b : Int64) : rg (o_lcmp a b) := by unfold o_lcmp rg; split <;> (try split) <;> omega
theorem rg_tmod {a b : Int} (ha : rg a) (hb : rg b) : rg (a.tmod b) := by
  have h1 := Int.natAbs_tmod a b
  have h2 : a.natAbs % b.natAbs ≤ a.natAbs := Nat.mod_le _ _
  have h3 : a.natAbs ≤ 2147483648 := by unfold rg at ha; omega
  by_cases hb0 : b = 0
  · subst hb0; simpa using ha
  · have h4 : a.natAbs % b.natAbs < b.natAbs := Nat.mod_lt _ (by omega)
    have h5 : b.natAbs ≤ 2147483648 := by unfold rg at hb; omega
    unfold rg
    omega
theorem rg_ite {c : Prop} [Decidable c] {a b : Int} (ha : c → rg a) (hb : ¬ c → rg b) : rg (if c then a else b) := by
  by_cases h : c
  · rw [if_pos h]; exact ha h
  · rw [if_neg h]; exact hb h
noncomputable def dn (d m : Nat) (as : List am_V) (s : am_S) : Option am_R := am_den am_dfl am_pg d m as s
noncomputable def mr (d : Nat) (P : Nat → Option am_E) (pc : Nat) (lo : am_L) (st : List am_V) (s : am_S) : Option am_R := am_run am_dfl (dn d) P pc lo st s
theorem dn_s {d m : Nat} {P : Nat → Option am_E} {n : Nat} {as : List am_V} {lo : am_L} {s : am_S} (h : am_pg m = some (P, n)) (hl : am_ent as n = lo) (hn : Nat.ble (am_lo as).length n = true) : dn (d + 1) m as s = mr d P 0 lo [] s := by
  show am_den am_dfl am_pg (d + 1) m as s = _
  unfold am_den
  rw [h]
  subst hl
  exact if_pos (Nat.le_of_ble_eq_true hn)
section Mx
variable {d : Nat} {P : Nat → Option am_E} {pc q y : Nat} {y3 : Int} {v : Int32} {lo lo' : am_L} {st : List am_V} {s : am_S} {ks : List Nat} {ln : Nat} {x : am_X} {i : Instr}
theorem mx (h : P pc = some (ks, i, ln, x)) (hk : am_kill ks lo = lo) : mr d P pc lo st s = am_st am_dfl (dn d) some (mr d P) pc lo st s i x := by
  show am_run am_dfl (dn d) P pc lo st s = _
  rw [am_run_eq]
  unfold am_sx
  rw [h]
  show am_st am_dfl (dn d) some (am_run am_dfl (dn d) P) pc (am_kill ks lo) st s i x = _
  rw [hk]
  rfl
theorem mk (h : P pc = some (ks, i, ln, x)) (hk : am_kill ks lo = lo') : mr d P pc lo st s = mr d P pc lo' st s := by
  show am_run am_dfl (dn d) P pc lo st s = am_run am_dfl (dn d) P pc lo' st s
  rw [am_run_kill]
  unfold am_kp
  rw [h]
  show am_run am_dfl (dn d) P pc (am_kill ks lo) st s = _
  rw [hk]

theorem m_iconst {j : Int} {z : Int} {y y2 : Nat} (h : P pc = some (ks, .iconst j, ln, (y, y2, z))) (hk : am_kill ks lo = lo) (hq : pc + 1 = q) : mr d P pc lo (st) s = mr d P q lo (am_i (wz z) :: st) s := by
  subst hq
  rw [mx h hk, ← wz_k]; rfl
theorem m_bipush {j : Int} {z : Int} {y y2 : Nat} (h : P pc = some (ks, .bipush j, ln, (y, y2, z))) (hk : am_kill ks lo = lo) (hq : pc + 2 = q) : mr d P pc lo (st) s = mr d P q lo (am_i (wz z) :: st) s := by
  subst hq
  rw [mx h hk, ← wz_k]; rfl
theorem m_sipush {j : Int} {z : Int} {y y2 : Nat} (h : P pc = some (ks, .sipush j, ln, (y, y2, z))) (hk : am_kill ks lo = lo) (hq : pc + 3 = q) : mr d P pc lo (st) s = mr d P q lo (am_i (wz z) :: st) s := by
  subst hq
  rw [mx h hk, ← wz_k]; rfl
theorem m_ldc_w {j : Nat} {z : Int} {y y2 : Nat} (h : P pc = some (ks, .ldc_w j, ln, (y, y2, z))) (hk : am_kill ks lo = lo) (hq : pc + 3 = q) : mr d P pc lo (st) s = mr d P q lo (am_i (wz z) :: st) s := by
  subst hq
  rw [mx h hk, ← wz_k]; rfl
theorem m_ldci {j : Nat} {y : Nat} {z : Int} (h : P pc = some (ks, .ldc j, ln, (0, y, z))) (hk : am_kill ks lo = lo) (hq : pc + 2 = q) : mr d P pc lo (st) s = mr d P q lo (am_i (wz z) :: st) s := by
  subst hq
  rw [mx h hk, ← wz_k]; rfl
theorem m_ldcr {j : Nat} {n y : Nat} {z : Int} (h : P pc = some (ks, .ldc j, ln, (n + 1, y, z))) (hk : am_kill ks lo = lo) (hq : pc + 2 = q) : mr d P pc lo (st) s = mr d P q lo (am_r (some y) :: st) s := by
  subst hq
  rw [mx h hk]; rfl
theorem m_ldc2_w {j : Nat} {z : Int} {y y2 : Nat} (h : P pc = some (ks, .ldc2_w j, ln, (y, y2, z))) (hk : am_kill ks lo = lo) (hq : pc + 3 = q) : mr d P pc lo (st) s = mr d P q lo (am_l (am_kl z) :: st) s := by
  subst hq
  rw [mx h hk]; rfl
theorem m_lconst {j : Fin 2} {z : Int} {y y2 : Nat} (h : P pc = some (ks, .lconst j, ln, (y, y2, z))) (hk : am_kill ks lo = lo) (hq : pc + 1 = q) : mr d P pc lo (st) s = mr d P q lo (am_l (am_kl z) :: st) s := by
  subst hq
  rw [mx h hk]; rfl
theorem m_aconst_null (h : P pc = some (ks, .aconst_null, ln, x)) (hk : am_kill ks lo = lo) (hq : pc + 1 = q) : mr d P pc lo (st) s = mr d P q lo (am_r none :: st) s := by
  subst hq
  rw [mx h hk]; rfl
theorem m_iload {k : Nat} {v : Int32} (h : P pc = some (ks, .iload k, ln, x)) (hk : am_kill ks lo = lo) (hl : lo[k]? = some (some (am_i v))) (hq : pc + 2 = q) : mr d P pc lo (st) s = mr d P q lo (am_i v :: st) s := by
  subst hq
  rw [mx h hk]; show am_ldi lo k _ = _; unfold am_ldi; rw [hl]
theorem m_iload_n {k : Fin 4} {v : Int32} (h : P pc = some (ks, .iload_n k, ln, x)) (hk : am_kill ks lo = lo) (hl : lo[k.val]? = some (some (am_i v))) (hq : pc + 1 = q) : mr d P pc lo (st) s = mr d P q lo (am_i v :: st) s := by
  subst hq
  rw [mx h hk]; show am_ldi lo k _ = _; unfold am_ldi; rw [hl]
theorem m_lload {k : Nat} {v : Int64} (h : P pc = some (ks, .lload k, ln, x)) (hk : am_kill ks lo = lo) (hl : lo[k]? = some (some (am_l v))) (hq : pc + 2 = q) : mr d P pc lo (st) s = mr d P q lo (am_l v :: st) s := by
  subst hq
  rw [mx h hk]; show am_ldl lo k _ = _; unfold am_ldl; rw [hl]
theorem m_lload_n {k : Fin 4} {v : Int64} (h : P pc = some (ks, .lload_n k, ln, x)) (hk : am_kill ks lo = lo) (hl : lo[k.val]? = some (some (am_l v))) (hq : pc + 1 = q) : mr d P pc lo (st) s = mr d P q lo (am_l v :: st) s := by
  subst hq
  rw [mx h hk]; show am_ldl lo k _ = _; unfold am_ldl; rw [hl]
theorem m_aload {k : Nat} {v : Option Nat} (h : P pc = some (ks, .aload k, ln, x)) (hk : am_kill ks lo = lo) (hl : lo[k]? = some (some (am_r v))) (hq : pc + 2 = q) : mr d P pc lo (st) s = mr d P q lo (am_r v :: st) s := by
  subst hq
  rw [mx h hk]; show am_ldr lo k _ = _; unfold am_ldr; rw [hl]
theorem m_aload_n {k : Fin 4} {v : Option Nat} (h : P pc = some (ks, .aload_n k, ln, x)) (hk : am_kill ks lo = lo) (hl : lo[k.val]? = some (some (am_r v))) (hq : pc + 1 = q) : mr d P pc lo (st) s = mr d P q lo (am_r v :: st) s := by
  subst hq
  rw [mx h hk]; show am_ldr lo k _ = _; unfold am_ldr; rw [hl]
theorem m_istore {k : Nat} {v : Int32} (h : P pc = some (ks, .istore k, ln, x)) (hk : am_kill ks lo = lo) (hl : Nat.ble (k + 1) lo.length = true) (he : am_sto lo k (am_i v) = lo') (hq : pc + 2 = q) : mr d P pc lo (am_i v :: st) s = mr d P q lo' (st) s := by
  subst hq
  subst he; rw [mx h hk]; exact if_pos (Nat.le_of_ble_eq_true hl)
theorem m_istore_n {k : Fin 4} {v : Int32} (h : P pc = some (ks, .istore_n k, ln, x)) (hk : am_kill ks lo = lo) (hl : Nat.ble (k.val + 1) lo.length = true) (he : am_sto lo k.val (am_i v) = lo') (hq : pc + 1 = q) : mr d P pc lo (am_i v :: st) s = mr d P q lo' (st) s := by
  subst hq
  subst he; rw [mx h hk]; exact if_pos (Nat.le_of_ble_eq_true hl)
theorem m_lstore {k : Nat} {v : Int64} (h : P pc = some (ks, .lstore k, ln, x)) (hk : am_kill ks lo = lo) (hl : Nat.ble (k + 1 + 1) lo.length = true) (he : am_sto2 lo k (am_l v) = lo') (hq : pc + 2 = q) : mr d P pc lo (am_l v :: st) s = mr d P q lo' (st) s := by
  subst hq
  subst he; rw [mx h hk]; exact if_pos (Nat.le_of_ble_eq_true hl)
theorem m_lstore_n {k : Fin 4} {v : Int64} (h : P pc = some (ks, .lstore_n k, ln, x)) (hk : am_kill ks lo = lo) (hl : Nat.ble (k.val + 1 + 1) lo.length = true) (he : am_sto2 lo k.val (am_l v) = lo') (hq : pc + 1 = q) : mr d P pc lo (am_l v :: st) s = mr d P q lo' (st) s := by
  subst hq
  subst he; rw [mx h hk]; exact if_pos (Nat.le_of_ble_eq_true hl)
theorem m_astore {k : Nat} {v : Option Nat} (h : P pc = some (ks, .astore k, ln, x)) (hk : am_kill ks lo = lo) (hl : Nat.ble (k + 1) lo.length = true) (he : am_sto lo k (am_r v) = lo') (hq : pc + 2 = q) : mr d P pc lo (am_r v :: st) s = mr d P q lo' (st) s := by
  subst hq
  subst he; rw [mx h hk]; exact if_pos (Nat.le_of_ble_eq_true hl)
theorem m_astore_n {k : Fin 4} {v : Option Nat} (h : P pc = some (ks, .astore_n k, ln, x)) (hk : am_kill ks lo = lo) (hl : Nat.ble (k.val + 1) lo.length = true) (he : am_sto lo k.val (am_r v) = lo') (hq : pc + 1 = q) : mr d P pc lo (am_r v :: st) s = mr d P q lo' (st) s := by
  subst hq
  subst he; rw [mx h hk]; exact if_pos (Nat.le_of_ble_eq_true hl)
theorem m_iinc {k : Nat} {a z w : Int} (h : P pc = some (ks, .iinc k z, ln, x)) (hk : am_kill ks lo = lo) (hl : lo[k]? = some (some (am_i (wz a)))) (hn : Nat.ble (k + 1) lo.length = true) (hw : wr (a + z) = w) (he : am_sto lo k (am_i (wz w)) = lo') (hq : pc + 3 = q) : mr d P pc lo (st) s = mr d P q lo' (st) s := by
  subst hq
  subst he; subst hw; rw [mx h hk, wz_wr, ← wz_add, ← wz_k z]; show am_ldi lo k _ = _; unfold am_ldi; rw [hl]; exact if_pos (Nat.le_of_ble_eq_true hn)
theorem m_popi {v : Int32} (h : P pc = some (ks, .pop, ln, x)) (hk : am_kill ks lo = lo) (hq : pc + 1 = q) : mr d P pc lo (am_i v :: st) s = mr d P q lo (st) s := by
  subst hq
  rw [mx h hk]; rfl
theorem m_popr {v : Option Nat} (h : P pc = some (ks, .pop, ln, x)) (hk : am_kill ks lo = lo) (hq : pc + 1 = q) : mr d P pc lo (am_r v :: st) s = mr d P q lo (st) s := by
  subst hq
  rw [mx h hk]; rfl
theorem m_dup {v : am_V} (h : P pc = some (ks, .dup, ln, x)) (hk : am_kill ks lo = lo) (hc : am_cat v = 1) (hq : pc + 1 = q) : mr d P pc lo (v :: st) s = mr d P q lo (v :: v :: st) s := by
  subst hq
  rw [mx h hk]; exact if_pos hc
theorem m_dup_x1 {u v : am_V} (h : P pc = some (ks, .dup_x1, ln, x)) (hk : am_kill ks lo = lo) (hu : am_cat u = 1) (hc : am_cat v = 1) (hq : pc + 1 = q) : mr d P pc lo (u :: v :: st) s = mr d P q lo (u :: v :: u :: st) s := by
  subst hq
  rw [mx h hk]; exact if_pos ⟨hu, hc⟩
theorem m_dup2 {u v : am_V} (h : P pc = some (ks, .dup2, ln, x)) (hk : am_kill ks lo = lo) (hu : am_cat u = 1) (hc : am_cat v = 1) (hq : pc + 1 = q) : mr d P pc lo (u :: v :: st) s = mr d P q lo (u :: v :: u :: v :: st) s := by
  subst hq
  rw [mx h hk]; exact if_pos ⟨hu, hc⟩
theorem m_iadd {a b : Int} (h : P pc = some (ks, .iadd, ln, x)) (hk : am_kill ks lo = lo) (hq : pc + 1 = q) : mr d P pc lo (am_i (wz b) :: am_i (wz a) :: st) s = mr d P q lo (am_i (wz (wr (a + b))) :: st) s := by
  subst hq
  rw [mx h hk, wz_wr, ← wz_add]; rfl
theorem m_isub {a b : Int} (h : P pc = some (ks, .isub, ln, x)) (hk : am_kill ks lo = lo) (hq : pc + 1 = q) : mr d P pc lo (am_i (wz b) :: am_i (wz a) :: st) s = mr d P q lo (am_i (wz (wr (a - b))) :: st) s := by
  subst hq
  rw [mx h hk, wz_wr, ← wz_sub]; rfl
theorem m_imul {a b : Int} (h : P pc = some (ks, .imul, ln, x)) (hk : am_kill ks lo = lo) (hq : pc + 1 = q) : mr d P pc lo (am_i (wz b) :: am_i (wz a) :: st) s = mr d P q lo (am_i (wz (wr (a * b))) :: st) s := by
  subst hq
  rw [mx h hk, wz_wr, ← wz_mul]; rfl
theorem m_iand {a b : Int} (h : P pc = some (ks, .iand, ln, x)) (hk : am_kill ks lo = lo) (hq : pc + 1 = q) : mr d P pc lo (am_i (wz b) :: am_i (wz a) :: st) s = mr d P q lo (am_i (wz (o_and a b)) :: st) s := by
  subst hq
  rw [mx h hk]; unfold o_and; rw [wz_of]; rfl
theorem m_ior {a b : Int} (h : P pc = some (ks, .ior, ln, x)) (hk : am_kill ks lo = lo) (hq : pc + 1 = q) : mr d P pc lo (am_i (wz b) :: am_i (wz a) :: st) s = mr d P q lo (am_i (wz (o_or a b)) :: st) s := by
  subst hq
  rw [mx h hk]; unfold o_or; rw [wz_of]; rfl
theorem m_ixor {a b : Int} (h : P pc = some (ks, .ixor, ln, x)) (hk : am_kill ks lo = lo) (hq : pc + 1 = q) : mr d P pc lo (am_i (wz b) :: am_i (wz a) :: st) s = mr d P q lo (am_i (wz (o_xor a b)) :: st) s := by
  subst hq
  rw [mx h hk]; unfold o_xor; rw [wz_of]; rfl
theorem m_ishl {a b : Int} (h : P pc = some (ks, .ishl, ln, x)) (hk : am_kill ks lo = lo) (hq : pc + 1 = q) : mr d P pc lo (am_i (wz b) :: am_i (wz a) :: st) s = mr d P q lo (am_i (wz (o_shl a b)) :: st) s := by
  subst hq
  rw [mx h hk]; unfold o_shl; rw [wz_of]; rfl
theorem m_ishr {a b : Int} (h : P pc = some (ks, .ishr, ln, x)) (hk : am_kill ks lo = lo) (hq : pc + 1 = q) : mr d P pc lo (am_i (wz b) :: am_i (wz a) :: st) s = mr d P q lo (am_i (wz (o_shr a b)) :: st) s := by
  subst hq
  rw [mx h hk]; unfold o_shr; rw [wz_of]; rfl
theorem m_iushr {a b : Int} (h : P pc = some (ks, .iushr, ln, x)) (hk : am_kill ks lo = lo) (hq : pc + 1 = q) : mr d P pc lo (am_i (wz b) :: am_i (wz a) :: st) s = mr d P q lo (am_i (wz (o_ushr a b)) :: st) s := by
  subst hq
  rw [mx h hk]; unfold o_ushr; rw [wz_of]; rfl
theorem m_ineg {a : Int} (h : P pc = some (ks, .ineg, ln, x)) (hk : am_kill ks lo = lo) (hq : pc + 1 = q) : mr d P pc lo (am_i (wz a) :: st) s = mr d P q lo (am_i (wz (wr (-a))) :: st) s := by
  subst hq
  rw [mx h hk, wz_wr, ← wz_neg]; rfl
theorem m_i2b {a : Int} (h : P pc = some (ks, .i2b, ln, x)) (hk : am_kill ks lo = lo) (hq : pc + 1 = q) : mr d P pc lo (am_i (wz a) :: st) s = mr d P q lo (am_i (wz (o_i2b a)) :: st) s := by
  subst hq
  rw [mx h hk]; unfold o_i2b; rw [wz_of]; rfl
theorem m_i2c {a : Int} (h : P pc = some (ks, .i2c, ln, x)) (hk : am_kill ks lo = lo) (hq : pc + 1 = q) : mr d P pc lo (am_i (wz a) :: st) s = mr d P q lo (am_i (wz (o_i2c a)) :: st) s := by
  subst hq
  rw [mx h hk]; unfold o_i2c; rw [wz_of]; rfl
theorem m_l2i {a : Int64} (h : P pc = some (ks, .l2i, ln, x)) (hk : am_kill ks lo = lo) (hq : pc + 1 = q) : mr d P pc lo (am_l a :: st) s = mr d P q lo (am_i (wz (o_l2i a)) :: st) s := by
  subst hq
  rw [mx h hk]; unfold o_l2i; rw [wz_of]; rfl
theorem m_i2l {a : Int} (h : P pc = some (ks, .i2l, ln, x)) (hk : am_kill ks lo = lo) (hq : pc + 1 = q) : mr d P pc lo (am_i (wz a) :: st) s = mr d P q lo (am_l (wz a).toInt64 :: st) s := by
  subst hq
  rw [mx h hk]; rfl
theorem m_lcmp {a b : Int64} (h : P pc = some (ks, .lcmp, ln, x)) (hk : am_kill ks lo = lo) (hq : pc + 1 = q) : mr d P pc lo (am_l b :: am_l a :: st) s = mr d P q lo (am_i (wz (o_lcmp a b)) :: st) s := by
  subst hq
  rw [mx h hk, ← wz_lcmp]; rfl
theorem m_land {a b : Int64} (h : P pc = some (ks, .land, ln, x)) (hk : am_kill ks lo = lo) (hq : pc + 1 = q) : mr d P pc lo (am_l b :: am_l a :: st) s = mr d P q lo (am_l (a &&& b) :: st) s := by
  subst hq
  rw [mx h hk]; rfl
theorem m_lor {a b : Int64} (h : P pc = some (ks, .lor, ln, x)) (hk : am_kill ks lo = lo) (hq : pc + 1 = q) : mr d P pc lo (am_l b :: am_l a :: st) s = mr d P q lo (am_l (a ||| b) :: st) s := by
  subst hq
  rw [mx h hk]; rfl
theorem m_lxor {a b : Int64} (h : P pc = some (ks, .lxor, ln, x)) (hk : am_kill ks lo = lo) (hq : pc + 1 = q) : mr d P pc lo (am_l b :: am_l a :: st) s = mr d P q lo (am_l (a ^^^ b) :: st) s := by
  subst hq
  rw [mx h hk]; rfl
theorem m_lshl {a : Int64} {b : Int} (h : P pc = some (ks, .lshl, ln, x)) (hk : am_kill ks lo = lo) (hq : pc + 1 = q) : mr d P pc lo (am_i (wz b) :: am_l a :: st) s = mr d P q lo (am_l (a <<< ((wz b).toInt64 &&& 63)) :: st) s := by
  subst hq
  rw [mx h hk]; rfl
theorem m_lshr {a : Int64} {b : Int} (h : P pc = some (ks, .lshr, ln, x)) (hk : am_kill ks lo = lo) (hq : pc + 1 = q) : mr d P pc lo (am_i (wz b) :: am_l a :: st) s = mr d P q lo (am_l (a >>> ((wz b).toInt64 &&& 63)) :: st) s := by
  subst hq
  rw [mx h hk]; rfl
theorem m_lushr {a : Int64} {b : Int} (h : P pc = some (ks, .lushr, ln, x)) (hk : am_kill ks lo = lo) (hq : pc + 1 = q) : mr d P pc lo (am_i (wz b) :: am_l a :: st) s = mr d P q lo (am_l (a.toUInt64 >>> ((wz b).toInt64.toUInt64 &&& Int64.toUInt64 63)).toInt64 :: st) s := by
  subst hq
  rw [mx h hk]; rfl
theorem m_idiv {a b : Int} (h : P pc = some (ks, .idiv, ln, x)) (hk : am_kill ks lo = lo) (ha : rg a) (hb : rg b) (h0 : b ≠ 0) (hq : pc + 1 = q) : mr d P pc lo (am_i (wz b) :: am_i (wz a) :: st) s = mr d P q lo (am_i (wz (wr (a.tdiv b))) :: st) s := by
  subst hq
  rw [mx h hk, wz_wr, ← wz_div ha hb]; exact if_neg (fun e => h0 (wz_inj hb rg0 (e.trans wz0.symm)))
theorem m_irem {a b : Int} (h : P pc = some (ks, .irem, ln, x)) (hk : am_kill ks lo = lo) (ha : rg a) (hb : rg b) (h0 : b ≠ 0) (hq : pc + 1 = q) : mr d P pc lo (am_i (wz b) :: am_i (wz a) :: st) s = mr d P q lo (am_i (wz (a.tmod b)) :: st) s := by
  subst hq
  have e : wz (a.tmod b) = wz a - wz a / wz b * wz b := by
    rw [wz_div ha hb, wz_mul, wz_sub]
    congr 1
    have := Int.mul_tdiv_add_tmod a b
    rw [Int.mul_comm b] at this
    omega
  rw [mx h hk, e]
  exact if_neg (fun e => h0 (wz_inj hb rg0 (e.trans wz0.symm)))
theorem m_goto {off : Int} (h : P pc = some (ks, .goto off, ln, x)) (hk : am_kill ks lo = lo) (hq : am_tg pc off = q) : mr d P pc lo st s = mr d P q lo st s := by
  subst hq; rw [mx h hk]; rfl
theorem m_getstai {j : Nat} {z : Int} {y : Nat} (h : P pc = some (ks, .getstatic j, ln, (0, y, z))) (hk : am_kill ks lo = lo) (hq : pc + 3 = q) : mr d P pc lo (st) s = mr d P q lo (am_i (wz z) :: st) s := by
  subst hq
  rw [mx h hk, ← wz_k]; rfl
theorem m_getstar {j : Nat} {n y : Nat} {z : Int} (h : P pc = some (ks, .getstatic j, ln, (n + 1, y, z))) (hk : am_kill ks lo = lo) (hq : pc + 3 = q) : mr d P pc lo (st) s = mr d P q lo (am_r (some y) :: st) s := by
  subst hq
  rw [mx h hk]; rfl
theorem m_max {a b : Int} {y n j : Nat} (h : P pc = some (ks, .invokestatic j, ln, (y, n, 10))) (hk : am_kill ks lo = lo) (hs : Nat.ble ((st.map am_cat).sum) 8 = true) (ha : rg a) (hb : rg b) (hq : pc + 3 = q) : mr d P pc lo (am_i (wz b) :: am_i (wz a) :: st) s = mr d P q lo (am_i (wz (max a b)) :: st) s := by
  subst hq
  rw [mx h hk, ← wz_max ha hb]; exact if_pos (Nat.le_of_ble_eq_true hs)
theorem m_min {a b : Int} {y n j : Nat} (h : P pc = some (ks, .invokestatic j, ln, (y, n, 11))) (hk : am_kill ks lo = lo) (hs : Nat.ble ((st.map am_cat).sum) 8 = true) (ha : rg a) (hb : rg b) (hq : pc + 3 = q) : mr d P pc lo (am_i (wz b) :: am_i (wz a) :: st) s = mr d P q lo (am_i (wz (min a b)) :: st) s := by
  subst hq
  rw [mx h hk, ← wz_min ha hb]; exact if_pos (Nat.le_of_ble_eq_true hs)
theorem m_abs {a : Int} {y n j : Nat} (h : P pc = some (ks, .invokestatic j, ln, (y, n, 12))) (hk : am_kill ks lo = lo) (hs : Nat.ble ((st.map am_cat).sum) 8 = true) (ha : rg a) (hq : pc + 3 = q) : mr d P pc lo (am_i (wz a) :: st) s = mr d P q lo (am_i (wz (wr (a.natAbs : Int))) :: st) s := by
  subst hq
  rw [mx h hk, wz_wr, ← wz_abs ha]; exact if_pos (Nat.le_of_ble_eq_true hs)
theorem m_ifeq {a off : Int} {qt qf : Nat} (h : P pc = some (ks, .ifCond .eq off, ln, x)) (hk : am_kill ks lo = lo) (ha : rg a) (ht : am_tg pc off = qt) (hf : pc + 3 = qf) : mr d P pc lo (am_i (wz a) :: st) s = if a = 0 then mr d P qt lo st s else mr d P qf lo st s := by
  subst ht; subst hf; rw [mx h hk]; show (if wz a = 0 then _ else _) = _; simp only [ne_eq, ← wz0, wz_eq ha rg0]
theorem m_ifne {a off : Int} {qt qf : Nat} (h : P pc = some (ks, .ifCond .ne off, ln, x)) (hk : am_kill ks lo = lo) (ha : rg a) (ht : am_tg pc off = qt) (hf : pc + 3 = qf) : mr d P pc lo (am_i (wz a) :: st) s = if a = 0 then mr d P qf lo st s else mr d P qt lo st s := by
  subst ht; subst hf; rw [mx h hk]; show (if wz a ≠ 0 then _ else _) = _; simp only [ne_eq, ← wz0, wz_eq ha rg0, ite_not]
theorem m_iflt {a off : Int} {qt qf : Nat} (h : P pc = some (ks, .ifCond .lt off, ln, x)) (hk : am_kill ks lo = lo) (ha : rg a) (ht : am_tg pc off = qt) (hf : pc + 3 = qf) : mr d P pc lo (am_i (wz a) :: st) s = if a < 0 then mr d P qt lo st s else mr d P qf lo st s := by
  subst ht; subst hf; rw [mx h hk]; show (if wz a < 0 then _ else _) = _; simp only [ne_eq, ← wz0, wz_lt ha rg0]
theorem m_ifge {a off : Int} {qt qf : Nat} (h : P pc = some (ks, .ifCond .ge off, ln, x)) (hk : am_kill ks lo = lo) (ha : rg a) (ht : am_tg pc off = qt) (hf : pc + 3 = qf) : mr d P pc lo (am_i (wz a) :: st) s = if 0 ≤ a then mr d P qt lo st s else mr d P qf lo st s := by
  subst ht; subst hf; rw [mx h hk]; show (if 0 ≤ wz a then _ else _) = _; simp only [ne_eq, ← wz0, wz_le rg0 ha]
theorem m_ifgt {a off : Int} {qt qf : Nat} (h : P pc = some (ks, .ifCond .gt off, ln, x)) (hk : am_kill ks lo = lo) (ha : rg a) (ht : am_tg pc off = qt) (hf : pc + 3 = qf) : mr d P pc lo (am_i (wz a) :: st) s = if 0 < a then mr d P qt lo st s else mr d P qf lo st s := by
  subst ht; subst hf; rw [mx h hk]; show (if 0 < wz a then _ else _) = _; simp only [ne_eq, ← wz0, wz_lt rg0 ha]
theorem m_ifle {a off : Int} {qt qf : Nat} (h : P pc = some (ks, .ifCond .le off, ln, x)) (hk : am_kill ks lo = lo) (ha : rg a) (ht : am_tg pc off = qt) (hf : pc + 3 = qf) : mr d P pc lo (am_i (wz a) :: st) s = if a ≤ 0 then mr d P qt lo st s else mr d P qf lo st s := by
  subst ht; subst hf; rw [mx h hk]; show (if wz a ≤ 0 then _ else _) = _; simp only [ne_eq, ← wz0, wz_le ha rg0]
theorem m_cmpeq {a b off : Int} {qt qf : Nat} (h : P pc = some (ks, .if_icmp .eq off, ln, x)) (hk : am_kill ks lo = lo) (ha : rg a) (hb : rg b) (ht : am_tg pc off = qt) (hf : pc + 3 = qf) : mr d P pc lo (am_i (wz b) :: am_i (wz a) :: st) s = if a = b then mr d P qt lo st s else mr d P qf lo st s := by
  subst ht; subst hf; rw [mx h hk]; show (if wz a = wz b then _ else _) = _; simp only [ne_eq, wz_eq ha hb]
theorem m_cmpne {a b off : Int} {qt qf : Nat} (h : P pc = some (ks, .if_icmp .ne off, ln, x)) (hk : am_kill ks lo = lo) (ha : rg a) (hb : rg b) (ht : am_tg pc off = qt) (hf : pc + 3 = qf) : mr d P pc lo (am_i (wz b) :: am_i (wz a) :: st) s = if a = b then mr d P qf lo st s else mr d P qt lo st s := by
  subst ht; subst hf; rw [mx h hk]; show (if wz a ≠ wz b then _ else _) = _; simp only [ne_eq, wz_eq ha hb, ite_not]
theorem m_cmplt {a b off : Int} {qt qf : Nat} (h : P pc = some (ks, .if_icmp .lt off, ln, x)) (hk : am_kill ks lo = lo) (ha : rg a) (hb : rg b) (ht : am_tg pc off = qt) (hf : pc + 3 = qf) : mr d P pc lo (am_i (wz b) :: am_i (wz a) :: st) s = if a < b then mr d P qt lo st s else mr d P qf lo st s := by
  subst ht; subst hf; rw [mx h hk]; show (if wz a < wz b then _ else _) = _; simp only [ne_eq, wz_lt ha hb]
theorem m_cmpge {a b off : Int} {qt qf : Nat} (h : P pc = some (ks, .if_icmp .ge off, ln, x)) (hk : am_kill ks lo = lo) (ha : rg a) (hb : rg b) (ht : am_tg pc off = qt) (hf : pc + 3 = qf) : mr d P pc lo (am_i (wz b) :: am_i (wz a) :: st) s = if b ≤ a then mr d P qt lo st s else mr d P qf lo st s := by
  subst ht; subst hf; rw [mx h hk]; show (if wz b ≤ wz a then _ else _) = _; simp only [ne_eq, wz_le hb ha]
theorem m_cmpgt {a b off : Int} {qt qf : Nat} (h : P pc = some (ks, .if_icmp .gt off, ln, x)) (hk : am_kill ks lo = lo) (ha : rg a) (hb : rg b) (ht : am_tg pc off = qt) (hf : pc + 3 = qf) : mr d P pc lo (am_i (wz b) :: am_i (wz a) :: st) s = if b < a then mr d P qt lo st s else mr d P qf lo st s := by
  subst ht; subst hf; rw [mx h hk]; show (if wz b < wz a then _ else _) = _; simp only [ne_eq, wz_lt hb ha]
theorem m_cmple {a b off : Int} {qt qf : Nat} (h : P pc = some (ks, .if_icmp .le off, ln, x)) (hk : am_kill ks lo = lo) (ha : rg a) (hb : rg b) (ht : am_tg pc off = qt) (hf : pc + 3 = qf) : mr d P pc lo (am_i (wz b) :: am_i (wz a) :: st) s = if a ≤ b then mr d P qt lo st s else mr d P qf lo st s := by
  subst ht; subst hf; rw [mx h hk]; show (if wz a ≤ wz b then _ else _) = _; simp only [ne_eq, wz_le ha hb]
def o_sw {ρ : Type} (a : Int) : Int → List Nat → (Nat → ρ) → ρ → ρ
  | _, [], _, d => d
  | k, o :: os, g, d => if a = k then g o else o_sw a (k + 1) os g d
theorem o_sw_eq {a : Int} {ρ : Type} (ha : rg a) {pc : Nat} {os : List Int} {g : Nat → Option ρ} {dd : Option ρ} : ∀ {k : Nat}, k + os.length ≤ 1000000 → am_sw (wz a) k os (fun o => g (am_tg pc o)) dd = o_sw a (k : Int) (os.map (am_tg pc)) g dd := by
  induction os with
  | nil => intro k h; rfl
  | cons o os ih =>
    intro k h
    simp only [List.length_cons] at h
    show (if wz a = Int32.ofNat k then g (am_tg pc o) else am_sw (wz a) (k + 1) os _ dd) = (if a = ((k : Nat) : Int) then g (am_tg pc o) else o_sw a (((k : Nat) : Int) + 1) (os.map (am_tg pc)) g dd)
    have hk : rg (k : Int) := by unfold rg; omega
    have e : ((k : Nat) : Int) + 1 = ((k + 1 : Nat) : Int) := by omega
    rw [e, ← ih (by omega)]
    simp only [wz_nat, wz_eq ha hk]
theorem m_tsw {a : Int} {df lw hi z : Int} {offs : Array Int} {qs : List Nat} {qd : Nat} (h : P pc = some (ks, .tableswitch df lw hi offs, ln, x)) (hk : am_kill ks lo = lo) (ha : rg a) (hz : Nat.ble (lw.toNat + offs.toList.length) 1000000 = true) (hw : ((lw.toNat : Nat) : Int) = z) (hs : offs.toList.map (am_tg pc) = qs) (hd : am_tg pc df = qd) : mr d P pc lo (am_i (wz a) :: st) s = o_sw a z qs (fun o => mr d P o lo st s) (mr d P qd lo st s) := by
  subst hs; subst hd; subst hw
  rw [mx h hk]
  exact o_sw_eq (g := fun o => mr d P o lo st s) ha (Nat.le_of_ble_eq_true hz)
theorem m_ifnull {off : Int} {r : Option Nat} {qt qf : Nat} (h : P pc = some (ks, .ifnull off, ln, x)) (hk : am_kill ks lo = lo) (ht : am_tg pc off = qt) (hf : pc + 3 = qf) : mr d P pc lo (am_r r :: st) s = am_ifn r (mr d P qt lo st s) (mr d P qf lo st s) := by
  subst ht; subst hf; rw [mx h hk]; rfl
theorem m_ifnonnull {off : Int} {r : Option Nat} {qt qf : Nat} (h : P pc = some (ks, .ifnonnull off, ln, x)) (hk : am_kill ks lo = lo) (ht : am_tg pc off = qt) (hf : pc + 3 = qf) : mr d P pc lo (am_r r :: st) s = am_ifn r (mr d P qf lo st s) (mr d P qt lo st s) := by
  subst ht; subst hf; rw [mx h hk]; rfl
theorem m_reti (h : P pc = some (ks, .ireturn, ln, (0, y, y3))) (hk : am_kill ks lo = lo) : mr d P pc lo [am_i v] s = some (some (am_i v), s) := by
  rw [mx h hk]; rfl
theorem m_retb {a : Int} (h : P pc = some (ks, .ireturn, ln, (2, y, y3))) (hk : am_kill ks lo = lo) (ha : 0 ≤ a ∧ a ≤ 1) : mr d P pc lo [am_i (wz a)] s = some (some (am_i (wz a)), s) := by
  rw [mx h hk]
  exact if_pos (wz_b01 ha)
theorem m_retl {v : Int64} (h : P pc = some (ks, .lreturn, ln, x)) (hk : am_kill ks lo = lo) : mr d P pc lo [am_l v] s = some (some (am_l v), s) := by rw [mx h hk]; rfl
theorem m_retr {v : Option Nat} (h : P pc = some (ks, .areturn, ln, x)) (hk : am_kill ks lo = lo) : mr d P pc lo [am_r v] s = some (some (am_r v), s) := by rw [mx h hk]; rfl
theorem m_retv (h : P pc = some (ks, .return_, ln, x)) (hk : am_kill ks lo = lo) : mr d P pc lo [] s = some (none, s) := by rw [mx h hk]; rfl
end Mx
theorem bd_of {α ρ : Type} {o : Option α} {v : α} (h : o = some v) (k : α → Option ρ) : o.bind k = k v := by subst h; rfl
