/-! One instruction, a run of a method's body, answers by depth of calls. -/
def am_k (z : Int) : Int32 := match z with
  | .ofNat n => OfNat.ofNat n
  | .negSucc n => -(OfNat.ofNat (n + 1))
def am_kl (z : Int) : Int64 := match z with
  | .ofNat n => OfNat.ofNat n
  | .negSucc n => -(OfNat.ofNat (n + 1))
abbrev am_Cl : Type := Nat → List am_V → am_S → Option am_R
section Sx
variable {ρ : Type}
/-- a call: 0 static, 1 of an object of a known class, 2 a constructor, 6 Object's own constructor, 7 getClass of an array of Objects, 8 arraycopy, 9 clone of an array of ints, 10 11 12 Math's max, min, abs -/
def am_cal (C : am_Cl) (go : am_L → List am_V → am_S → Option ρ) (lo : am_L) (st : List am_V) (s : am_S) (x : am_X) : Option ρ :=
  match x.2.2.toNat % 16 with
  | 0 => am_pop x.2.1 st fun as rest => am_ans (x.2.2.toNat / 4096) (C x.1 as s) (go lo) rest
  | 1 => am_pop x.2.1 st fun as rest => am_rcv s.1 (x.2.2.toNat / 16 % 256) as (am_ans (x.2.2.toNat / 4096) (C x.1 as s) (go lo) rest)
  | 2 => am_pop x.2.1 st fun as rest => am_rcv s.1 (x.2.2.toNat / 16 % 256) as (am_ans (x.2.2.toNat / 4096) (C x.1 as s) (go lo) rest)
  | 6 => am_1r st fun r st => if (st.map am_cat).sum ≤ 8 then (if am_is s.1 r (x.2.2.toNat / 16 % 256) = true then go lo st s else none) else none
  | 7 => am_1r st fun r st => if (st.map am_cat).sum ≤ 8 then (if am_isO s.1 r = true then go lo (am_r (some 2) :: st) s else none) else none
  | 8 => am_cpyS st fun r i w j n st => if (st.map am_cat).sum ≤ 8 then (am_cpy s r i w j n).bind fun s => go lo st s else none
  | 9 => am_1r st fun r st => if (st.map am_cat).sum ≤ 8 then (am_cln s r).bind fun s' => go lo (am_r (some s.1.length) :: st) s' else none
  | 10 => am_2i st fun a b st => if (st.map am_cat).sum ≤ 8 then go lo (am_i (if a < b then b else a) :: st) s else none
  | 11 => am_2i st fun a b st => if (st.map am_cat).sum ≤ 8 then go lo (am_i (if b < a then b else a) :: st) s else none
  | 12 => am_1i st fun a st => if (st.map am_cat).sum ≤ 8 then go lo (am_i (if 0 ≤ a then a else 0 - a) :: st) s else none
  | _ => none
def am_st (D : Nat → List am_V) (C : am_Cl) (ret : am_R → Option ρ) (go : Nat → am_L → List am_V → am_S → Option ρ) (pc : Nat) (lo : am_L) (st : List am_V) (s : am_S) (i : Instr) (x : am_X) : Option ρ :=
  match i with
  | .iconst _ => go (pc + 1) lo (am_i (am_k x.2.2) :: st) s
  | .bipush _ => go (pc + 2) lo (am_i (am_k x.2.2) :: st) s
  | .sipush _ => go (pc + 3) lo (am_i (am_k x.2.2) :: st) s
  | .ldc _ => if x.1 = 0 then go (pc + 2) lo (am_i (am_k x.2.2) :: st) s else go (pc + 2) lo (am_r (some x.2.1) :: st) s
  | .ldc_w _ => go (pc + 3) lo (am_i (am_k x.2.2) :: st) s
  | .ldc2_w _ => go (pc + 3) lo (am_l (am_kl x.2.2) :: st) s
  | .lconst _ => go (pc + 1) lo (am_l (am_kl x.2.2) :: st) s
  | .aconst_null => go (pc + 1) lo (am_r none :: st) s
  | .iload k => am_ldi lo k fun v => go (pc + 2) lo (am_i v :: st) s
  | .iload_n k => am_ldi lo k fun v => go (pc + 1) lo (am_i v :: st) s
  | .lload k => am_ldl lo k fun v => go (pc + 2) lo (am_l v :: st) s
  | .lload_n k => am_ldl lo k fun v => go (pc + 1) lo (am_l v :: st) s
  | .aload k => am_ldr lo k fun v => go (pc + 2) lo (am_r v :: st) s
  | .aload_n k => am_ldr lo k fun v => go (pc + 1) lo (am_r v :: st) s
  | .istore k => am_1i st fun v st => if k < lo.length then go (pc + 2) (am_sto lo k (am_i v)) st s else none
  | .istore_n k => am_1i st fun v st => if k.val < lo.length then go (pc + 1) (am_sto lo k (am_i v)) st s else none
  | .lstore k => am_1l st fun v st => if k + 1 < lo.length then go (pc + 2) (am_sto2 lo k (am_l v)) st s else none
  | .lstore_n k => am_1l st fun v st => if k.val + 1 < lo.length then go (pc + 1) (am_sto2 lo k (am_l v)) st s else none
  | .astore k => am_1r st fun v st => if k < lo.length then go (pc + 2) (am_sto lo k (am_r v)) st s else none
  | .astore_n k => am_1r st fun v st => if k.val < lo.length then go (pc + 1) (am_sto lo k (am_r v)) st s else none
  | .iinc k z => am_ldi lo k fun v => if k < lo.length then go (pc + 3) (am_sto lo k (am_i (v + am_k z))) st s else none
  | .pop => am_1 st fun v st => if am_cat v = 1 then go (pc + 1) lo st s else none
  | .dup => am_1 st fun v st => if am_cat v = 1 then go (pc + 1) lo (v :: v :: st) s else none
  | .dup_x1 => am_dx st fun a b st => go (pc + 1) lo (a :: b :: a :: st) s
  | .dup2 => am_dx st fun a b st => go (pc + 1) lo (a :: b :: a :: b :: st) s
  | .iadd => am_2i st fun a b st => go (pc + 1) lo (am_i (a + b) :: st) s
  | .isub => am_2i st fun a b st => go (pc + 1) lo (am_i (a - b) :: st) s
  | .imul => am_2i st fun a b st => go (pc + 1) lo (am_i (a * b) :: st) s
  | .iand => am_2i st fun a b st => go (pc + 1) lo (am_i (a &&& b) :: st) s
  | .ior => am_2i st fun a b st => go (pc + 1) lo (am_i (a ||| b) :: st) s
  | .ixor => am_2i st fun a b st => go (pc + 1) lo (am_i (a ^^^ b) :: st) s
  | .idiv => am_2i st fun a b st => if b = 0 then none else go (pc + 1) lo (am_i (a / b) :: st) s
  | .irem => am_2i st fun a b st => if b = 0 then none else go (pc + 1) lo (am_i (a - a / b * b) :: st) s
  | .ineg => am_1i st fun a st => go (pc + 1) lo (am_i (-a) :: st) s
  | .ishl => am_2i st fun a b st => go (pc + 1) lo (am_i (a <<< (b &&& 31)) :: st) s
  | .ishr => am_2i st fun a b st => go (pc + 1) lo (am_i (a >>> (b &&& 31)) :: st) s
  | .iushr => am_2i st fun a b st => go (pc + 1) lo (am_i (a.toUInt32 >>> (b.toUInt32 &&& Int32.toUInt32 31)).toInt32 :: st) s
  | .land => am_2l st fun a b st => go (pc + 1) lo (am_l (a &&& b) :: st) s
  | .lor => am_2l st fun a b st => go (pc + 1) lo (am_l (a ||| b) :: st) s
  | .lxor => am_2l st fun a b st => go (pc + 1) lo (am_l (a ^^^ b) :: st) s
  | .lshl => am_li st fun a b st => go (pc + 1) lo (am_l (a <<< (b.toInt64 &&& 63)) :: st) s
  | .lshr => am_li st fun a b st => go (pc + 1) lo (am_l (a >>> (b.toInt64 &&& 63)) :: st) s
  | .lushr => am_li st fun a b st => go (pc + 1) lo (am_l (a.toUInt64 >>> (b.toInt64.toUInt64 &&& Int64.toUInt64 63)).toInt64 :: st) s
  | .lcmp => am_2l st fun a b st => go (pc + 1) lo (am_i (lg_cmp a b) :: st) s
  | .i2l => am_1i st fun a st => go (pc + 1) lo (am_l a.toInt64 :: st) s
  | .l2i => am_1l st fun a st => go (pc + 1) lo (am_i a.toInt32 :: st) s
  | .i2b => am_1i st fun a st => go (pc + 1) lo (am_i a.toInt8.toInt32 :: st) s
  | .i2c => am_1i st fun a st => go (pc + 1) lo (am_i (a.toUInt32 % 65536).toInt32 :: st) s
  | .ifCond c off => am_1i st fun a st => am_cz c a (go (am_tg pc off) lo st s) (go (pc + 3) lo st s)
  | .if_icmp c off => am_2i st fun a b st => am_cc c a b (go (am_tg pc off) lo st s) (go (pc + 3) lo st s)
  | .ifnull off => am_1r st fun r st => am_ifn r (go (am_tg pc off) lo st s) (go (pc + 3) lo st s)
  | .ifnonnull off => am_1r st fun r st => am_ifn r (go (pc + 3) lo st s) (go (am_tg pc off) lo st s)
  | .if_acmp c off => am_2r st fun a b st => if a = b then go (am_ae c (am_tg pc off) (pc + 3)) lo st s else if (am_nw a && am_nw b) = true then go (am_ae c (pc + 3) (am_tg pc off)) lo st s else none
  | .goto off => go (am_tg pc off) lo st s
  | .tableswitch d lw _ offs => am_1i st fun a st => am_sw a lw.toNat offs.toList (fun o => go (am_tg pc o) lo st s) (go (am_tg pc d) lo st s)
  | .getfield _ => am_1r st fun r st => if x.2.2 = 0 then (am_gi s.1 r x.1 x.2.1).bind fun v => go (pc + 3) lo (am_i v :: st) s else (am_gr s.1 r x.1 x.2.1).bind fun v => go (pc + 3) lo (am_r v :: st) s
  | .getstatic _ => if x.1 = 0 then go (pc + 3) lo (am_i (am_k x.2.2) :: st) s else go (pc + 3) lo (am_r (some x.2.1) :: st) s
  | .putfield _ => if x.2.2 = 0 then (am_ri st fun r v st => (am_put s r x.1 x.2.1 (am_i v)).bind fun s => go (pc + 3) lo st s) else if x.2.2 = 1 then (am_2r st fun r v st => (am_put s r x.1 x.2.1 (am_r v)).bind fun s => go (pc + 3) lo st s) else (am_ri st fun r v st => if am_nar 2 v = v then (am_put s r x.1 x.2.1 (am_i v)).bind fun s => go (pc + 3) lo st s else none)
  | .iaload => am_ri st fun r v st => (am_ial s.1 r 0 v).bind fun w => go (pc + 1) lo (am_i w :: st) s
  | .baload => am_ri st fun r v st => (am_ial s.1 r x.1 v).bind fun w => go (pc + 1) lo (am_i w :: st) s
  | .aaload => am_ri st fun r v st => (am_ral s.1 r v).bind fun w => go (pc + 1) lo (am_r w :: st) s
  | .iastore => am_rii st fun r v w st => (am_ias s r 0 v w).bind fun s => go (pc + 1) lo st s
  | .bastore => am_rii st fun r v w st => (am_ias s r x.1 v w).bind fun s => go (pc + 1) lo st s
  | .aastore => am_rir st fun r v w st => (am_ras s r v w).bind fun s => go (pc + 1) lo st s
  | .arraylength => am_1r st fun r st => (am_len s.1 r).bind fun n => go (pc + 1) lo (am_i (Int32.ofNat n) :: st) s
  | .new _ => go (pc + 3) lo (am_r (some s.1.length) :: st) (am_new s (.inl (x.1, D x.1)) (D x.1).length)
  | .newarray _ => am_1i st fun n st => if ¬ n < 0 ∧ n.toNatClampNeg ≤ 65536 then go (pc + 2) lo (am_r (some s.1.length) :: st) (am_new s (.inr (.inl (x.1, n.toNatClampNeg, fun _ => 0))) n.toNatClampNeg) else none
  | .anewarray _ => am_1i st fun n st => if ¬ n < 0 ∧ n.toNatClampNeg ≤ 65536 then go (pc + 3) lo (am_r (some s.1.length) :: st) (am_new s (.inr (.inr (x.1, n.toNatClampNeg, fun _ => none))) n.toNatClampNeg) else none
  | .checkcast _ => am_1r st fun r st => if am_isN s.1 r x.1 = true then go (pc + 3) lo (am_r r :: st) s else none
  | .invokestatic _ => am_cal C (go (pc + 3)) lo st s x
  | .invokevirtual _ => am_cal C (go (pc + 3)) lo st s x
  | .invokespecial _ => am_cal C (go (pc + 3)) lo st s x
  | .ireturn => am_1i st fun v st => am_nil st (if x.1 = 0 then ret (some (am_i v), s) else if am_nar x.1 v = v then ret (some (am_i v), s) else none)
  | .lreturn => am_1l st fun v st => am_nil st (ret (some (am_l v), s))
  | .areturn => am_1r st fun v st => am_nil st (ret (some (am_r v), s))
  | .return_ => am_nil st (ret (none, s))
  | _ => none
def am_sx (D : Nat → List am_V) (C : am_Cl) (P : Nat → Option am_E) (ret : am_R → Option ρ) (go : Nat → am_L → List am_V → am_S → Option ρ) (pc : Nat) (lo : am_L) (st : List am_V) (s : am_S) : Option ρ :=
  match P pc with
  | none => none
  | some e => am_st D C ret go pc (am_kill e.1 lo) st s e.2.1 e.2.2.2
end Sx
section Nat_
variable {ρ τ : Type} (f : ρ → Option τ)
theorem am_1i_n (st : List am_V) (k : Int32 → List am_V → Option ρ) : (am_1i st k).bind f = am_1i st fun a st => (k a st).bind f := by unfold am_1i; split <;> rfl
theorem am_2i_n (st : List am_V) (k : Int32 → Int32 → List am_V → Option ρ) : (am_2i st k).bind f = am_2i st fun a b st => (k a b st).bind f := by unfold am_2i; split <;> rfl
theorem am_1l_n (st : List am_V) (k : Int64 → List am_V → Option ρ) : (am_1l st k).bind f = am_1l st fun a st => (k a st).bind f := by unfold am_1l; split <;> rfl
theorem am_2l_n (st : List am_V) (k : Int64 → Int64 → List am_V → Option ρ) : (am_2l st k).bind f = am_2l st fun a b st => (k a b st).bind f := by unfold am_2l; split <;> rfl
theorem am_li_n (st : List am_V) (k : Int64 → Int32 → List am_V → Option ρ) : (am_li st k).bind f = am_li st fun a b st => (k a b st).bind f := by unfold am_li; split <;> rfl
theorem am_1r_n (st : List am_V) (k : Option Nat → List am_V → Option ρ) : (am_1r st k).bind f = am_1r st fun a st => (k a st).bind f := by unfold am_1r; split <;> rfl
theorem am_2r_n (st : List am_V) (k : Option Nat → Option Nat → List am_V → Option ρ) : (am_2r st k).bind f = am_2r st fun a b st => (k a b st).bind f := by unfold am_2r; split <;> rfl
theorem am_ri_n (st : List am_V) (k : Option Nat → Int32 → List am_V → Option ρ) : (am_ri st k).bind f = am_ri st fun a b st => (k a b st).bind f := by unfold am_ri; split <;> rfl
theorem am_rii_n (st : List am_V) (k : Option Nat → Int32 → Int32 → List am_V → Option ρ) : (am_rii st k).bind f = am_rii st fun a b c st => (k a b c st).bind f := by unfold am_rii; split <;> rfl
theorem am_rir_n (st : List am_V) (k : Option Nat → Int32 → Option Nat → List am_V → Option ρ) : (am_rir st k).bind f = am_rir st fun a b c st => (k a b c st).bind f := by unfold am_rir; split <;> rfl
theorem am_cpyS_n (st : List am_V) (k : Option Nat → Int32 → Option Nat → Int32 → Int32 → List am_V → Option ρ) : (am_cpyS st k).bind f = am_cpyS st fun a b c d e st => (k a b c d e st).bind f := by unfold am_cpyS; split <;> rfl
theorem am_nil_n (st : List am_V) (k : Option ρ) : (am_nil st k).bind f = am_nil st (k.bind f) := by unfold am_nil; split <;> rfl
theorem am_1_n (st : List am_V) (k : am_V → List am_V → Option ρ) : (am_1 st k).bind f = am_1 st fun a st => (k a st).bind f := by unfold am_1; split <;> rfl
theorem am_dx_n (st : List am_V) (k : am_V → am_V → List am_V → Option ρ) : (am_dx st k).bind f = am_dx st fun a b st => (k a b st).bind f := by
  unfold am_dx; split
  · split <;> rfl
  · rfl
theorem am_ldi_n (lo : am_L) (i : Nat) (k : Int32 → Option ρ) : (am_ldi lo i k).bind f = am_ldi lo i fun x => (k x).bind f := by unfold am_ldi; split <;> rfl
theorem am_ldl_n (lo : am_L) (i : Nat) (k : Int64 → Option ρ) : (am_ldl lo i k).bind f = am_ldl lo i fun x => (k x).bind f := by unfold am_ldl; split <;> rfl
theorem am_ldr_n (lo : am_L) (i : Nat) (k : Option Nat → Option ρ) : (am_ldr lo i k).bind f = am_ldr lo i fun x => (k x).bind f := by unfold am_ldr; split <;> rfl
theorem am_ite_n (c : Prop) [Decidable c] (a b : Option ρ) : (if c then a else b).bind f = if c then a.bind f else b.bind f := by split <;> rfl
theorem am_cz_n (c : Jvm.ClassFile.Cond) (x : Int32) (t e : Option ρ) : (am_cz c x t e).bind f = am_cz c x (t.bind f) (e.bind f) := by cases c <;> exact am_ite_n f _ _ _
theorem am_cc_n (c : Jvm.ClassFile.Cond) (x y : Int32) (t e : Option ρ) : (am_cc c x y t e).bind f = am_cc c x y (t.bind f) (e.bind f) := by cases c <;> exact am_ite_n f _ _ _
theorem am_sw_n (x : Int32) (os : List Int) (g : Int → Option ρ) (d : Option ρ) : ∀ k : Nat, (am_sw x k os g d).bind f = am_sw x k os (fun o => (g o).bind f) (d.bind f) := by
  induction os with
  | nil => intro k; rfl
  | cons o os ih => intro k; simp only [am_sw, am_ite_n, ih]
theorem am_pop_n (n : Nat) (st : List am_V) (k : List am_V → List am_V → Option ρ) : (am_pop n st k).bind f = am_pop n st fun a b => (k a b).bind f := by unfold am_pop; exact am_ite_n f _ _ _
theorem am_rcv_n (h : List am_Ce) (c : Nat) (as : List am_V) (k : Option ρ) : (am_rcv h c as k).bind f = am_rcv h c as (k.bind f) := by
  unfold am_rcv; split
  · exact am_ite_n f _ _ _
  · rfl
theorem am_bind_n {α : Type} (o : Option α) (k : α → Option ρ) : (o.bind k).bind f = o.bind fun a => (k a).bind f := by cases o <;> rfl
theorem am_ifn_n (r : Option Nat) (t e : Option ρ) : (am_ifn r t e).bind f = am_ifn r (t.bind f) (e.bind f) := by
  unfold am_ifn; split
  · rfl
  · exact am_ite_n f _ _ _
theorem am_q0_n (o : Option am_R) (k : am_S → Option ρ) : (am_q0 o k).bind f = am_q0 o fun s => (k s).bind f := by unfold am_q0; split <;> rfl
theorem am_qi_n (o : Option am_R) (k : Int32 → am_S → Option ρ) : (am_qi o k).bind f = am_qi o fun v s => (k v s).bind f := by unfold am_qi; split <;> rfl
theorem am_ql_n (o : Option am_R) (k : Int64 → am_S → Option ρ) : (am_ql o k).bind f = am_ql o fun v s => (k v s).bind f := by unfold am_ql; split <;> rfl
theorem am_qr_n (o : Option am_R) (k : Option Nat → am_S → Option ρ) : (am_qr o k).bind f = am_qr o fun v s => (k v s).bind f := by unfold am_qr; split <;> rfl
theorem am_ans_n (k : Nat) (o : Option am_R) (go : List am_V → am_S → Option ρ) (rest : List am_V) : (am_ans k o go rest).bind f = am_ans k o (fun st s => (go st s).bind f) rest := by
  unfold am_ans; split
  · exact am_q0_n f _ _
  · exact am_qi_n f _ _
  · exact am_ql_n f _ _
  · exact am_qr_n f _ _
theorem am_cal_n (C : am_Cl) (go : am_L → List am_V → am_S → Option ρ) (lo : am_L) (st : List am_V) (s : am_S) (x : am_X) :
    (am_cal C go lo st s x).bind f = am_cal C (fun lo st s => (go lo st s).bind f) lo st s x := by
  unfold am_cal
  split
  · simp only [am_pop_n, am_ans_n]
  · simp only [am_pop_n, am_ans_n, am_rcv_n]
  · simp only [am_pop_n, am_ans_n, am_rcv_n]
  · simp only [am_1r_n, am_ite_n]; rfl
  · simp only [am_1r_n, am_ite_n]; rfl
  · simp only [am_cpyS_n, am_ite_n, am_bind_n]; rfl
  · simp only [am_1r_n, am_ite_n, am_bind_n]; rfl
  · simp only [am_2i_n, am_ite_n]; rfl
  · simp only [am_2i_n, am_ite_n]; rfl
  · simp only [am_1i_n, am_ite_n]; rfl
  · rfl
theorem am_st_n (D : Nat → List am_V) (C : am_Cl) (ret : am_R → Option ρ) (go : Nat → am_L → List am_V → am_S → Option ρ) (pc : Nat) (lo : am_L) (st : List am_V) (s : am_S) (i : Instr) (x : am_X) :
    (am_st D C ret go pc lo st s i x).bind f = am_st D C (fun r => (ret r).bind f) (fun pc lo st s => (go pc lo st s).bind f) pc lo st s i x := by
  cases i <;> first
    | rfl
    | (simp only [am_st, am_1i_n, am_2i_n, am_1l_n, am_2l_n, am_li_n, am_1r_n, am_2r_n, am_ri_n, am_rii_n, am_rir_n, am_nil_n, am_1_n, am_dx_n, am_ldi_n, am_ldl_n, am_ldr_n, am_ite_n, am_cz_n, am_cc_n, am_sw_n, am_ifn_n, am_bind_n, am_cal_n, Option.bind_none]; done)
theorem am_sx_n (D : Nat → List am_V) (C : am_Cl) (P : Nat → Option am_E) (ret : am_R → Option ρ) (go : Nat → am_L → List am_V → am_S → Option ρ) (pc : Nat) (lo : am_L) (st : List am_V) (s : am_S) :
    (am_sx D C P ret go pc lo st s).bind f = am_sx D C P (fun r => (ret r).bind f) (fun pc lo st s => (go pc lo st s).bind f) pc lo st s := by
  unfold am_sx; split
  · rfl
  · exact am_st_n f D C ret go _ _ _ _ _ _
end Nat_
section Run
variable (D : Nat → List am_V) (C : am_Cl) (P : Nat → Option am_E)
def am_nx (s : am_F) : Option (am_R ⊕ am_F) := am_sx D C P (fun r => some (.inl r)) (fun pc lo st s => some (.inr (pc, lo, st, s))) s.1 s.2.1 s.2.2.1 s.2.2.2
def am_ex : Nat → am_F → Option am_R
  | 0, _ => none
  | n + 1, s => (am_nx D C P s).bind fun z => z.elim some (am_ex n)
theorem am_ex_up {n : Nat} : ∀ {s : am_F} {r : am_R}, am_ex D C P n s = some r → am_ex D C P (n + 1) s = some r := by
  induction n with
  | zero => intro s r h; cases h
  | succ n ih =>
    intro s r h
    unfold am_ex at h ⊢
    cases hz : am_nx D C P s with
    | none => rw [hz] at h; cases h
    | some z =>
      rw [hz] at h
      cases z with
      | inl q => exact h
      | inr q => exact ih h
theorem am_ex_le {n m : Nat} (h : n ≤ m) {s : am_F} {r : am_R} (hr : am_ex D C P n s = some r) : am_ex D C P m s = some r := by
  induction h with
  | refl => exact hr
  | step _ ih => exact am_ex_up D C P ih
noncomputable def am_rn (s : am_F) : Option am_R := @dite _ (∃ n, (am_ex D C P n s).isSome = true) (Classical.propDecidable _) (fun h => am_ex D C P h.choose s) (fun _ => none)
noncomputable def am_run (pc : Nat) (lo : am_L) (st : List am_V) (s : am_S) : Option am_R := am_rn D C P (pc, lo, st, s)
theorem am_rn_of {n : Nat} {s : am_F} {r : am_R} (h : am_ex D C P n s = some r) : am_rn D C P s = some r := by
  have hx : ∃ n, (am_ex D C P n s).isSome = true := ⟨n, by rw [h]; rfl⟩
  unfold am_rn
  rw [dif_pos hx]
  cases hc : am_ex D C P hx.choose s with
  | none => have := hx.choose_spec; rw [hc] at this; cases this
  | some q =>
    have h1 := am_ex_le D C P (Nat.le_max_left n hx.choose) h
    have h2 := am_ex_le D C P (Nat.le_max_right n hx.choose) hc
    exact h2.symm.trans h1
theorem am_rn_to {s : am_F} {r : am_R} (h : am_rn D C P s = some r) : ∃ n, am_ex D C P n s = some r := by
  unfold am_rn at h
  split at h
  · exact ⟨_, h⟩
  · cases h
theorem am_rn_nx (s : am_F) : am_rn D C P s = (am_nx D C P s).bind fun z => z.elim some (am_rn D C P) := by
  apply Option.ext
  intro r
  constructor
  · intro h
    obtain ⟨n, hn⟩ := am_rn_to D C P h
    cases n with
    | zero => cases hn
    | succ n =>
      unfold am_ex at hn
      cases hz : am_nx D C P s with
      | none => rw [hz] at hn; cases hn
      | some z =>
        rw [hz] at hn
        cases z with
        | inl q => exact hn
        | inr q => exact am_rn_of D C P hn
  · intro h
    cases hz : am_nx D C P s with
    | none => rw [hz] at h; cases h
    | some z =>
      rw [hz] at h
      cases z with
      | inl q => exact am_rn_of D C P (n := 1) (by unfold am_ex; rw [hz]; exact h)
      | inr q =>
        obtain ⟨n, hn⟩ := am_rn_to D C P h
        exact am_rn_of D C P (n := n + 1) (by unfold am_ex; rw [hz]; exact hn)
/-- a run is its first instruction, then the run from there -/
theorem am_run_eq (pc : Nat) (lo : am_L) (st : List am_V) (s : am_S) : am_run D C P pc lo st s = am_sx D C P some (am_run D C P) pc lo st s := by
  unfold am_run
  rw [am_rn_nx]
  unfold am_nx
  rw [am_sx_n]
  rfl
/-- some instructions of a run, up to the places named by 'stop' -/
noncomputable def am_uf (stop : Nat → Bool) : Nat → Nat → am_L → List am_V → am_S → Option am_R
  | 0 => am_run D C P
  | n + 1 => am_sx D C P some fun pc lo st s => match stop pc with
    | true => am_run D C P pc lo st s
    | false => am_uf stop n pc lo st s
theorem am_uf_eq (stop : Nat → Bool) (n : Nat) : ∀ (pc : Nat) (lo : am_L) (st : List am_V) (s : am_S), am_run D C P pc lo st s = am_uf D C P stop n pc lo st s := by
  induction n with
  | zero => intro pc lo st s; rfl
  | succ n ih =>
    intro pc lo st s
    rw [am_run_eq]
    show _ = am_sx D C P some (fun pc lo st s => match stop pc with | true => am_run D C P pc lo st s | false => am_uf D C P stop n pc lo st s) pc lo st s
    congr 1
    funext pc lo st s
    cases stop pc with
    | true => rfl
    | false => exact ih pc lo st s
end Run
