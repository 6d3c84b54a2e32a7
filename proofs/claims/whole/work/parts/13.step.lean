/-! One instruction of the small machine is one of the machine's: what is to be checked of it (am_cki), and the rule. -/
def am_ln (i : Instr) : Nat := match i with
  | .bipush _ | .ldc _ | .iload _ | .lload _ | .aload _ | .istore _ | .lstore _ | .astore _ | .newarray _ => 2
  | .sipush _ | .ldc_w _ | .ldc2_w _ | .iinc _ _ | .ifCond _ _ | .if_icmp _ _ | .if_acmp _ _ | .ifnull _ | .ifnonnull _ | .goto _ | .getfield _ | .putfield _ | .getstatic _ | .new _ | .anewarray _ | .checkcast _ | .invokestatic _ | .invokevirtual _ | .invokespecial _ => 3
  | _ => 1
abbrev am_MI : Type := Nat → Option (MethodName × ByteArray × Nat × Option FieldType)
def am_gsv (x : am_X) : am_V := if x.1 = 0 then am_i (am_k x.2.2) else am_r (some x.2.1)
def am_ckl (own : String) (idx : Nat) (y : MethodName) : Prop := Cond.methodLink own idx y ∈ am_T ∨ ∃ host, (own, idx, y, host) ∈ am_nst
def am_cki (mi : am_MI) (own : String) (nit : Prop) (ret : Option FieldType) (pc : Nat) (i : Instr) (x : am_X) : Prop := match i with
  | .iconst n => Int32.ofInt n = am_k x.2.2
  | .bipush n => (Int8.ofInt n).toInt32 = am_k x.2.2
  | .sipush n => (Int16.ofInt n).toInt32 = am_k x.2.2
  | .ldc idx => (x.1 = 0 ∧ Cond.constant own idx (am_k x.2.2) ∈ am_T) ∨ (x.1 = 1 ∧ x.2.1 < am_K ∧ ∃ tx, (own, idx, x.2.1, tx) ∈ am_sls) ∨ (x.1 = 2 ∧ x.2.1 = 2 ∧ Cond.classLink own idx "[Ljava/lang/Object;" ∈ am_T)
  | .ldc_w idx => Cond.constant own idx (am_k x.2.2) ∈ am_T
  | .ldc2_w idx => Cond.constantLong own idx (am_kl x.2.2) ∈ am_T
  | .lconst n => Int64.ofNat (n : Nat) = am_kl x.2.2
  | .iinc _ z => am_k z = Int32.ofInt z
  | .ifCond _ off => 0 ≤ (pc : Int) + off
  | .if_icmp _ off => 0 ≤ (pc : Int) + off
  | .if_acmp _ off => 0 ≤ (pc : Int) + off
  | .ifnull off => 0 ≤ (pc : Int) + off
  | .ifnonnull off => 0 ≤ (pc : Int) + off
  | .goto off => 0 ≤ (pc : Int) + off
  | .tableswitch d lw hi offs => (∃ k : Nat, lw = (k : Int) ∧ k + offs.toList.length ≤ 1000 ∧ hi + 1 = (k : Int) + offs.toList.length) ∧ 0 ≤ (pc : Int) + d ∧ ∀ o ∈ offs.toList, 0 ≤ (pc : Int) + o
  | .getfield idx => (x.1 = 50 ∧ ((x.2.1 = 0 ∧ Cond.fieldLink own idx "java/lang/String" "value" "[B" ∈ am_T) ∨ (x.2.1 = 1 ∧ Cond.fieldLink own idx "java/lang/String" "coder" "B" ∈ am_T))) ∨ ∃ (C : String) (T : u_T) (N : Nat) (ref : String), vwCl[x.1]? = some (C, T, N) ∧ x.2.1 < N ∧ Cond.fieldLink own idx ref (T x.2.1).2.1 (T x.2.1).2.2.1 ∈ am_T ∧ (ref = (T x.2.1).1 ∨ Cond.sameField ref (T x.2.1).1 (T x.2.1).2.1 (T x.2.1).2.2.1 ∈ am_T)
  | .putfield idx => ∃ (C : String) (T : u_T) (N : Nat) (ref : String) (ty : FieldType), vwCl[x.1]? = some (C, T, N) ∧ x.2.1 < N ∧ Cond.fieldLink own idx ref (T x.2.1).2.1 (T x.2.1).2.2.1 ∈ am_T ∧ (ref = (T x.2.1).1 ∨ Cond.sameField ref (T x.2.1).1 (T x.2.1).2.1 (T x.2.1).2.2.1 ∈ am_T) ∧ ((T x.2.1).2.2.2 = false ∨ ((T x.2.1).2.2.2 = true ∧ nit ∧ (T x.2.1).1 = own)) ∧ parseFieldDescriptor (T x.2.1).2.2.1 = some ty ∧ ((x.2.2 = 0 ∧ ty = .int) ∨ (x.2.2 = 1 ∧ ((∃ n, ty = .object n) ∨ ∃ t, ty = .array t)) ∨ (x.2.2 = 2 ∧ ty = .boolean))
  | .getstatic idx => ∃ C n d, Cond.fieldLink own idx C n d ∈ am_T ∧ ((C = "java/util/ArrayList" ∧ n = "DEFAULTCAPACITY_EMPTY_ELEMENTDATA" ∧ d = "[Ljava/lang/Object;" ∧ am_gsv x = am_r (some 1)) ∨ (C = "java/lang/String" ∧ n = "COMPACT_STRINGS" ∧ d = "Z" ∧ am_gsv x = am_i 1) ∨ (C = "jdk/internal/util/Preconditions" ∧ n = "SIOOBE_FORMATTER" ∧ d = "Ljava/util/function/BiFunction;" ∧ am_gsv x = am_r (some 3)))
  | .baload => x.1 = 1 ∨ x.1 = 2
  | .bastore => x.1 = 1 ∨ x.1 = 2
  | .new idx => ∃ r : vw_C, vwCl[x.1]? = some r ∧ Cond.classLink own idx r.1 ∈ am_T
  | .newarray atype => x.1 < 3 ∧ newarray.typeOf atype = am_ty x.1 ∧ Cond.arrayClass (am_ty x.1) ∈ am_T
  | .anewarray idx => (x.1 = 0 ∨ x.1 = 5 ∨ x.1 = 9) ∧ Cond.classLink own idx (am_tr x.1) ∈ am_T
  | .checkcast idx => (x.1 = 60 ∧ Cond.classLink own idx "[I" ∈ am_T) ∨ ∃ r : vw_C, vwCl[x.1]? = some r ∧ Cond.classLink own idx r.1 ∈ am_T
  | .invokestatic idx => (x.2.2.toNat % 16 = 0 ∧ ∃ y bytes maxL rt, mi x.1 = some (y, bytes, maxL, rt) ∧ am_Mf y bytes maxL rt x.2.1 ∧ Cond.static y ∈ am_T ∧ am_ckl own idx y) ∨ (x.2.2.toNat % 16 = 8 ∧ Cond.methodLink own idx arraycopyName ∈ am_T ∧ Cond.native arraycopyName ∈ am_T ∧ Cond.static arraycopyName ∈ am_T ∧ Cond.initialized "java/lang/System" ∈ am_T) ∨
      (x.2.2.toNat % 16 = 10 ∧ Cond.methodLink own idx Lib.Math.max.name ∈ am_T ∧ Cond.static Lib.Math.max.name ∈ am_T ∧ Cond.initialized "java/lang/Math" ∈ am_T ∧ Cond.code Lib.Math.max.name Lib.Math.max.code 2 (some .int) ∈ am_T) ∨
      (x.2.2.toNat % 16 = 11 ∧ Cond.methodLink own idx Lib.Math.min.name ∈ am_T ∧ Cond.static Lib.Math.min.name ∈ am_T ∧ Cond.initialized "java/lang/Math" ∈ am_T ∧ Cond.code Lib.Math.min.name Lib.Math.min.code 2 (some .int) ∈ am_T) ∨
      (x.2.2.toNat % 16 = 12 ∧ Cond.methodLink own idx Lib.Math.abs.name ∈ am_T ∧ Cond.static Lib.Math.abs.name ∈ am_T ∧ Cond.initialized "java/lang/Math" ∈ am_T ∧ Cond.code Lib.Math.abs.name Lib.Math.abs.code 1 (some .int) ∈ am_T)
  | .invokevirtual idx => (x.2.2.toNat % 16 = 1 ∧ ∃ y bytes maxL rt n, mi x.1 = some (y, bytes, maxL, rt) ∧ x.2.1 = n + 1 ∧ am_Mf y bytes maxL rt n ∧ Cond.instanceMethod y ∈ am_T ∧ Cond.selects y.cls y y ∈ am_T ∧ Cond.methodLink own idx y ∈ am_T ∧ ((∃ T N, vwCl[x.2.2.toNat / 16 % 256]? = some (y.cls, T, N)) ∨ (x.2.2.toNat / 16 % 256 = 50 ∧ y.cls = "java/lang/String"))) ∨
      (x.2.2.toNat % 16 = 7 ∧ Cond.methodLink own idx ⟨"java/lang/Object", "getClass", "()Ljava/lang/Class;"⟩ ∈ am_T ∧ Cond.selects "[Ljava/lang/Object;" ⟨"java/lang/Object", "getClass", "()Ljava/lang/Class;"⟩ ⟨"java/lang/Object", "getClass", "()Ljava/lang/Class;"⟩ ∈ am_T ∧ Cond.instanceMethod ⟨"java/lang/Object", "getClass", "()Ljava/lang/Class;"⟩ ∈ am_T ∧ Cond.native ⟨"java/lang/Object", "getClass", "()Ljava/lang/Class;"⟩ ∈ am_T) ∨
      (x.2.2.toNat % 16 = 9 ∧ Cond.methodLink own idx ⟨"[I", "clone", "()Ljava/lang/Object;"⟩ ∈ am_T ∧ Cond.sameMethod "[I" "java/lang/Object" "clone" "()Ljava/lang/Object;" ∈ am_T ∧ Cond.native ⟨"java/lang/Object", "clone", "()Ljava/lang/Object;"⟩ ∈ am_T ∧ Cond.instanceMethod ⟨"java/lang/Object", "clone", "()Ljava/lang/Object;"⟩ ∈ am_T ∧ Cond.selects "[I" ⟨"[I", "clone", "()Ljava/lang/Object;"⟩ ⟨"java/lang/Object", "clone", "()Ljava/lang/Object;"⟩ ∈ am_T)
  | .invokespecial idx => (x.2.2.toNat % 16 = 2 ∧ ∃ y bytes maxL n, mi x.1 = some (y, bytes, maxL, none) ∧ x.2.1 = n + 1 ∧ am_Mf y bytes maxL none n ∧ Cond.instanceMethod y ∈ am_T ∧ y.name = "<init>" ∧ am_ckl own idx y ∧ x.2.2.toNat / 16 % 256 < 14) ∨ (x.2.2.toNat % 16 = 6 ∧ x.2.2.toNat / 16 % 256 < 14 ∧ Cond.methodLink own idx objectInit ∈ am_T ∧ Cond.instanceMethod objectInit ∈ am_T ∧ Cond.code objectInit ⟨#[0xb1]⟩ 1 none ∈ am_T)
  | .ireturn => ∃ ty, ret = some ty ∧ ∀ v : Int32, am_nar x.1 v = v → narrow ty (.int v) = .int v
  | .lreturn => ret = some .long
  | .areturn => ∃ ty, ret = some ty ∧ ((∃ n, ty = .object n) ∨ ∃ t, ty = .array t)
  | .return_ => ret = none
  | _ => True
/-- all that is said of the classes -/
def am_Cls (D : Nat → List am_V) : Prop := ∀ (ci : Nat) (C : String) (T : u_T) (N : Nat), vwCl[ci]? = some (C, T, N) → (∀ w ∈ u_ws C T N, w ∈ am_T) ∧ Cond.instantiable C N ∈ am_T ∧ Cond.initialized C ∈ am_T ∧ (D ci).length = N ∧ (∀ a, a < N → ∀ b, b < N → a ≠ b → (T a).2.1 ≠ (T b).2.1) ∧ ∃ ty : Nat → FieldType, (∀ k, k < N → parseFieldDescriptor (T k).2.2.1 = some (ty k)) ∧ ∀ (B : Nat) (ov : Nat → Option Nat) (j : Nat), j < N → defaultValue (ty j) = vp_V ((D ci).map (am_cv B ov)) j
/-- what is given back, and by which instruction -/
def am_isr (i : Instr) (x : am_X) (st : List am_V) (r : Option am_V) : Prop := (i = .ireturn ∧ ∃ v, st = [am_i v] ∧ r = some (am_i v) ∧ am_nar x.1 v = v) ∨ (i = .lreturn ∧ ∃ v, st = [am_l v] ∧ r = some (am_l v)) ∨ (i = .areturn ∧ ∃ v, st = [am_r v] ∧ r = some (am_r v)) ∨ (i = .return_ ∧ st = [] ∧ r = none)
theorem am_tgt {pc : Nat} {off : Int} (h : 0 ≤ (pc : Int) + off) : (pc : Int) + off = (am_tg pc off : Int) := (Int.toNat_of_nonneg h).symm
theorem am_k_nat (n : Nat) : am_k (n : Int) = nI n := rfl
section Step_
variable {p : Program} {l : Launch} {e : Env} {R : Room} {s : State} {m : MethodId} {args : Array Value} {below : List Frame} {meth : Method} {c : Code} {B : Nat} {ov : Nat → Option Nat} {G : va_G} {cI cR : Nat → ClassId} {O : List am_Ce} {n0 k0 : Nat} {Q : State → Prop} {nL : Nat} {cc : ByteArray} {own : String} {pc : Nat} {lo : am_L} {st : List am_V} {g : am_S}
theorem am_sw_ok {z : am_R ⊕ am_F} {a : Int32} {os : List Int} {gof : Int → Option (am_R ⊕ am_F)} {df : Option (am_R ⊕ am_F)} : ∀ (k : Nat), am_sw a k os gof df = some z → (∃ j o, os[j]? = some o ∧ a = nI (k + j) ∧ gof o = some z) ∨ ((∀ j, j < os.length → a ≠ nI (k + j)) ∧ df = some z) := by
  induction os with
  | nil => intro k h; exact Or.inr ⟨fun j hj => absurd hj (Nat.not_lt_zero _), h⟩
  | cons o os ih =>
    intro k h
    unfold am_sw at h
    split at h
    · rename_i e
      exact Or.inl ⟨0, o, rfl, e, h⟩
    · rename_i e
      rcases ih (k + 1) h with ⟨j, o', h1, h2, h3⟩ | ⟨h1, h2⟩
      · exact Or.inl ⟨j + 1, o', h1, by rw [h2]; congr 1; omega, h3⟩
      · refine Or.inr ⟨fun j hj => ?_, h2⟩
        cases j with
        | zero => exact e
        | succ j => intro q; exact h1 j (by simpa using hj) (by rw [q]; congr 1; omega)
theorem am_astk {r : Option Nat} : (am_r r :: st).map (am_cv B ov) = va_rf (am_rr B ov r) :: st.map (am_cv B ov) := rfl
theorem am_aldr (X : am_Cx p s m args c cc nL own B ov G cI cR O) {k : Nat} {r : Option Nat} (hd : decode cc pc = .ok (.aload k, 2)) (hl : lo[k]? = some (some (am_r r))) (h : am_Ok p l e R s m args below meth c B ov G cI cR O n0 k0 Q nL (pc + 2) (lo) (am_r r :: st) (g)) : am_Ok p l e R s m args below meth c B ov G cI cR O n0 k0 Q nL (pc) (lo) (st) (g) := by
  intro H locs ls hR hS hL h1 h2
  have hz := h H locs ls hR hS hL h1 h2
  have hv : ls[k]? = some (Slot.val (va_rf (am_rr B ov r))) := hL.2.2.2 k _ hl
  rw [am_astk] at hz
  cases hr : am_rr B ov r with
  | none => rw [hr] at hz hv; exact lv_aloadN X.1 X.2.1 hd hv hz
  | some q => rw [hr] at hz hv; exact lv_aload X.1 X.2.1 hd hv hz
theorem am_aldn (X : am_Cx p s m args c cc nL own B ov G cI cR O) {k : Fin 4} {r : Option Nat} (hd : decode cc pc = .ok (.aload_n k, 1)) (hl : lo[(k : Nat)]? = some (some (am_r r))) (h : am_Ok p l e R s m args below meth c B ov G cI cR O n0 k0 Q nL (pc + 1) (lo) (am_r r :: st) (g)) : am_Ok p l e R s m args below meth c B ov G cI cR O n0 k0 Q nL (pc) (lo) (st) (g) := by
  intro H locs ls hR hS hL h1 h2
  have hz := h H locs ls hR hS hL h1 h2
  have hv : ls[(k : Nat)]? = some (Slot.val (va_rf (am_rr B ov r))) := hL.2.2.2 _ _ hl
  rw [am_astk] at hz
  cases hr : am_rr B ov r with
  | none => rw [hr] at hz hv; exact lv_aload_nN X.1 X.2.1 hd rfl hv hz
  | some q => rw [hr] at hz hv; exact lv_aload_n X.1 X.2.1 hd rfl hv hz
theorem am_asto (X : am_Cx p s m args c cc nL own B ov G cI cR O) {k : Nat} {r : Option Nat} (hd : decode cc pc = .ok (.astore k, 2)) (hk : k < lo.length) (h : am_Ok p l e R s m args below meth c B ov G cI cR O n0 k0 Q nL (pc + 2) (am_sto lo k (am_r r)) (st) (g)) : am_Ok p l e R s m args below meth c B ov G cI cR O n0 k0 Q nL (pc) (lo) (am_r r :: st) (g) := by
  intro H locs ls hR hS hL h1 h2
  rw [am_astk]
  have fin : ∀ ls', lv_has ls' nL ((k, am_cv B ov (am_r r)) :: (am_ll B ov lo).filter (fun q => !(q.1 == k) && !(q.1 + 1 == k && q.2.category == 2))) → W p l e R s m args below meth c H locs (g.1.length - n0) (g.2 - k0) Q (F0 m (pc + 2) ls' (st.map (am_cv B ov))) := fun ls' h' => h H locs ls' hR hS (am_LR_sto hL.2.1 h') h1 h2
  have hn : k < nL := Nat.lt_of_lt_of_le hk hL.2.1
  have e : am_cv B ov (am_r r) = va_rf (am_rr B ov r) := rfl
  rw [e] at fin
  cases hr : am_rr B ov r with
  | none => rw [hr] at fin; exact lv_astoreN X.1 X.2.1 hd hL.has hn rfl fin
  | some q => rw [hr] at fin; exact lv_astore X.1 X.2.1 hd hL.has hn rfl fin
theorem am_aston (X : am_Cx p s m args c cc nL own B ov G cI cR O) {k : Fin 4} {r : Option Nat} (hd : decode cc pc = .ok (.astore_n k, 1)) (hk : (k : Nat) < lo.length) (h : am_Ok p l e R s m args below meth c B ov G cI cR O n0 k0 Q nL (pc + 1) (am_sto lo k (am_r r)) (st) (g)) : am_Ok p l e R s m args below meth c B ov G cI cR O n0 k0 Q nL (pc) (lo) (am_r r :: st) (g) := by
  intro H locs ls hR hS hL h1 h2
  rw [am_astk]
  have fin : ∀ ls', lv_has ls' nL (((k : Nat), am_cv B ov (am_r r)) :: (am_ll B ov lo).filter (fun q => !(q.1 == (k : Nat)) && !(q.1 + 1 == (k : Nat) && q.2.category == 2))) → W p l e R s m args below meth c H locs (g.1.length - n0) (g.2 - k0) Q (F0 m (pc + 1) ls' (st.map (am_cv B ov))) := fun ls' h' => h H locs ls' hR hS (am_LR_sto hL.2.1 h') h1 h2
  have hn : (k : Nat) < nL := Nat.lt_of_lt_of_le hk hL.2.1
  have e : am_cv B ov (am_r r) = va_rf (am_rr B ov r) := rfl
  rw [e] at fin
  cases hr : am_rr B ov r with
  | none => rw [hr] at fin; exact lv_astore_nN X.1 X.2.1 hd rfl hL.has hn rfl fin
  | some q => rw [hr] at fin; exact lv_astore_n X.1 X.2.1 hd rfl hL.has hn rfl fin
theorem am_nw_s {r : Option Nat} (h : am_nw r = true) : ∃ y, r = some y ∧ am_K ≤ y := by
  cases r with
  | none => cases h
  | some y => exact ⟨y, rfl, Nat.le_of_ble_eq_true h⟩
theorem am_rr_inj {x y : Nat} (hx : am_K ≤ x) (hy : am_K ≤ y) (e : am_rr B ov (some x) = am_rr B ov (some y)) : some x = some y := by
  rw [am_rr_new hx, am_rr_new hy] at e
  have := Option.some.inj e
  congr 1
  omega
theorem am_acmp (X : am_Cx p s m args c cc nL own B ov G cI cR O) {cnd : ACond} {off : Int} {a b : Option Nat} (hd : decode cc pc = .ok (.if_acmp cnd off, 3)) (ht : 0 ≤ (pc : Int) + off) (hab : a = b ∨ (am_nw a && am_nw b) = true)
    (hE : a = b → am_Ok p l e R s m args below meth c B ov G cI cR O n0 k0 Q nL (am_ae cnd (am_tg pc off) (pc + 3)) (lo) (st) (g)) (hN : ¬ a = b → am_Ok p l e R s m args below meth c B ov G cI cR O n0 k0 Q nL (am_ae cnd (pc + 3) (am_tg pc off)) (lo) (st) (g)) : am_Ok p l e R s m args below meth c B ov G cI cR O n0 k0 Q nL (pc) (lo) (am_r b :: am_r a :: st) (g) := by
  intro H locs ls hR hS hL h1 h2
  have key : am_rr B ov a = am_rr B ov b ↔ a = b := by
    refine ⟨fun e => ?_, fun e => by rw [e]⟩
    rcases hab with h | h
    · exact h
    · obtain ⟨h, h'⟩ := Bool.and_eq_true_iff.mp h
      obtain ⟨x, rfl, hx⟩ := am_nw_s h
      obtain ⟨y, rfl, hy⟩ := am_nw_s h'
      exact am_rr_inj hx hy e
  show W p l e R s m args below meth c H locs _ _ Q (F0 m pc ls (va_rf (am_rr B ov b) :: va_rf (am_rr B ov a) :: st.map (am_cv B ov)))
  cases cnd with
  | eq => exact lv_acmp_eq X.1 X.2.1 hd (am_tgt ht) (fun q => hE (key.mp q) H locs ls hR hS hL h1 h2) (fun q => hN (fun z => q (key.mpr z)) H locs ls hR hS hL h1 h2)
  | ne => exact lv_acmp_ne X.1 X.2.1 hd (am_tgt ht) (fun q => hN (fun z => q (key.mpr z)) H locs ls hR hS hL h1 h2) (fun q => hE (key.mp q) H locs ls hR hS hL h1 h2)
end Step_
