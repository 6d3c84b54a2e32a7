/-! A small machine of my own: values, cells, states; one instruction (am_sx); a run (am_run); what an answer is by depth of calls. -/
abbrev am_V : Type := Int32 ⊕ (Int64 ⊕ Option Nat)
abbrev am_Ce : Type := (Nat × List am_V) ⊕ ((Nat × Nat × (Nat → Int32)) ⊕ (Nat × Nat × (Nat → Option Nat)))
abbrev am_S : Type := List am_Ce × Nat
abbrev am_R : Type := Option am_V × am_S
abbrev am_X : Type := Nat × Nat × Int
abbrev am_E : Type := List Nat × Instr × Nat × am_X
abbrev am_L : Type := List (Option am_V)
abbrev am_F : Type := Nat × am_L × List am_V × am_S
abbrev am_i (x : Int32) : am_V := .inl x
abbrev am_l (x : Int64) : am_V := .inr (.inl x)
abbrev am_r (x : Option Nat) : am_V := .inr (.inr x)
/-- cells below this number were there before the law began: they are never written -/
abbrev am_K : Nat := 32
def am_cat : am_V → Nat
  | .inr (.inl _) => 2
  | _ => 1
def am_nar (t : Nat) (x : Int32) : Int32 := match t with
  | 1 => vp_nar .byte x
  | 2 => vp_nar .boolean x
  | 3 => vp_nar .char x
  | _ => x
def am_kill : List Nat → am_L → am_L
  | [], lo => lo
  | k :: ks, lo => am_kill ks (lo.set k none)
/-- a long that stands just ahead of the place is forgotten -/
def am_un (lo : am_L) (i : Nat) : am_L := match i with
  | 0 => lo
  | j + 1 => match lo[j]? with
    | some (some (.inr (.inl _))) => lo.set j none
    | _ => lo
def am_sto (lo : am_L) (i : Nat) (v : am_V) : am_L := (am_un lo i).set i (some v)
def am_sto2 (lo : am_L) (i : Nat) (v : am_V) : am_L := ((am_un lo i).set (i + 1) none).set i (some v)
def am_lo : List am_V → am_L
  | [] => []
  | .inr (.inl x) :: vs => some (.inr (.inl x)) :: none :: am_lo vs
  | .inl x :: vs => some (.inl x) :: am_lo vs
  | .inr (.inr x) :: vs => some (.inr (.inr x)) :: am_lo vs
def am_ent (vs : List am_V) (n : Nat) : am_L := am_lo vs ++ List.replicate (n - (am_lo vs).length) none
-- the heap
def am_obj (h : List am_Ce) (r : Option Nat) (c k : Nat) : Option am_V := match r with
  | none => none
  | some a => match h[a]? with
    | some (.inl o) => if o.1 = c then o.2[k]? else none
    | _ => none
def am_gi (h : List am_Ce) (r : Option Nat) (c k : Nat) : Option Int32 := match am_obj h r c k with
  | some (.inl x) => some x
  | _ => none
def am_gr (h : List am_Ce) (r : Option Nat) (c k : Nat) : Option (Option Nat) := match am_obj h r c k with
  | some (.inr (.inr x)) => some x
  | _ => none
def am_put (s : am_S) (r : Option Nat) (c k : Nat) (v : am_V) : Option am_S := match r with
  | none => none
  | some a => if am_K ≤ a then (match s.1[a]? with
    | some (.inl o) => if o.1 = c ∧ k < o.2.length then some (s.1.set a (.inl (c, o.2.set k v)), s.2) else none
    | _ => none) else none
def am_ial (h : List am_Ce) (r : Option Nat) (t : Nat) (i : Int32) : Option Int32 := match r with
  | none => none
  | some a => match h[a]? with
    | some (.inr (.inl q)) => if q.1 = t ∧ ¬ (i < 0 ∨ q.2.1 ≤ i.toNatClampNeg) then some (q.2.2 i.toNatClampNeg) else none
    | _ => none
def am_ias (s : am_S) (r : Option Nat) (t : Nat) (i x : Int32) : Option am_S := match r with
  | none => none
  | some a => if am_K ≤ a then (match s.1[a]? with
    | some (.inr (.inl q)) => if q.1 = t ∧ ¬ (i < 0 ∨ q.2.1 ≤ i.toNatClampNeg) then some (s.1.set a (.inr (.inl (t, q.2.1, upd q.2.2 i.toNatClampNeg (am_nar t x)))), s.2) else none
    | _ => none) else none
def am_ral (h : List am_Ce) (r : Option Nat) (i : Int32) : Option (Option Nat) := match r with
  | none => none
  | some a => match h[a]? with
    | some (.inr (.inr q)) => if ¬ (i < 0 ∨ q.2.1 ≤ i.toNatClampNeg) then some (q.2.2 i.toNatClampNeg) else none
    | _ => none
/-- may a reference be kept in an array of references: 0 Object, else the class of that number -/
def am_asg (h : List am_Ce) (t : Nat) (v : Option Nat) : Bool := match v with
  | none => true
  | some b => Nat.ble am_K b && match h[b]? with
    | some (.inl o) => (t == 0 || t == o.1) && Nat.blt o.1 14
    | _ => false
def am_ras (s : am_S) (r : Option Nat) (i : Int32) (v : Option Nat) : Option am_S := match r with
  | none => none
  | some a => if am_K ≤ a then (match s.1[a]? with
    | some (.inr (.inr q)) => if ¬ (i < 0 ∨ q.2.1 ≤ i.toNatClampNeg) ∧ am_asg s.1 q.1 v = true then some (s.1.set a (.inr (.inr (q.1, q.2.1, va_up q.2.2 i.toNatClampNeg v))), s.2) else none
    | _ => none) else none
def am_len (h : List am_Ce) (r : Option Nat) : Option Nat := match r with
  | none => none
  | some a => match h[a]? with
    | some (.inr (.inl q)) => some q.2.1
    | some (.inr (.inr q)) => some q.2.1
    | _ => none
def am_is (h : List am_Ce) (r : Option Nat) (c : Nat) : Bool := match r with
  | none => false
  | some a => match h[a]? with
    | some (.inl o) => o.1 == c
    | _ => false
/-- an array of Objects -/
def am_isO (h : List am_Ce) (r : Option Nat) : Bool := match r with
  | none => false
  | some a => match h[a]? with
    | some (.inr (.inr q)) => Nat.ble am_K a && q.1 == 0
    | _ => false
/-- an object of the class of that number; 60: an array of ints -/
def am_isC (h : List am_Ce) (r : Option Nat) (c : Nat) : Bool := match c with
  | 60 => (match r with
    | none => false
    | some a => match h[a]? with
      | some (.inr (.inl q)) => Nat.ble am_K a && q.1 == 0
      | _ => false)
  | c => am_is h r c
/-- null, or an object of that class -/
def am_isN (h : List am_Ce) (r : Option Nat) (c : Nat) : Bool := match r with
  | none => true
  | some a => am_isC h (some a) c
def am_cln (s : am_S) (r : Option Nat) : Option am_S := match r with
  | none => none
  | some a => match s.1[a]? with
    | some (.inr (.inl q)) => if am_K ≤ a ∧ q.1 = 0 ∧ q.2.1 ≤ 65536 then some (s.1 ++ [.inr (.inl (0, q.2.1, fun k => if k < q.2.1 then q.2.2 k else 0))], s.2 + q.2.1) else none
    | _ => none
/-- a reference to a new cell -/
def am_nw (r : Option Nat) : Bool := match r with
  | none => false
  | some y => Nat.ble am_K y
def am_ae (c : ACond) (x y : Nat) : Nat := match c with
  | .eq => x
  | .ne => y
def am_new (s : am_S) (e : am_Ce) (n : Nat) : am_S := (s.1 ++ [e], s.2 + n)
/-- copying between arrays, as System.arraycopy does -/
def am_cpy (s : am_S) (r : Option Nat) (i : Int32) (w : Option Nat) (j n : Int32) : Option am_S := match r, w with
  | some a, some b => if am_K ≤ a ∧ am_K ≤ b ∧ a ≠ b ∧ ¬ i < 0 ∧ ¬ j < 0 ∧ ¬ n < 0 then (match s.1[a]?, s.1[b]? with
    | some (.inr (.inl q)), some (.inr (.inl q')) => if q.1 = 0 ∧ q'.1 = 0 ∧ i.toNatClampNeg + n.toNatClampNeg ≤ q.2.1 ∧ j.toNatClampNeg + n.toNatClampNeg ≤ q'.2.1 then some (s.1.set b (.inr (.inl (0, q'.2.1, va_cpy q.2.2 q'.2.2 i.toNatClampNeg j.toNatClampNeg n.toNatClampNeg))), s.2) else none
    | some (.inr (.inr q)), some (.inr (.inr q')) => if q.1 = 0 ∧ q'.1 = 0 ∧ i.toNatClampNeg + n.toNatClampNeg ≤ q.2.1 ∧ j.toNatClampNeg + n.toNatClampNeg ≤ q'.2.1 ∧ ((List.range n.toNatClampNeg).all fun k => am_asg s.1 0 (q.2.2 (i.toNatClampNeg + k))) = true then some (s.1.set b (.inr (.inr (0, q'.2.1, va_cpy q.2.2 q'.2.2 i.toNatClampNeg j.toNatClampNeg n.toNatClampNeg))), s.2) else none
    | _, _ => none) else none
  | _, _ => none
-- what stands on the stack
section St
variable {ρ : Type}
def am_1i (st : List am_V) (k : Int32 → List am_V → Option ρ) : Option ρ := match st with
  | .inl a :: st => k a st
  | _ => none
def am_2i (st : List am_V) (k : Int32 → Int32 → List am_V → Option ρ) : Option ρ := match st with
  | .inl b :: .inl a :: st => k a b st
  | _ => none
def am_1l (st : List am_V) (k : Int64 → List am_V → Option ρ) : Option ρ := match st with
  | .inr (.inl a) :: st => k a st
  | _ => none
def am_2l (st : List am_V) (k : Int64 → Int64 → List am_V → Option ρ) : Option ρ := match st with
  | .inr (.inl b) :: .inr (.inl a) :: st => k a b st
  | _ => none
def am_li (st : List am_V) (k : Int64 → Int32 → List am_V → Option ρ) : Option ρ := match st with
  | .inl b :: .inr (.inl a) :: st => k a b st
  | _ => none
def am_1r (st : List am_V) (k : Option Nat → List am_V → Option ρ) : Option ρ := match st with
  | .inr (.inr a) :: st => k a st
  | _ => none
def am_2r (st : List am_V) (k : Option Nat → Option Nat → List am_V → Option ρ) : Option ρ := match st with
  | .inr (.inr b) :: .inr (.inr a) :: st => k a b st
  | _ => none
def am_ri (st : List am_V) (k : Option Nat → Int32 → List am_V → Option ρ) : Option ρ := match st with
  | .inl b :: .inr (.inr a) :: st => k a b st
  | _ => none
def am_rii (st : List am_V) (k : Option Nat → Int32 → Int32 → List am_V → Option ρ) : Option ρ := match st with
  | .inl d :: .inl b :: .inr (.inr a) :: st => k a b d st
  | _ => none
def am_rir (st : List am_V) (k : Option Nat → Int32 → Option Nat → List am_V → Option ρ) : Option ρ := match st with
  | .inr (.inr d) :: .inl b :: .inr (.inr a) :: st => k a b d st
  | _ => none
def am_cpyS (st : List am_V) (k : Option Nat → Int32 → Option Nat → Int32 → Int32 → List am_V → Option ρ) : Option ρ := match st with
  | .inl n :: .inl j :: .inr (.inr w) :: .inl i :: .inr (.inr r) :: st => k r i w j n st
  | _ => none
def am_nil (st : List am_V) (k : Option ρ) : Option ρ := match st with
  | [] => k
  | _ => none
def am_1 (st : List am_V) (k : am_V → List am_V → Option ρ) : Option ρ := match st with
  | a :: st => k a st
  | _ => none
def am_dx (st : List am_V) (k : am_V → am_V → List am_V → Option ρ) : Option ρ := match st with
  | a :: b :: st => if am_cat a = 1 ∧ am_cat b = 1 then k a b st else none
  | _ => none
/-- a local -/
def am_ldi (lo : am_L) (i : Nat) (k : Int32 → Option ρ) : Option ρ := match lo[i]? with
  | some (some (.inl x)) => k x
  | _ => none
def am_ldl (lo : am_L) (i : Nat) (k : Int64 → Option ρ) : Option ρ := match lo[i]? with
  | some (some (.inr (.inl x))) => k x
  | _ => none
def am_ldr (lo : am_L) (i : Nat) (k : Option Nat → Option ρ) : Option ρ := match lo[i]? with
  | some (some (.inr (.inr x))) => k x
  | _ => none
def am_cz (c : Jvm.ClassFile.Cond) (x : Int32) (t f : Option ρ) : Option ρ := match c with
  | .eq => if x = 0 then t else f
  | .ne => if x ≠ 0 then t else f
  | .lt => if x < 0 then t else f
  | .ge => if 0 ≤ x then t else f
  | .gt => if 0 < x then t else f
  | .le => if x ≤ 0 then t else f
def am_cc (c : Jvm.ClassFile.Cond) (x y : Int32) (t f : Option ρ) : Option ρ := match c with
  | .eq => if x = y then t else f
  | .ne => if x ≠ y then t else f
  | .lt => if x < y then t else f
  | .ge => if y ≤ x then t else f
  | .gt => if y < x then t else f
  | .le => if x ≤ y then t else f
def am_sw (x : Int32) : Nat → List Int → (Int → Option ρ) → Option ρ → Option ρ
  | _, [], _, d => d
  | k, o :: os, g, d => if x = OfNat.ofNat k then g o else am_sw x (k + 1) os g d
/-- null, or a new cell -/
def am_ifn (r : Option Nat) (t f : Option ρ) : Option ρ := match r with
  | none => t
  | some a => if am_nw (some a) = true then f else none
def am_tg (pc : Nat) (off : Int) : Nat := ((pc : Int) + off).toNat
def am_pop (n : Nat) (st : List am_V) (k : List am_V → List am_V → Option ρ) : Option ρ := if n ≤ st.length ∧ ((st.drop n).map am_cat).sum ≤ 8 then k (st.take n).reverse (st.drop n) else none
def am_rcv (h : List am_Ce) (c : Nat) (as : List am_V) (k : Option ρ) : Option ρ := match as with
  | .inr (.inr r) :: _ => if am_is h r c = true then k else none
  | _ => none
def am_psh (v : Option am_V) (st : List am_V) : List am_V := match v with
  | none => st
  | some v => v :: st
-- what a call answers
def am_q0 (o : Option am_R) (k : am_S → Option ρ) : Option ρ := match o with
  | some (none, s) => k s
  | _ => none
def am_qi (o : Option am_R) (k : Int32 → am_S → Option ρ) : Option ρ := match o with
  | some (some (.inl v), s) => k v s
  | _ => none
def am_ql (o : Option am_R) (k : Int64 → am_S → Option ρ) : Option ρ := match o with
  | some (some (.inr (.inl v)), s) => k v s
  | _ => none
def am_qr (o : Option am_R) (k : Option Nat → am_S → Option ρ) : Option ρ := match o with
  | some (some (.inr (.inr v)), s) => k v s
  | _ => none
def am_ans (k : Nat) (o : Option am_R) (go : List am_V → am_S → Option ρ) (rest : List am_V) : Option ρ := match k with
  | 0 => am_q0 o fun s => go rest s
  | 1 => am_qi o fun v s => go (am_i v :: rest) s
  | 2 => am_ql o fun v s => go (am_l v :: rest) s
  | _ => am_qr o fun v s => go (am_r v :: rest) s
end St
