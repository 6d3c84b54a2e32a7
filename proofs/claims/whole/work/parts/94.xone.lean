/-! The class reads a single condition; what its codes say. -/
section Xon
variable {n : Nat} {A : aA} {D D' : aD} {T : Int → Int} {N a : Int}
def LB (K : Nat) (f : Int → Int) (s : List Bool) (cs : List Int) : Prop := ∀ i, ((cs.take i).foldl (ev1 f) s).length ≤ K
theorem LB_app {K : Nat} {f : Int → Int} {s : List Bool} {xs ys : List Int} (h : LB K f s xs) (g : LB K f (xs.foldl (ev1 f) s) ys) : LB K f s (xs ++ ys) := by
  intro i
  rw [List.take_append, List.foldl_append]
  by_cases q : i ≤ xs.length
  · rw [show i - xs.length = 0 by omega, List.take_zero]
    exact h i
  · rw [List.take_of_length_le (show xs.length ≤ i by omega)]
    exact g _
theorem LB_one {K : Nat} {f : Int → Int} {s : List Bool} {c : Int} (h : s.length ≤ K) (g : (ev1 f s c).length ≤ K) : LB K f s [c] := by
  intro i
  cases i with
  | zero => exact h
  | succ i => simp only [List.take_succ_cons, List.take_nil, List.foldl_cons, List.foldl_nil]; exact g
theorem LB_nil {K : Nat} {f : Int → Int} {s : List Bool} (h : s.length ≤ K) : LB K f s [] := by
  intro i
  rw [List.take_nil]; exact h
theorem LB_le {K K' : Nat} {f : Int → Int} {s : List Bool} {cs : List Int} (h : LB K f s cs) (hk : K ≤ K') : LB K' f s cs := fun i => Nat.le_trans (h i) hk
def stk (w : Bool) (o x : Tf) (f : Int → Int) (s : List Bool) : List Bool := if w = true then x f :: o f :: s else x f :: s
theorem or_cs {H : Nat} (w : Bool) (o x : Tf) (f : Int → Int) (s : List Bool) : (if w = true then [-3] else [] : List Int).foldl (ev1 f) (stk w o x f s) = (fun g => if w = true then o g || x g else x g) f :: s ∧ LB (s.length + 2 + H) f (stk w o x f s) (if w = true then [-3] else []) := by
  cases w with
  | false => exact ⟨rfl, LB_nil (by show (x f :: s).length ≤ _; simp only [List.length_cons]; omega)⟩
  | true =>
    refine ⟨rfl, LB_one ?_ ?_⟩
    · show (x f :: o f :: s).length ≤ _
      simp only [List.length_cons]; omega
    · show ((o f || x f) :: s).length ≤ _
      simp only [List.length_cons]; omega
theorem cds_sem {H : Nat} (f : Int → Int) (s : List Bool) : ∀ (its : List (Bool × Itm)) (w : Bool) (o x : Tf), (∀ y ∈ its, Psh H y.2) → (cds w its).foldl (ev1 f) (stk w o x f s) = val w o x its f :: s ∧ LB (s.length + 2 + H) f (stk w o x f s) (cds w its)
  | [], w, o, x, _ => or_cs w o x f s
  | (k, v) :: its, w, o, x, h => by
    have hv : Psh H v := h (k, v) (by simp)
    have hi : ∀ y ∈ its, Psh H y.2 := fun y hy => h y (List.mem_cons_of_mem _ hy)
    cases k with
    | true =>
      have ih := cds_sem f s its w o (fun g => x g && v.1 g) hi
      obtain ⟨v1, v2⟩ := hv.2 f (stk w o x f s)
      have e : ev1 f (v.1 f :: stk w o x f s) (-2) = stk w o (fun g => x g && v.1 g) f s := by cases w <;> rfl
      have hl : (stk w o x f s).length ≤ s.length + 2 := by cases w <;> (show List.length (_ :: _) ≤ _) <;> simp only [List.length_cons] <;> omega
      have hl2 : (stk w o (fun g => x g && v.1 g) f s).length ≤ s.length + 2 := by cases w <;> (show List.length (_ :: _) ≤ _) <;> simp only [List.length_cons] <;> omega
      have hl3 : (v.1 f :: stk w o x f s).length ≤ s.length + 2 + H := by rw [← v1]; have := v2 v.2.length; rw [List.take_length] at this; omega
      show (v.2 ++ ([-2] ++ cds w its)).foldl (ev1 f) _ = _ ∧ LB _ f _ (v.2 ++ ([-2] ++ cds w its))
      rw [List.foldl_append, v1, List.foldl_append]
      refine ⟨?_, LB_app (LB_le v2 (by omega)) ?_⟩
      · show (cds w its).foldl (ev1 f) (ev1 f (v.1 f :: stk w o x f s) (-2)) = _
        rw [e]; exact ih.1
      · rw [v1]
        refine LB_app (LB_one hl3 (by rw [e]; omega)) ?_
        show LB _ f (ev1 f (v.1 f :: stk w o x f s) (-2)) _
        rw [e]; exact ih.2
    | false =>
      have ih := cds_sem f s its true (fun g => if w = true then o g || x g else x g) v.1 hi
      obtain ⟨q1, q2⟩ := or_cs (H := H) w o x f s
      obtain ⟨v1, v2⟩ := hv.2 f ((fun g => if w = true then o g || x g else x g) f :: s)
      show ((if w = true then [-3] else []) ++ (v.2 ++ cds true its)).foldl (ev1 f) _ = _ ∧ LB _ f _ ((if w = true then [-3] else []) ++ (v.2 ++ cds true its))
      rw [List.foldl_append, q1, List.foldl_append, v1]
      refine ⟨ih.1, LB_app q2 ?_⟩
      rw [q1]
      refine LB_app (LB_le v2 (by simp only [List.length_cons]; omega)) ?_
      rw [v1]; exact ih.2
theorem Sq_psh {d : Nat} : ∀ (its : List (Bool × Itm)) (b : Int) (e : Option Bool) (a' : Int), Sq T N d b its e a' → ∀ y ∈ its, Psh (2 * (10 - d) + 1) y.2
  | [], _, _, _, _, y, hy => absurd hy (by simp)
  | (k, v) :: its, b, e, a', h, y, hy => by
    obtain ⟨h1, b', h2, h3⟩ := h
    rcases List.mem_cons.mp hy with q | q
    · rw [q]; exact h2.2.2.1.2.2
    · exact Sq_psh its b' e a' h3 y q
theorem cds_rg : ∀ (its : List (Bool × Itm)) (w : Bool) (H : Nat), (∀ y ∈ its, Psh H y.2) → ∀ c ∈ cds w its, -3 ≤ c ∧ c < 180000
  | [], w, H, _, c, hc => by
    cases w with
    | false => exact absurd hc (by simp [cds])
    | true =>
      have : c = -3 := by simpa [cds] using hc
      omega
  | (k, v) :: its, w, H, h, c, hc => by
    have hv := (h (k, v) (by simp)).1
    have hi : ∀ y ∈ its, Psh H y.2 := fun y hy => h y (List.mem_cons_of_mem _ hy)
    have i1 := fun w => cds_rg its w H hi c
    cases k with
    | true =>
      have hc' : c ∈ v.2 ++ ([-2] ++ cds w its) := hc
      rcases List.mem_append.mp hc' with q | q
      · exact hv c q
      · rcases List.mem_append.mp q with q | q
        · have : c = -2 := by simpa using q
          omega
        · exact i1 w q
    | false =>
      have hc' : c ∈ (if w = true then [-3] else []) ++ (v.2 ++ cds true its) := hc
      rcases List.mem_append.mp hc' with q | q
      · cases w with
        | false => exact absurd q (by simp)
        | true =>
          have : c = -3 := by simpa using q
          omega
      · rcases List.mem_append.mp q with q | q
        · exact hv c q
        · exact i1 true q
theorem cds_len {d : Nat} : ∀ (its : List (Bool × Itm)) (b : Int) (a' : Int) (w : Bool), Tok T N b → Sq T N d b its none a' → ((cds w its).length : Int) ≤ a' - b + bi w
  | [], b, a', w, _, h => by
    rw [h.1]
    cases w <;> simp [cds, bi]
  | (k, v) :: its, b, a', w, ht, h => by
    obtain ⟨h1, b', h2, h3⟩ := h
    have l1 := (Wd_tn ht h1).1
    have o2 := h2.2.2.1.2.1
    cases k with
    | true =>
      have i1 := cds_len its b' a' w h2.1 h3
      have l3 : ((cnn true).length : Int) = 3 := rfl
      show (((v.2 ++ ([-2] ++ cds w its)).length : Nat) : Int) ≤ _
      simp only [List.length_append, List.length_cons, List.length_nil]
      omega
    | false =>
      have i1 := cds_len its b' a' true h2.1 h3
      rw [bi1] at i1
      have l3 : ((cnn false).length : Int) = 2 := rfl
      show ((((if w = true then [-3] else []) ++ (v.2 ++ cds true its)).length : Nat) : Int) ≤ _
      cases w with
      | false => simp only [List.length_append, Bool.false_eq_true, if_false, List.length_nil, bi0]; omega
      | true => simp only [List.length_append, if_true, List.length_cons, List.length_nil, bi1]; omega
def anyR (v : Itm) (its : List (Bool × Itm)) (e : Option Bool) : Option Itm := if e = none then some (val false v.1 v.1 its, v.2 ++ cds false its) else none
theorem any_ok {d : Nat} {v : Itm} {b : Int} {its : List (Bool × Itm)} {e : Option Bool} {a' : Int} (h1 : Sd T N d a (some v) b) (h2 : Sq T N d b its e a') (h3 : b ≤ a') : Rok (2 * (10 - d) + 3) a a' (anyR v its e) := by
  unfold anyR
  cases e with
  | some k => exact trivial
  | none =>
    obtain ⟨t1, t2, ⟨o1, o2, o3⟩, _⟩ := h1
    have hp := Sq_psh its b none a' h2
    have hl := cds_len its b a' false t1 h2
    rw [bi0] at hl
    refine ⟨by omega, ?_, fun c hc => ?_, fun f s => ?_⟩
    · show (((v.2 ++ cds false its).length : Nat) : Int) ≤ _
      simp only [List.length_append]; omega
    · rcases List.mem_append.mp hc with q | q
      · exact o3.1 c q
      · exact cds_rg its false _ hp c q
    · obtain ⟨v1, v2⟩ := o3.2 f s
      have hs := cds_sem f s its false v.1 v.1 hp
      show (v.2 ++ cds false its).foldl (ev1 f) s = _ ∧ LB _ f s (v.2 ++ cds false its)
      rw [List.foldl_append, v1]
      refine ⟨hs.1, LB_app (LB_le v2 (by omega)) ?_⟩
      rw [v1]
      exact LB_le hs.2 (by omega)
theorem any_x {d : Nat} (hd : d ≤ 10) (hT : Txt T N) {v : Itm} {b : Int} {its : List (Bool × Itm)} {e : Option Bool} {a' : Int} (h1 : Sd T N d a (some v) b) (h2 : Sq T N d b its e a') : XR T N 44 (8 + 2 * (10 - d)) d a (anyR v its e) a' := by
  intro n A D hx h5 hb
  obtain ⟨t1, t2, ⟨o1, o2, o3⟩, x1, _⟩ := h1
  obtain ⟨D1, v1, v2, v3, v4⟩ := x1 n A D hx h5 hb
  have c1 := v4.1
  have c2 : D1 47 5 + bi false ≤ b := by rw [bi0]; omega
  have tb := t1.1
  obtain ⟨D', k1, k2, k3, k4⟩ := K_any_x (n := n) (A := A) hd hT its b e a' false 0 D1 h2 t1 v3 (by omega) c2 ⟨by omega, by omega⟩
  refine ⟨D', ?_, v2.trans k2, ?_⟩
  · have := rl_X6_readAny (n := n) (A := A) (D := D) (D' := D') (c := 7 + 2 * (10 - d)) (by omega) (d : Int) (rgb (by omega) (by omega)) ⟨D1, v1, k1⟩
    exact Ev_le this (by omega)
  · unfold anyR
    cases e with
    | none => exact ⟨(k3 rfl).1, v4.trans (k3 rfl).2⟩
    | some k => exact k4 (fun q => nomatch q)
theorem any_x0 {d : Nat} (hd : d ≤ 10) {a' : Int} (h1 : Sd T N d a none a') : XR T N 44 (8 + 2 * (10 - d)) d a none a' := by
  intro n A D hx h5 hb
  obtain ⟨t1, t2, _, x1, _⟩ := h1
  obtain ⟨D1, v1, v2, v3⟩ := x1 n A D hx h5 hb
  have v3' : D1 47 3 = a' := v3.1
  have hf : D1 47 3 ≠ -1 := by have := t1.1; omega
  refine ⟨D1, ?_, v2, v3⟩
  have := rl_X6_readAny (n := n) (A := A) (D := D) (D' := D1) (c := 7 + 2 * (10 - d)) (by omega) (d : Int) (rgb (by omega) (by omega)) ⟨D1, v1, ka_f (by omega) false (rgb (by omega) (by omega)) (rgb (by omega) (by omega)) hf⟩
  exact Ev_le this (by omega)
end Xon
