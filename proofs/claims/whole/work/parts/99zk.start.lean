/-! The state behind the two constructors. -/
section Sta
variable {xs : Int → Int} {L : Int}
def sD (xs : Int → Int) (L : Int) : aD := fun c i => if c = 0 then xs i else if c = 1 then (if i = 0 then L else 0) else if c = 36 then (if 0 ≤ i ∧ i < 24 then -1 else 0) else if c = 47 then (if i = 3 then -1 else 0) else if c = 70 then (if i = 32 then -1 else 0) else if c = 900 then (if (0 ≤ i ∧ i ≤ 5) ∨ i = 16 then 1 else 0) else if c = 902 then (if i = 0 ∨ i = 1 then 1 else 0) else if c = 914 ∨ c = 923 ∨ c = 924 ∨ c = 925 then (if i = 8 then 1 else 0) else if c = 950 then (if i = 0 then 135 else 0) else if c = 951 then (if i = 0 then 41124 else 0) else if c = 1200 ∨ c = 1201 then -1 else if c = 2400 then (if i = 8 then -1 else 0) else if c = 2406 then (if i = 8 then 30 else 0) else if c = 2410 then (if i = 8 then 3 else 0) else if c = 3300 ∨ c = 3400 ∨ c = 3500 then (if i = 8 then 6 else 0) else 0
def sA : aA := fun t i => if t = 0 then (if i = 0 then 37 else if i = 1 then 38 else if i = 2 then 39 else if i = 3 then 40 else if i = 4 then 41 else if i = 5 then 51 else 43) else if t = 1 then 1 else if t = 2 then (if i = 0 then 63 else 65) else if t = 14 then 42 else if t = 23 then 44 else if t = 24 then 45 else if t = 25 then 46 else 0
theorem sD_0 {c : Nat} {i : Int} (h : c ≠ 0 ∧ c ≠ 1 ∧ c ≠ 36 ∧ c ≠ 47 ∧ c ≠ 70 ∧ c ≠ 900 ∧ c ≠ 902 ∧ c ≠ 914 ∧ c ≠ 923 ∧ c ≠ 924 ∧ c ≠ 925 ∧ c ≠ 950 ∧ c ≠ 951 ∧ c ≠ 1200 ∧ c ≠ 1201 ∧ c ≠ 2400 ∧ c ≠ 2406 ∧ c ≠ 2410 ∧ c ≠ 3300 ∧ c ≠ 3400 ∧ c ≠ 3500) : sD xs L c i = 0 := by
  unfold sD
  rw [if_neg (by omega), if_neg (by omega), if_neg (by omega), if_neg (by omega), if_neg (by omega), if_neg (by omega), if_neg (by omega), if_neg (by omega), if_neg (by omega), if_neg (by omega), if_neg (by omega), if_neg (by omega), if_neg (by omega), if_neg (by omega), if_neg (by omega)]
def scr (xs : Int → Int) (L : Nat) : am_Ce := .inr (.inl (0, L, fun i => wz (xs i)))
def old (xs : Int → Int) (L : Nat) : List am_Ce := scr xs L :: odl.tail
def hp0 (xs : Int → Int) (L : Nat) : List am_Ce := old xs L ++ [.inl (12, [am_r (some 33), am_r (some 34), am_r (some 35), am_r (some 36), am_r (some 37), am_r (some 38), am_r (some 39), am_r (some 40), am_r (some 41), am_r (some 42), am_r (some 47), am_r (some 50), am_r (some 53), am_r (some 62), am_i 0, am_i 0, am_i 0, am_i 0]), zI 5, zI 12, zI 13, z24, l3, l3, l3, l3, l3, .inl (8, [am_i (wz (-1)), am_i (wz (0)), am_r (some 43), am_r (some 44), am_r (some 45), am_r (some 46), am_i (wz 30), am_i 0, am_i 0, am_i 0, am_i (wz 3), am_i 0]), l3, r6, r6, r6, .inl (7, [am_r (some 48), am_r (some 49), am_i 0, am_i (wz (-1)), am_i 0, am_i 0, am_i 0, am_i 0, am_i 0]), zB 700, zI 700, .inl (4, [am_r (some 51), am_r (some 52)]), l3, zI 6, .inl (3, [am_r (some 54), am_r (some 55), am_r (some 56), am_r (some 57), am_r (some 58), am_r (some 59), am_r (some 60), am_r (some 61)]), zI 312, zI 24, zI 720, zI 720, zI 30, zI 30, zI 24, zI 24, .inl (2, [am_r (some 63), am_r (some 64), am_r (some 65), am_r (some 66), am_r (some 67), am_r (some 68), am_r (some 69), am_i 0, am_i 0, am_i 0, am_i 0]), zQ 5 6, zI 6, zQ 9 6, zI 6, zI 36, zI 448, zI 6] ++ [.inl (13, [am_i 0, am_i 0, am_i 0, am_i 0, am_i 0, am_r (some 71), am_r (some 72), am_r (some 73), am_r (some 74), am_r (some 75), am_r (some 76), am_r (some 77), am_r (some 78), am_r (some 79), am_r (some 80), am_r (some 81), am_r (some 82), am_r (some 83), am_r (some 84), am_r (some 85), am_r (some 86), am_r (some 87), am_r (some 88), am_r (some 89), am_r (some 90), am_r (some 91), am_i 0, am_i 0, am_i 0, am_i 0, am_i 0, am_i 0, am_i (wz (-1)), am_r (some 92), am_r (some 93), am_r (some 94), am_r (some 95), am_r (some 96), am_r (some 97), am_r (some 98), am_r (some 99), am_r (some 100), am_r (some 101), am_r (some 102), am_r (some 103), am_r (some 104), am_r (some 105), am_r (some 106), am_r (some 107), am_i 0, am_i 0, am_i 0, am_r (some 108), am_r (some 109), am_r (some 110), am_r (some 111), am_r (some 112), am_r (some 113), am_r (some 114), am_r (some 115), am_r (some 116), am_r (some 117), am_r (some 118), am_r (some 119), am_r (some 120), am_r (some 121), am_r (some 122), am_r (some 123), am_i 0, am_i 0, am_i 0, am_i 0, am_r (some 124), am_r (some 125), am_r (some 126), am_r (some 127), am_r (some 128), am_r (some 129), am_i 0, am_r (some 130), am_r (some 131), am_r (some 132), am_r (some 133), am_i 0, am_i 0, am_r (some 134)]), zI 24, zI 24, zI 24, zI 24, zI 12, zI 5, zI 30, zI 30, zI 30, zI 30, zI 30, zI 30, zI 60, zI 60, zI 60, zI 60, zI 60, zI 60, zI 60, zI 60, zI 60, zI 9, zI 9, zI 270, zI 270, zI 270, zI 270, zI 270, zI 5200, zI 5200, zI 5200, zI 5200, zI 5200, zI 5200, zI 6, zB 700, zB 700, zI 60, zI 60, zI 60, zI 60, zI 60, zI 60, zI 720, zI 720, zI 24, zI 24, zI 30, zI 24, zZ 30, zZ 24, zI 6, zI 6, zI 6, zI 6, zI 6, zI 6, zI 6, zI 6, zI 60, zI 60, zI 60, zZ 60, zI 30]
set_option maxRecDepth 100000 in
theorem hp0_len (L : Nat) : (hp0 xs L).length = 135 := rfl
theorem zI_eq {A : aA} {g : Int → Int} {n : Nat} (h : ∀ i, g i = 0) : zI n = mkS A g (.inr (0, n)) := by
  show (Sum.inr (Sum.inl (0, n, fun _ => 0)) : am_Ce) = .inr (.inl (0, n, fun i => wz (g i)))
  simp only [h]; rfl
theorem zB_eq {A : aA} {g : Int → Int} {n : Nat} (h : ∀ i, g i = 0) : zB n = mkS A g (.inr (1, n)) := by
  show (Sum.inr (Sum.inl (1, n, fun _ => 0)) : am_Ce) = .inr (.inl (1, n, fun i => wz (g i)))
  simp only [h]; rfl
theorem zZ_eq {A : aA} {g : Int → Int} {n : Nat} (h : ∀ i, g i = 0) : zZ n = mkS A g (.inr (2, n)) := by
  show (Sum.inr (Sum.inl (2, n, fun _ => 0)) : am_Ce) = .inr (.inl (2, n, fun i => wz (g i)))
  simp only [h]; rfl
theorem z24_eq {A : aA} : z24 = mkS A (sD xs L 36) (.inr (0, 24)) := by
  show (Sum.inr (Sum.inl (0, 24, fun q => if q < 24 then wz (-1) else 0)) : am_Ce) = .inr (.inl (0, 24, fun i => wz (sD xs L 36 i)))
  have : (fun q : Nat => if q < 24 then wz (-1) else 0) = fun i : Nat => wz (sD xs L 36 i) := by
    funext q
    have e : sD xs L 36 q = if 0 ≤ (q : Int) ∧ (q : Int) < 24 then -1 else 0 := rfl
    rw [e]
    by_cases z : q < 24
    · rw [if_pos z, if_pos ⟨by omega, by omega⟩]
    · rw [if_neg z, if_neg (by omega)]; rfl
  rw [this]
/-- the cells that stand at their own addresses -/
def All2 (A : aA) (D : aD) : Nat → List (Option aSh) → List am_Ce → Prop
  | _, [], _ => True
  | k, o :: os, c :: cs => (∀ sh, o = some sh → c = mkS A (D k) sh) ∧ All2 A D (k + 1) os cs
  | _, _ :: _, [] => False
theorem All2_at {A : aA} {D : aD} : ∀ (os : List (Option aSh)) (cs : List am_Ce) (k : Nat), All2 A D k os cs → ∀ j sh, os[j]? = some (some sh) → cs[j]? = some (mkS A (D (k + j)) sh)
  | [], _, _, _, j, sh, h => by simp at h
  | _ :: _, [], _, h, _, _, _ => h.elim
  | o :: os, c :: cs, k, h, j, sh, hj => by
    cases j with
    | zero => simp only [List.getElem?_cons_zero, Option.some.injEq] at hj ⊢; exact h.1 sh hj
    | succ j =>
      simp only [List.getElem?_cons_succ] at hj ⊢
      have := All2_at os cs (k + 1) h.2 j sh hj
      rw [show k + 1 + j = k + (j + 1) by omega] at this
      exact this
set_option maxRecDepth 100000 in
theorem st_all {L : Nat} : All2 sA (sD xs L) 0 shl (hp0 xs L) :=
  ⟨(fun sh h => nomatch h),
   (fun sh h => nomatch h),
   (fun sh h => nomatch h),
   (fun sh h => nomatch h),
   (fun sh h => nomatch h),
   (fun sh h => nomatch h),
   (fun sh h => nomatch h),
   (fun sh h => nomatch h),
   (fun sh h => nomatch h),
   (fun sh h => nomatch h),
   (fun sh h => nomatch h),
   (fun sh h => nomatch h),
   (fun sh h => nomatch h),
   (fun sh h => nomatch h),
   (fun sh h => nomatch h),
   (fun sh h => nomatch h),
   (fun sh h => nomatch h),
   (fun sh h => nomatch h),
   (fun sh h => nomatch h),
   (fun sh h => nomatch h),
   (fun sh h => nomatch h),
   (fun sh h => nomatch h),
   (fun sh h => nomatch h),
   (fun sh h => nomatch h),
   (fun sh h => nomatch h),
   (fun sh h => nomatch h),
   (fun sh h => nomatch h),
   (fun sh h => nomatch h),
   (fun sh h => nomatch h),
   (fun sh h => nomatch h),
   (fun sh h => nomatch h),
   (fun sh h => nomatch h),
   (fun sh h => by cases h; rfl),
   (fun sh h => by cases h; exact zI_eq (fun i => sD_0 (by decide))),
   (fun sh h => by cases h; exact zI_eq (fun i => sD_0 (by decide))),
   (fun sh h => by cases h; exact zI_eq (fun i => sD_0 (by decide))),
   (fun sh h => by cases h; exact z24_eq),
   (fun sh h => nomatch h),
   (fun sh h => nomatch h),
   (fun sh h => nomatch h),
   (fun sh h => nomatch h),
   (fun sh h => nomatch h),
   (fun sh h => nomatch h),
   (fun sh h => nomatch h),
   (fun sh h => nomatch h),
   (fun sh h => nomatch h),
   (fun sh h => nomatch h),
   (fun sh h => by cases h; rfl),
   (fun sh h => by cases h; exact zB_eq (fun i => sD_0 (by decide))),
   (fun sh h => by cases h; exact zI_eq (fun i => sD_0 (by decide))),
   (fun sh h => by cases h; rfl),
   (fun sh h => nomatch h),
   (fun sh h => by cases h; exact zI_eq (fun i => sD_0 (by decide))),
   (fun sh h => by cases h; rfl),
   (fun sh h => by cases h; exact zI_eq (fun i => sD_0 (by decide))),
   (fun sh h => by cases h; exact zI_eq (fun i => sD_0 (by decide))),
   (fun sh h => by cases h; exact zI_eq (fun i => sD_0 (by decide))),
   (fun sh h => by cases h; exact zI_eq (fun i => sD_0 (by decide))),
   (fun sh h => by cases h; exact zI_eq (fun i => sD_0 (by decide))),
   (fun sh h => by cases h; exact zI_eq (fun i => sD_0 (by decide))),
   (fun sh h => by cases h; exact zI_eq (fun i => sD_0 (by decide))),
   (fun sh h => by cases h; exact zI_eq (fun i => sD_0 (by decide))),
   (fun sh h => by cases h; rfl),
   (fun sh h => nomatch h),
   (fun sh h => by cases h; exact zI_eq (fun i => sD_0 (by decide))),
   (fun sh h => nomatch h),
   (fun sh h => by cases h; exact zI_eq (fun i => sD_0 (by decide))),
   (fun sh h => by cases h; exact zI_eq (fun i => sD_0 (by decide))),
   (fun sh h => by cases h; exact zI_eq (fun i => sD_0 (by decide))),
   (fun sh h => by cases h; exact zI_eq (fun i => sD_0 (by decide))),
   (fun sh h => by cases h; rfl),
   (fun sh h => by cases h; exact zI_eq (fun i => sD_0 (by decide))),
   (fun sh h => by cases h; exact zI_eq (fun i => sD_0 (by decide))),
   (fun sh h => by cases h; exact zI_eq (fun i => sD_0 (by decide))),
   (fun sh h => by cases h; exact zI_eq (fun i => sD_0 (by decide))),
   (fun sh h => by cases h; exact zI_eq (fun i => sD_0 (by decide))),
   (fun sh h => by cases h; exact zI_eq (fun i => sD_0 (by decide))),
   (fun sh h => by cases h; exact zI_eq (fun i => sD_0 (by decide))),
   (fun sh h => by cases h; exact zI_eq (fun i => sD_0 (by decide))),
   (fun sh h => by cases h; exact zI_eq (fun i => sD_0 (by decide))),
   (fun sh h => by cases h; exact zI_eq (fun i => sD_0 (by decide))),
   (fun sh h => by cases h; exact zI_eq (fun i => sD_0 (by decide))),
   (fun sh h => by cases h; exact zI_eq (fun i => sD_0 (by decide))),
   (fun sh h => by cases h; exact zI_eq (fun i => sD_0 (by decide))),
   (fun sh h => by cases h; exact zI_eq (fun i => sD_0 (by decide))),
   (fun sh h => by cases h; exact zI_eq (fun i => sD_0 (by decide))),
   (fun sh h => by cases h; exact zI_eq (fun i => sD_0 (by decide))),
   (fun sh h => by cases h; exact zI_eq (fun i => sD_0 (by decide))),
   (fun sh h => by cases h; exact zI_eq (fun i => sD_0 (by decide))),
   (fun sh h => by cases h; exact zI_eq (fun i => sD_0 (by decide))),
   (fun sh h => by cases h; exact zI_eq (fun i => sD_0 (by decide))),
   (fun sh h => by cases h; exact zI_eq (fun i => sD_0 (by decide))),
   (fun sh h => by cases h; exact zI_eq (fun i => sD_0 (by decide))),
   (fun sh h => by cases h; exact zI_eq (fun i => sD_0 (by decide))),
   (fun sh h => by cases h; exact zI_eq (fun i => sD_0 (by decide))),
   (fun sh h => by cases h; exact zI_eq (fun i => sD_0 (by decide))),
   (fun sh h => by cases h; exact zI_eq (fun i => sD_0 (by decide))),
   (fun sh h => by cases h; exact zI_eq (fun i => sD_0 (by decide))),
   (fun sh h => by cases h; exact zI_eq (fun i => sD_0 (by decide))),
   (fun sh h => by cases h; exact zI_eq (fun i => sD_0 (by decide))),
   (fun sh h => by cases h; exact zI_eq (fun i => sD_0 (by decide))),
   (fun sh h => by cases h; exact zI_eq (fun i => sD_0 (by decide))),
   (fun sh h => by cases h; exact zI_eq (fun i => sD_0 (by decide))),
   (fun sh h => by cases h; exact zI_eq (fun i => sD_0 (by decide))),
   (fun sh h => by cases h; exact zI_eq (fun i => sD_0 (by decide))),
   (fun sh h => by cases h; exact zI_eq (fun i => sD_0 (by decide))),
   (fun sh h => by cases h; exact zB_eq (fun i => sD_0 (by decide))),
   (fun sh h => by cases h; exact zB_eq (fun i => sD_0 (by decide))),
   (fun sh h => by cases h; exact zI_eq (fun i => sD_0 (by decide))),
   (fun sh h => by cases h; exact zI_eq (fun i => sD_0 (by decide))),
   (fun sh h => by cases h; exact zI_eq (fun i => sD_0 (by decide))),
   (fun sh h => by cases h; exact zI_eq (fun i => sD_0 (by decide))),
   (fun sh h => by cases h; exact zI_eq (fun i => sD_0 (by decide))),
   (fun sh h => by cases h; exact zI_eq (fun i => sD_0 (by decide))),
   (fun sh h => by cases h; exact zI_eq (fun i => sD_0 (by decide))),
   (fun sh h => by cases h; exact zI_eq (fun i => sD_0 (by decide))),
   (fun sh h => by cases h; exact zI_eq (fun i => sD_0 (by decide))),
   (fun sh h => by cases h; exact zI_eq (fun i => sD_0 (by decide))),
   (fun sh h => by cases h; exact zI_eq (fun i => sD_0 (by decide))),
   (fun sh h => by cases h; exact zI_eq (fun i => sD_0 (by decide))),
   (fun sh h => by cases h; exact zZ_eq (fun i => sD_0 (by decide))),
   (fun sh h => by cases h; exact zZ_eq (fun i => sD_0 (by decide))),
   (fun sh h => by cases h; exact zI_eq (fun i => sD_0 (by decide))),
   (fun sh h => by cases h; exact zI_eq (fun i => sD_0 (by decide))),
   (fun sh h => by cases h; exact zI_eq (fun i => sD_0 (by decide))),
   (fun sh h => by cases h; exact zI_eq (fun i => sD_0 (by decide))),
   (fun sh h => by cases h; exact zI_eq (fun i => sD_0 (by decide))),
   (fun sh h => by cases h; exact zI_eq (fun i => sD_0 (by decide))),
   (fun sh h => by cases h; exact zI_eq (fun i => sD_0 (by decide))),
   (fun sh h => by cases h; exact zI_eq (fun i => sD_0 (by decide))),
   (fun sh h => by cases h; exact zI_eq (fun i => sD_0 (by decide))),
   (fun sh h => by cases h; exact zI_eq (fun i => sD_0 (by decide))),
   (fun sh h => by cases h; exact zI_eq (fun i => sD_0 (by decide))),
   (fun sh h => by cases h; exact zZ_eq (fun i => sD_0 (by decide))),
   (fun sh h => by cases h; exact zI_eq (fun i => sD_0 (by decide))),
   trivial⟩
end Sta
