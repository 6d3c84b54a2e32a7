/-! The class reads a row of statements into book k. -/
section Xlp
variable {n : Nat} {A A' : aA} {D D' E D0 : aD} {T : Int → Int} {N a b e g k : Int} {s f : Nat → Int} {w : Nat → Option Itm} {M : Nat}
/-- what reading into book k may change -/
def LF (k : Int) (D0 D : aD) : Prop := (∀ c, c ≠ 47 → c ≠ 49 → c ≠ 916 → c ≠ 922 → c ≠ 3200 → c ≠ 3201 → c ≠ 3301 → c ≠ 950 → c ≠ 951 → c ≠ 1000 → c ≠ 1002 → c ≠ 901 → c ≠ 1100 → (c < 2600 ∨ 2605 < c) → (c < 2406 ∨ 2411 < c) → D c = D0 c) ∧ (∀ c, (2600 ≤ c ∧ c ≤ 2605) ∨ c = 916 ∨ c = 922 ∨ c = 3200 → ∀ i, i < 64 * k ∨ 64 * k + 64 ≤ i → D c i = D0 c i) ∧ (∀ j, j < 1024 * (64 * k) ∨ 1024 * (64 * k + 64) ≤ j → D 3201 j = D0 3201 j) ∧ (∀ i, i < 3 ∨ i = 4 ∨ 8 < i → D 47 i = D0 47 i) ∧ (∀ c, c = 1002 ∨ c = 901 ∨ c = 1100 → ∀ i, i ≠ 8 + k → D c i = D0 c i) ∧ (∀ c, 2406 ≤ c → c ≤ 2411 → ∀ i, i ≠ k → D c i = D0 c i) ∧ (∀ j, j < 1024 * k ∨ 1024 * k + 1024 ≤ j → D 3301 j = D0 3301 j)
theorem LF.refl (k : Int) (D : aD) : LF k D D := ⟨fun _ _ _ _ _ _ _ _ _ _ _ _ _ _ _ _ => rfl, fun _ _ _ _ => rfl, fun _ _ => rfl, fun _ _ => rfl, fun _ _ _ _ => rfl, fun _ _ _ _ _ => rfl, fun _ _ => rfl⟩
theorem LF.trans {D1 D2 D3 : aD} (h : LF k D1 D2) (q : LF k D2 D3) : LF k D1 D3 := by
  obtain ⟨h1, h2, h3, h4, h5, h6, h7⟩ := h
  obtain ⟨q1, q2, q3, q4, q5, q6, q7⟩ := q
  exact ⟨fun c a1 a2 a3 a4 a5 a6 a7 a8 a9 a10 a11 a12 a13 a14 a15 => (q1 c a1 a2 a3 a4 a5 a6 a7 a8 a9 a10 a11 a12 a13 a14 a15).trans (h1 c a1 a2 a3 a4 a5 a6 a7 a8 a9 a10 a11 a12 a13 a14 a15), fun c hc i hi => (q2 c hc i hi).trans (h2 c hc i hi), fun j hj => (q3 j hj).trans (h3 j hj), fun i hi => (q4 i hi).trans (h4 i hi), fun c hc i hi => (q5 c hc i hi).trans (h5 c hc i hi), fun c a1 a2 i hi => (q6 c a1 a2 i hi).trans (h6 c a1 a2 i hi), fun j hj => (q7 j hj).trans (h7 j hj)⟩
theorem XG.lf (h : XG e D E) (he : 64 * k ≤ e ∧ e < 64 * k + 64) : LF k D E := by
  obtain ⟨h1, h2, h3, h4, h5, h6⟩ := h
  refine ⟨fun c a1 a2 a3 a4 a5 a6 a7 a8 a9 a10 a11 a12 a13 a14 a15 => h1 c a1 a2 a3 a4 a5 a6 a8 a9 a14, fun c hc i hi => ?_, fun j hj => h4 j (by omega), h5, fun c hc i _ => ?_, fun c c1 c2 i _ => ?_, fun j _ => ?_⟩
  · have hne : i ≠ e := by omega
    rcases hc with ⟨c1, c2⟩ | rfl | rfl | rfl
    · exact h2 c c1 c2 i hne
    · exact (h3 i hne).1
    · exact (h3 i hne).2.1
    · exact (h3 i hne).2.2
  · rw [h1 c (by omega) (by omega) (by omega) (by omega) (by omega) (by omega) (by omega) (by omega) (by omega)]
  · rw [h1 c (by omega) (by omega) (by omega) (by omega) (by omega) (by omega) (by omega) (by omega) (by omega)]
  · rw [h1 3301 (by omega) (by omega) (by omega) (by omega) (by omega) (by omega) (by omega) (by omega) (by omega)]
theorem addD_o1 {l : Int} {c : Nat} {i : Int} (h1 : c ≠ 950 ∧ c ≠ 951) (h : i ≠ l) : addD D l c i = D c i := by
  unfold addD; split
  · exact addX_o c i (fun z => h z.1) h1.1 h1.2
  · exact addM_o c i (fun z => h z.1)
theorem LF_add : LF k D (addD D (8 + k)) := by
  refine ⟨fun c a1 a2 a3 a4 a5 a6 a7 a8 a9 a10 a11 a12 a13 a14 a15 => addD_f ⟨a10, a11, a12, a13, a8, a9⟩, fun c hc i hi => ?_, fun j _ => by rw [addD_f (by decide)], fun i _ => by rw [addD_f (by decide)], fun c hc i hi => addD_o1 (by omega) hi, fun c c1 c2 i _ => ?_, fun j _ => by rw [addD_f (by decide)]⟩
  · rw [addD_f ⟨by omega, by omega, by omega, by omega, by omega, by omega⟩]
  · rw [addD_f ⟨by omega, by omega, by omega, by omega, by omega, by omega⟩]
theorem adF_f {c : Nat} (h : (c < 2406 ∨ 2411 < c) ∧ c ≠ 3301) : adF E b e c = E c := by
  unfold adF
  split
  · rw [up_cf (by omega)]
  split
  · rw [up_cf (by omega), up_cf (by omega)]
  split
  · rw [up_cf (by omega)]
  split
  · rw [up_cf (by omega)]
  split
  · rw [up_cf (by omega)]
  split
  · rw [up_cf (by omega)]
  rfl
theorem adF_k {c : Nat} {i : Int} (h : i ≠ b) (hc : c ≠ 3301) : adF E b e c i = E c i := by
  unfold adF
  split
  · rw [up_i h]
  split
  · rw [up_i h, up_i h]
  split
  · rw [up_c hc]
  split
  · rw [up_i h]
  split
  · rw [up_i h]
  split
  · rw [up_i h]
  rfl
theorem adF_r {j : Int} (h : E 2600 e = 3 → j ≠ 1024 * b + E 2601 e) : adF E b e 3301 j = E 3301 j := by
  unfold adF
  split
  · rw [up_c (by decide)]
  split
  · rw [up_c (by decide), up_c (by decide)]
  split
  · rename_i q; rw [up_i (h q)]
  split
  · rw [up_c (by decide)]
  split
  · rw [up_c (by decide)]
  split
  · rw [up_c (by decide)]
  rfl
theorem LF_adF (h : E 2600 e = 3 → 0 ≤ E 2601 e ∧ E 2601 e < 6) : LF k E (adF E k e) := by
  refine ⟨fun c a1 a2 a3 a4 a5 a6 a7 a8 a9 a10 a11 a12 a13 a14 a15 => adF_f ⟨a15, a7⟩, fun c hc i hi => ?_, fun j _ => by rw [adF_f (by decide)], fun i _ => by rw [adF_f (by decide)], fun c hc i hi => ?_, fun c c1 c2 i hi => adF_k hi (by omega), fun j hj => adF_r (fun q => by have := h q; omega)⟩
  · rw [adF_f ⟨by omega, by omega⟩]
  · rw [adF_f ⟨by omega, by omega⟩]
/-- the value of the last statement of a kind -/
def lv (T : Int → Int) (N : Int) (s : Nat → Int) (q : Nat → Int) (what which z : Int) : Nat → Int
  | 0 => z
  | j + 1 => if kd T N (s j) = what ∧ vOf T N (kd T N (s j)) (tN T N (s j)) = which then q j else lv T N s q what which z j
def qA (T : Int → Int) (N : Int) (s : Nat → Int) (j : Nat) : Int := vA T N (kd T N (s j)) (tN T N (s j))
def qB (T : Int → Int) (N : Int) (s : Nat → Int) (j : Nat) : Int := vB T N (kd T N (s j)) (tN T N (s j))
/-- what stands ahead of book k, once j statements are read -/
def HX (T : Int → Int) (N : Int) (s : Nat → Int) (k : Int) (j : Nat) (D : aD) : Prop := D 2406 k = lv T N s (qA T N s) 1 0 30 j ∧ D 2407 k = lv T N s (qA T N s) 2 0 0 j ∧ D 2408 k = lv T N s (qB T N s) 2 0 0 j ∧ D 2409 k = lv T N s (qA T N s) 7 0 0 j ∧ D 2410 k = lv T N s (qA T N s) 8 0 3 j ∧ D 2411 k = lv T N s (fun _ => 1) 5 0 0 j ∧ ∀ p, 0 ≤ p → p < 6 → D 3301 (1024 * k + p) = lv T N s (qA T N s) 3 p 0 j
theorem vOf0 {i : Int} (h : i = 1 ∨ i = 2 ∨ i = 5 ∨ i = 7 ∨ i = 8) : vOf T N i b = 0 := by
  rcases h with rfl | rfl | rfl | rfl | rfl <;> rfl
theorem lv_y {q : Nat → Int} {what which z : Int} {j : Nat} (h1 : kd T N (s j) = what) (h2 : vOf T N (kd T N (s j)) (tN T N (s j)) = which) : lv T N s q what which z (j + 1) = q j := if_pos ⟨h1, h2⟩
theorem lv_n {q : Nat → Int} {what which z : Int} {j : Nat} (h1 : ¬ (kd T N (s j) = what ∧ vOf T N (kd T N (s j)) (tN T N (s j)) = which)) : lv T N s q what which z (j + 1) = lv T N s q what which z j := if_neg h1
theorem HX_s {j : Nat} (h : HX T N s k j E) (hw : Xw T N (kd T N (s j)) (tN T N (s j)) e E) : HX T N s k (j + 1) (adF E k e) := by
  obtain ⟨h1, h2, h3, h4, h5, h6, h7⟩ := h
  obtain ⟨w1, w2, w3, w4, w5, w6⟩ := hw
  unfold adF
  rw [w1]
  have keep : ∀ {q : Nat → Int} {what which z : Int}, kd T N (s j) ≠ what → lv T N s q what which z (j + 1) = lv T N s q what which z j := fun hq => lv_n (fun z => hq z.1)
  by_cases q1 : kd T N (s j) = 1
  · rw [if_pos q1]
    refine ⟨?_, ?_, ?_, ?_, ?_, ?_, fun p p0 p1 => ?_⟩
    · rw [up_eq, lv_y q1 (vOf0 (by omega)), w3 (by omega) (by omega)]; rfl
    · rw [up_c (by decide), keep (by omega)]; exact h2
    · rw [up_c (by decide), keep (by omega)]; exact h3
    · rw [up_c (by decide), keep (by omega)]; exact h4
    · rw [up_c (by decide), keep (by omega)]; exact h5
    · rw [up_c (by decide), keep (by omega)]; exact h6
    · rw [up_c (by decide), keep (by omega)]; exact h7 p p0 p1
  rw [if_neg q1]
  by_cases q2 : kd T N (s j) = 2
  · rw [if_pos q2]
    obtain ⟨v1, v2⟩ := w4 q2
    refine ⟨?_, ?_, ?_, ?_, ?_, ?_, fun p p0 p1 => ?_⟩
    · rw [up_c (by decide), up_c (by decide), keep (by omega)]; exact h1
    · rw [up_c (by decide), up_eq, lv_y q2 (vOf0 (by omega)), v1]; rfl
    · rw [up_eq, lv_y q2 (vOf0 (by omega)), v2]; rfl
    · rw [up_c (by decide), up_c (by decide), keep (by omega)]; exact h4
    · rw [up_c (by decide), up_c (by decide), keep (by omega)]; exact h5
    · rw [up_c (by decide), up_c (by decide), keep (by omega)]; exact h6
    · rw [up_c (by decide), up_c (by decide), keep (by omega)]; exact h7 p p0 p1
  rw [if_neg q2]
  by_cases q3 : kd T N (s j) = 3
  · rw [if_pos q3]
    refine ⟨?_, ?_, ?_, ?_, ?_, ?_, fun p p0 p1 => ?_⟩
    · rw [up_c (by decide), keep (by omega)]; exact h1
    · rw [up_c (by decide), keep (by omega)]; exact h2
    · rw [up_c (by decide), keep (by omega)]; exact h3
    · rw [up_c (by decide), keep (by omega)]; exact h4
    · rw [up_c (by decide), keep (by omega)]; exact h5
    · rw [up_c (by decide), keep (by omega)]; exact h6
    · by_cases z : E 2601 e = p
      · rw [z, up_eq, lv_y q3 (by rw [← w2]; exact z), w3 (by omega) (by omega)]; rfl
      · rw [up_i (by omega), lv_n (fun y => z (by rw [w2]; exact y.2))]; exact h7 p p0 p1
  rw [if_neg q3]
  by_cases q5 : kd T N (s j) = 5
  · rw [if_pos q5]
    refine ⟨?_, ?_, ?_, ?_, ?_, ?_, fun p p0 p1 => ?_⟩
    · rw [up_c (by decide), keep (by omega)]; exact h1
    · rw [up_c (by decide), keep (by omega)]; exact h2
    · rw [up_c (by decide), keep (by omega)]; exact h3
    · rw [up_c (by decide), keep (by omega)]; exact h4
    · rw [up_c (by decide), keep (by omega)]; exact h5
    · rw [up_eq, lv_y q5 (vOf0 (by omega))]
    · rw [up_c (by decide), keep (by omega)]; exact h7 p p0 p1
  rw [if_neg q5]
  by_cases q7 : kd T N (s j) = 7
  · rw [if_pos q7]
    refine ⟨?_, ?_, ?_, ?_, ?_, ?_, fun p p0 p1 => ?_⟩
    · rw [up_c (by decide), keep (by omega)]; exact h1
    · rw [up_c (by decide), keep (by omega)]; exact h2
    · rw [up_c (by decide), keep (by omega)]; exact h3
    · rw [up_eq, lv_y q7 (vOf0 (by omega)), w3 (by omega) (by omega)]; rfl
    · rw [up_c (by decide), keep (by omega)]; exact h5
    · rw [up_c (by decide), keep (by omega)]; exact h6
    · rw [up_c (by decide), keep (by omega)]; exact h7 p p0 p1
  rw [if_neg q7]
  by_cases q8 : kd T N (s j) = 8
  · rw [if_pos q8]
    refine ⟨?_, ?_, ?_, ?_, ?_, ?_, fun p p0 p1 => ?_⟩
    · rw [up_c (by decide), keep (by omega)]; exact h1
    · rw [up_c (by decide), keep (by omega)]; exact h2
    · rw [up_c (by decide), keep (by omega)]; exact h3
    · rw [up_c (by decide), keep (by omega)]; exact h4
    · rw [up_eq, lv_y q8 (vOf0 (by omega)), w3 (by omega) (by omega)]; rfl
    · rw [up_c (by decide), keep (by omega)]; exact h6
    · rw [up_c (by decide), keep (by omega)]; exact h7 p p0 p1
  rw [if_neg q8]
  exact ⟨by rw [keep (by omega)]; exact h1, by rw [keep (by omega)]; exact h2, by rw [keep (by omega)]; exact h3, by rw [keep (by omega)]; exact h4, by rw [keep (by omega)]; exact h5, by rw [keep (by omega)]; exact h6, fun p p0 p1 => by rw [keep (by omega)]; exact h7 p p0 p1⟩
theorem HX_cg {j : Nat} (h : HX T N s k j D) (h1 : ∀ c, 2406 ≤ c → c ≤ 2411 → E c = D c) (h2 : E 3301 = D 3301) : HX T N s k j E := by
  unfold HX
  rw [h1 2406 (by decide) (by decide), h1 2407 (by decide) (by decide), h1 2408 (by decide) (by decide), h1 2409 (by decide) (by decide), h1 2410 (by decide) (by decide), h1 2411 (by decide) (by decide), h2]
  exact h
end Xlp
