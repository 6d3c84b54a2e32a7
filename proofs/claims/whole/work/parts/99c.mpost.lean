/-! The reference: a post's word, a plain number. -/
section Mpo
variable {n : Nat} {A : aA} {D D' : aD} {T : Int → Int} {N a : Int}
theorem Mfl.p (hT : Txt T N) (h : Mst T N a D) (l : Int64) : p_X12_takes D l := Mst_p hT h
/-- a chain of takes: which word of the list is taken -/
theorem tk_s (hT : Txt T N) (h : Mst T N a D) {l : Int64} {w : List Int} {ws : List (List Int)} {j : Int} (hw : wlt w = true) (hl : l = Int64.ofNat (pw w)) : (w_tk D l = 1 ∧ Wd T N a w ∧ Mst T N (tN T N a) (u_tk D l) ∧ Mfl D (u_tk D l) ∧ (if tK T N a = 1 then ixw T N a (w :: ws) j else -1) = j) ∨ (w_tk D l = 0 ∧ ¬ Wd T N a w ∧ Mst T N a (u_tk D l) ∧ Mfl D (u_tk D l) ∧ (u_tk D l) 70 30 = a ∧ (if tK T N a = 1 then ixw T N a (w :: ws) j else -1) = (if tK T N a = 1 then ixw T N a ws (j + 1) else -1)) := by
  obtain ⟨y, z⟩ := tk_m hT h hw hl
  by_cases q : Wd T N a w
  · obtain ⟨y1, y2, y3⟩ := y q
    exact Or.inl ⟨y1, q, y2, y3, by rw [if_pos q.1, (ixw_s q.1).1 q]⟩
  · obtain ⟨y1, y2, y3, y4⟩ := z q
    refine Or.inr ⟨y1, q, y2, y3, y4, ?_⟩
    by_cases k : tK T N a = 1
    · rw [if_pos k, if_pos k, (ixw_s k).2 q]
    · rw [if_neg k, if_neg k]
theorem post_m (hT : Txt T N) (h : Mst T N a D) : p_X12_postHere D ∧ v_X12_postHere D = wix T N a 3 ∧ Mfl D (u_X12_postHere D) ∧ (wix T N a 3 ≠ -1 → Mst T N (tN T N a) (u_X12_postHere D)) ∧ (wix T N a 3 = -1 → Mst T N a (u_X12_postHere D) ∧ (u_X12_postHere D) 70 30 = a) := by
  unfold p_X12_postHere v_X12_postHere u_X12_postHere wix
  rw [show wds 3 = [[107, 105, 116, 99, 104, 101, 110], [104, 111, 117, 115, 101], [110, 117, 114, 115, 101], [99, 111, 111, 107], [99, 111, 97, 99, 104], [98, 117, 116, 108, 101, 114]] from rfl]
  have p1 := Mfl.p hT h 30233771112949102
  rcases tk_s hT h (l := 30233771112949102) (w := [107, 105, 116, 99, 104, 101, 110]) (ws := [[104, 111, 117, 115, 101], [110, 117, 114, 115, 101], [99, 111, 111, 107], [99, 111, 97, 99, 104], [98, 117, 116, 108, 101, 114]]) (j := 0) (by decide) (by decide) with ⟨e, q, m, f, x⟩ | ⟨e, q, m, f, g, x⟩
  · simp only [e, x, show ¬ (1 : Int) = 0 by decide, if_false]
    exact ⟨⟨p1, trivial⟩, trivial, f, fun _ => m, fun z => absurd z (by decide)⟩
  · simp only [e, x, if_true]
    have p2 := Mfl.p hT m 448546567013
    rcases tk_s hT m (l := 448546567013) (w := [104, 111, 117, 115, 101]) (ws := [[110, 117, 114, 115, 101], [99, 111, 111, 107], [99, 111, 97, 99, 104], [98, 117, 116, 108, 101, 114]]) (j := 0 + 1) (by decide) (by decide) with ⟨e2, q2, m2, f2, x2⟩ | ⟨e2, q2, m2, f2, g2, x2⟩
    · simp only [e2, x2, show ¬ (1 : Int) = 0 by decide, if_false]
      exact ⟨⟨p1, p2, trivial⟩, rfl, f.trans f2, fun _ => m2, fun z => absurd z (by decide)⟩
    · simp only [e2, x2, if_true]
      have p3 := Mfl.p hT m2 474416837477
      rcases tk_s hT m2 (l := 474416837477) (w := [110, 117, 114, 115, 101]) (ws := [[99, 111, 111, 107], [99, 111, 97, 99, 104], [98, 117, 116, 108, 101, 114]]) (j := 0 + 1 + 1) (by decide) (by decide) with ⟨e3, q3, m3, f3, x3⟩ | ⟨e3, q3, m3, f3, g3, x3⟩
      · simp only [e3, x3, show ¬ (1 : Int) = 0 by decide, if_false]
        exact ⟨⟨p1, p2, p3, trivial⟩, rfl, (f.trans f2).trans f3, fun _ => m3, fun z => absurd z (by decide)⟩
      · simp only [e3, x3, if_true]
        have p4 := Mfl.p hT m3 1668247403
        rcases tk_s hT m3 (l := 1668247403) (w := [99, 111, 111, 107]) (ws := [[99, 111, 97, 99, 104], [98, 117, 116, 108, 101, 114]]) (j := 0 + 1 + 1 + 1) (by decide) (by decide) with ⟨e4, q4, m4, f4, x4⟩ | ⟨e4, q4, m4, f4, g4, x4⟩
        · simp only [e4, x4, show ¬ (1 : Int) = 0 by decide, if_false]
          exact ⟨⟨p1, p2, p3, p4, trivial⟩, rfl, ((f.trans f2).trans f3).trans f4, fun _ => m4, fun z => absurd z (by decide)⟩
        · simp only [e4, x4, if_true]
          have p5 := Mfl.p hT m4 427070415720
          rcases tk_s hT m4 (l := 427070415720) (w := [99, 111, 97, 99, 104]) (ws := [[98, 117, 116, 108, 101, 114]]) (j := 0 + 1 + 1 + 1 + 1) (by decide) (by decide) with ⟨e5, q5, m5, f5, x5⟩ | ⟨e5, q5, m5, f5, g5, x5⟩
          · simp only [e5, x5, show ¬ (1 : Int) = 0 by decide, if_false]
            exact ⟨⟨p1, p2, p3, p4, p5, trivial⟩, rfl, (((f.trans f2).trans f3).trans f4).trans f5, fun _ => m5, fun z => absurd z (by decide)⟩
          · simp only [e5, x5, if_true]
            have p6 := Mfl.p hT m5 108256603956594
            rcases tk_s hT m5 (l := 108256603956594) (w := [98, 117, 116, 108, 101, 114]) (ws := []) (j := 0 + 1 + 1 + 1 + 1 + 1) (by decide) (by decide) with ⟨e6, q6, m6, f6, x6⟩ | ⟨e6, q6, m6, f6, g6, x6⟩
            · simp only [e6, x6, show ¬ (1 : Int) = 0 by decide, if_false]
              exact ⟨⟨p1, p2, p3, p4, p5, p6⟩, rfl, ((((f.trans f2).trans f3).trans f4).trans f5).trans f6, fun _ => m6, fun z => absurd z (by decide)⟩
            · simp only [e6, x6, if_true]
              have z : (if tK T N a = 1 then ixw T N a [] (0 + 1 + 1 + 1 + 1 + 1 + 1) else -1) = -1 := by split <;> rfl
              rw [z]
              exact ⟨⟨p1, p2, p3, p4, p5, p6⟩, rfl, ((((f.trans f2).trans f3).trans f4).trans f5).trans f6, fun y => absurd rfl y, fun _ => ⟨m6, g6⟩⟩
theorem plain_m (hT : Txt T N) (h : Mst T N a D) {k : Int} (hk : 0 ≤ k ∧ k < 270) : p_X12_plain D k ∧ (Nm T N a 9999 → v_X12_plain D k = 1 ∧ Mst T N (tN T N a) (u_X12_plain D k) ∧ (u_X12_plain D k) 96 k = nv T a (tE T N a) ∧ (∀ c, c ≠ 70 → c ≠ 96 → (u_X12_plain D k) c = D c) ∧ (u_X12_plain D k) 70 27 = D 70 27) ∧ (¬ Nm T N a 9999 → v_X12_plain D k = 0 ∧ (u_X12_plain D k) 70 30 = a) := by
  obtain ⟨p, y, z⟩ := mn_m hT h 9999
  unfold p_X12_plain v_X12_plain u_X12_plain v_X12_takesPlain u_X12_takesPlain p_X12_takesPlain
  refine ⟨⟨p, by split <;> first | trivial | exact hk⟩, fun q => ?_, fun q => ?_⟩
  · obtain ⟨y1, y2, y3, y4⟩ := y q
    simp only [y1, show ¬ (1 : Int) = 0 by decide, if_false]
    refine ⟨trivial, Mst_cg y2 (up_cf (by decide)) (up_c (by decide)) (up_c (by decide)), by rw [up_eq, y4], fun c c1 c2 => by rw [up_cf c2]; exact y3.1 c c1, by rw [up_c (by decide)]; exact y3.2 27 (by decide) (by decide) (by decide)⟩
  · obtain ⟨y1, y2, y3, y4⟩ := z q
    simp only [y1, if_true]
    exact ⟨trivial, y4⟩
end Mpo
