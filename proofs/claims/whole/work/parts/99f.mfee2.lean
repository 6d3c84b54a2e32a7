/-! The reference reads a fee: the side, then the rest. -/
section Mf2
variable {n : Nat} {A : aA} {D D' : aD} {T : Int → Int} {N a : Int}
/-- what a fee's reading gives from a (behind the word fee) on -/
def FeM (T : Int → Int) (N k a : Int) (D D' : aD) (x f : Int) (r : Option (Option Itm)) : Prop := (wix T N a 1 = -1 → x = 0 ∧ D' 70 30 = a) ∧ (wix T N a 1 ≠ -1 → (¬ Nm T N (tN T N a) 9999 → x = 0 ∧ D' 70 30 = tN T N a) ∧ (Nm T N (tN T N a) 9999 → ¬ Nm T N (tN T N (tN T N a)) 300 → x = 0 ∧ D' 70 30 = tN T N (tN T N a)) ∧ (Nm T N (tN T N a) 9999 → Nm T N (tN T N (tN T N a)) 300 → CrM T N k D D' (tN T N (tN T N (tN T N a))) x f r ∧ D' 94 = D 94 ∧ D' 95 k = wix T N a 1 ∧ D' 96 k = nv T (tN T N a) (tE T N (tN T N a)) ∧ D' 97 k = nv T (tN T N (tN T N a)) (tE T N (tN T N (tN T N a)))))
theorem fee_m (hT : Txt T N) {k : Int} (hk : 0 ≤ k ∧ k < 270) (hm : Mst T N a D) (h27 : 0 ≤ D 70 27) (hp : 25 * D 70 27 ≤ 104000 + 21 * a - 50) {r : Option (Option Itm)} {f : Int} (hr : Cr T N (tN T N (tN T N (tN T N a))) r f) : ∃ x D', Ev (n + 1) 38 166 [am_r (some 70), am_i (wz k)] A D (ri x) A D' ∧ (0 ≤ x ∧ x ≤ 1) ∧ Sfr k (D 70 27) D D' ∧ FeM T N k a D D' x f r := by
  have ht := Mst_tok hT hm
  obtain ⟨t1, t2, t3, t4⟩ := tN_tok ht
  have wx : wix T N a 1 = if tK T N a = 1 then ixw T N a [[104, 111, 117, 115, 101], [115, 101, 114, 118, 97, 110, 116]] 0 else -1 := rfl
  have fin : ∀ {U : aD} {s : Int}, Mst T N (tN T N a) U → Mfl D U → wix T N a 1 = s → s ≠ -1 → ∃ x D', feT n A (up U 95 k s) k x D' ∧ (0 ≤ x ∧ x ≤ 1) ∧ Sfr k (D 70 27) D D' ∧ FeM T N k a D D' x f r := by
    intro U s hU hf hs hs1
    have m1 : Mst T N (tN T N a) (up U 95 k s) := Mst_cg hU (up_cf (by decide)) (up_c (by decide)) (up_c (by decide))
    have e27 : (up U 95 k s) 70 27 = D 70 27 := by rw [up_c (by decide), hf.2 27 (by decide) (by decide) (by decide)]
    obtain ⟨x, D', c1, c2, c3, c4, c5, c6⟩ := feT_m (n := n) (A := A) hT hk m1 (by omega) (by omega) hr
    rw [e27] at c2
    refine ⟨x, D', c1, c3, (hf.sfr.ups ⟨by decide, by decide⟩).trans c2, fun g => absurd (hs.symm.trans g) hs1, fun _ => ⟨c4, c5, fun q1 q2 => ?_⟩⟩
    obtain ⟨d1, d2, d3, d4, d5⟩ := c6 q1 q2
    refine ⟨?_, by rw [d2, up_cf (by decide), hf.1 94 (by decide)], by rw [d3, up_eq, hs], d4, d5⟩
    cases r with
    | none => exact d1
    | some w =>
      cases w with
      | none => exact ⟨d1.1, d1.2.1, d1.2.2.1, by rw [d1.2.2.2, e27]⟩
      | some v =>
        obtain ⟨b1, b2, b3, b4, b5, b6⟩ := d1
        rw [e27] at b3 b4 b5 b6
        exact ⟨b1, b2, b3, b4, b5, b6⟩
  have p1 := Mfl.p hT hm 448546567013
  rcases tk_s hT hm (l := 448546567013) (w := [104, 111, 117, 115, 101]) (ws := [[115, 101, 114, 118, 97, 110, 116]]) (j := 0) (by decide) (by decide) with ⟨e, q, m, g, x1⟩ | ⟨e, q, m, g, g', x1⟩
  · obtain ⟨x, D', c1, c2, c3, c4⟩ := fin (s := 0) m g (by rw [wx, x1]) (by decide)
    have ev := rl_X12_fee (n := n) (A := A) (D := D) (D' := D') (c := 37) (by omega) k (rgb (by omega) (by omega)) (x := x) ⟨p1, by rw [e, if_neg (by decide)]; exact ⟨hk, c1⟩⟩
    exact ⟨x, D', Ev_le ev (by omega), c2, c3, c4⟩
  · have p2 := Mfl.p hT m 32481164608499316
    rcases tk_s hT m (l := 32481164608499316) (w := [115, 101, 114, 118, 97, 110, 116]) (ws := []) (j := 0 + 1) (by decide) (by decide) with ⟨e2, q2, m2, g2, x2⟩ | ⟨e2, q2, m2, g2, g2', x2⟩
    · obtain ⟨x, D', c1, c2, c3, c4⟩ := fin (s := 1) m2 (g.trans g2) (by rw [wx, x1, x2]; rfl) (by decide)
      have ev := rl_X12_fee (n := n) (A := A) (D := D) (D' := D') (c := 37) (by omega) k (rgb (by omega) (by omega)) (x := x) ⟨p1, by
        rw [e, if_pos rfl]
        refine ⟨p2, ?_⟩
        rw [e2, if_neg (by decide)]; exact ⟨hk, c1⟩⟩
      exact ⟨x, D', Ev_le ev (by omega), c2, c3, c4⟩
    · have hz : wix T N a 1 = -1 := by rw [wx, x1, x2]; split <;> rfl
      have ev := rl_X12_fee (n := n) (A := A) (D := D) (D' := up (u_tk (u_tk D 448546567013) 32481164608499316) 95 k (-1)) (c := 37) (by omega) k (rgb (by omega) (by omega)) (x := 0) ⟨p1, by
        rw [e, if_pos rfl]
        refine ⟨p2, ?_⟩
        rw [e2, if_pos rfl]; exact ⟨hk, rfl, rfl⟩⟩
      exact ⟨0, _, Ev_le ev (by omega), ⟨by decide, by decide⟩, (g.trans g2).sfr.ups ⟨by decide, by decide⟩, fun _ => ⟨rfl, by rw [up_c (by decide)]; exact g2'⟩, fun y => absurd hz y⟩
end Mf2
