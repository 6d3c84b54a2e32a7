/-! A statement kind by kind: its tokens, and how the reference reads each kind. -/
section Stk
variable {n c : Nat} {A : aA} {D D' Z : aD} {T : Int → Int} {N a b : Int}
/-- a token: a number up to m (0, m), or a word of list k (1, k) -/
abbrev Atk : Type := Nat × Int
def aok (T : Int → Int) (N b : Int) (w : Atk) : Prop := if w.1 = 0 then Nm T N b w.2 else wix T N b w.2.toNat ≠ -1
theorem aok_n {m : Int} : aok T N b (0, m) = Nm T N b m := rfl
theorem aok_w {m : Int} : aok T N b (1, m) = (wix T N b m.toNat ≠ -1) := rfl
def Gok (T : Int → Int) (N : Int) : List Atk → Int → Prop
  | [], _ => True
  | w :: ws, b => aok T N b w ∧ Gok T N ws (tN T N b)
def Gf (T : Int → Int) (N : Int) : List Atk → Int → Int → Prop
  | [], _, _ => False
  | w :: ws, b, f => (¬ aok T N b w ∧ f = b) ∨ (aok T N b w ∧ Gf T N ws (tN T N b) f)
def gN (T : Int → Int) (N : Int) : List Atk → Int → Int
  | [], b => b
  | _ :: ws, b => gN T N ws (tN T N b)
theorem G_ex : ∀ (ws : List Atk) (b : Int), Gok T N ws b ∨ ∃ f, Gf T N ws b f
  | [], _ => Or.inl trivial
  | w :: ws, b => by
    by_cases q : aok T N b w
    · rcases G_ex ws (tN T N b) with h | ⟨f, h⟩
      · exact Or.inl ⟨q, h⟩
      · exact Or.inr ⟨f, Or.inr ⟨q, h⟩⟩
    · exact Or.inr ⟨b, Or.inl ⟨q, rfl⟩⟩
theorem Gf_tok : ∀ (ws : List Atk) (b f : Int), Tok T N b → Gf T N ws b f → Tok T N f ∧ b ≤ f
  | [], _, _, _, h => h.elim
  | w :: ws, b, f, t, h => by
    rcases h with ⟨_, h⟩ | ⟨_, h⟩
    · subst h; exact ⟨t, Int.le_refl _⟩
    · obtain ⟨t1, t2, _, _⟩ := tN_tok t
      obtain ⟨x1, x2⟩ := Gf_tok ws _ f t1 h
      exact ⟨x1, by omega⟩
theorem gN_tok : ∀ (ws : List Atk) (b : Int), Tok T N b → Tok T N (gN T N ws b) ∧ b ≤ gN T N ws b
  | [], _, t => ⟨t, Int.le_refl _⟩
  | w :: ws, b, t => by
    obtain ⟨t1, t2, _, _⟩ := tN_tok t
    obtain ⟨x1, x2⟩ := gN_tok ws _ t1
    exact ⟨x1, by show b ≤ gN T N ws (tN T N b); omega⟩
def atm (i : Int) : List Atk := if i = 0 then [(1, 1), (0, 9999), (0, 300)] else if i = 2 then [(0, 100), (1, 2), (0, 9999)] else if i = 3 ∨ i = 4 then [(1, 3), (0, 9999)] else if i = 5 then [(1, 4)] else if i = 6 then [(1, 3), (1, 3), (1, 5), (0, 9999)] else [(0, 9999)]
def nvt (T : Int → Int) (N b : Int) : Int := nv T b (tE T N b)
def vOf (T : Int → Int) (N i b : Int) : Int := if i = 0 then wix T N b 1 else if i = 3 ∨ i = 4 ∨ i = 6 then wix T N b 3 else 0
def vA (T : Int → Int) (N i b : Int) : Int := if i = 0 ∨ i = 3 ∨ i = 4 then nvt T N (tN T N b) else if i = 6 then nvt T N (tN T N (tN T N (tN T N b))) else nvt T N b
def vB (T : Int → Int) (N i b : Int) : Int := if i = 6 then wix T N (tN T N b) 3 else nvt T N (tN T N (tN T N b))
/-- what the reference has written of statement k -/
def Vm (T : Int → Int) (N k i b : Int) (E : aD) : Prop := E 94 k = i ∧ E 95 k = vOf T N i b ∧ (i ≠ 5 → E 96 k = vA T N i b) ∧ (i = 0 ∨ i = 2 ∨ i = 6 → E 97 k = vB T N i b)
def Crk (T : Int → Int) (N i e : Int) (r : Option (Option Itm)) (f : Int) : Prop := if i = 0 ∨ i = 4 then Cr T N e r f else r = some none ∧ f = e
def CkM (T : Int → Int) (N k i : Int) (Z E : aD) (e y f : Int) (r : Option (Option Itm)) : Prop := if i = 0 ∨ i = 4 then CrM T N k Z E e y f r else y = 1 ∧ Mst T N f E ∧ E 70 27 = Z 70 27
def Lpp (T : Int → Int) (N k i b : Int) (Z E : aD) (y f : Int) (r : Option (Option Itm)) : Prop := (∀ g, Gf T N (atm i) b g → y = 0 ∧ E 70 30 = g) ∧ (Gok T N (atm i) b → Vm T N k i b E ∧ CkM T N k i Z E (gN T N (atm i) b) y f r)
theorem plain_s (hT : Txt T N) (h : Mst T N b Z) {k c0 : Int} : Sfr k c0 Z (u_X12_plain Z k) ∧ (0 ≤ v_X12_plain Z k ∧ v_X12_plain Z k ≤ 1) := by
  obtain ⟨p, y, z⟩ := mn_m hT h 9999
  unfold v_X12_plain u_X12_plain v_X12_takesPlain u_X12_takesPlain
  by_cases q : Nm T N b 9999
  · obtain ⟨y1, y2, y3, y4⟩ := y q
    rw [y1, if_neg (by decide), if_neg (by decide)]
    exact ⟨y3.sfr.ups ⟨by decide, by decide⟩, by decide, by decide⟩
  · obtain ⟨y1, y2, y3, y4⟩ := z q
    rw [y1, if_pos rfl, if_pos rfl]
    exact ⟨y3.sfr, by decide, by decide⟩
theorem lf_p {i : Int} (hi : i = 1 ∨ i = 7 ∨ i = 8) (hT : Txt T N) {k : Int} (hk : 0 ≤ k ∧ k < 270) (hm : Mst T N b Z) (h4 : Z 94 k = i) (h5 : Z 95 k = 0) {r : Option (Option Itm)} {f : Int} (hr : Crk T N i (gN T N (atm i) b) r f) : p_X12_plain Z k ∧ Lpp T N k i b Z (u_X12_plain Z k) (v_X12_plain Z k) f r := by
  obtain ⟨p, y, z⟩ := plain_m hT hm hk
  have e1 : atm i = [(0, 9999)] := by rcases hi with rfl | rfl | rfl <;> rfl
  have e2 : vOf T N i b = 0 := by rcases hi with rfl | rfl | rfl <;> rfl
  have e3 : vA T N i b = nvt T N b := by rcases hi with rfl | rfl | rfl <;> rfl
  have e4 : ¬ (i = 0 ∨ i = 4) := by omega
  have e5 : ¬ (i = 0 ∨ i = 2 ∨ i = 6) := by omega
  unfold Crk at hr
  rw [if_neg e4, e1] at hr
  unfold Lpp CkM Vm
  rw [e1, e2, e3, if_neg e4]
  refine ⟨p, fun g hg => ?_, fun hg => ?_⟩
  · rcases hg with ⟨q, q2⟩ | ⟨_, q⟩
    · subst q2; exact z q
    · exact q.elim
  · obtain ⟨y1, y2, y3, y4, y5⟩ := y hg.1
    rw [hr.2]
    exact ⟨⟨by rw [y4 94 (by decide) (by decide)]; exact h4, by rw [y4 95 (by decide) (by decide)]; exact h5, fun _ => y3, fun q => absurd q e5⟩, y1, y2, y5⟩
def bkL (n c : Nat) (A : aA) (Z : aD) (k x : Int) (D' : aD) : Prop := (p_mnum Z 100) ∧ (if w_mn Z 100 = 0 then K_X12_statement_377 (n + 1) c A (up (up (u_mn Z 100) 96 k ((u_mn Z 100) 70 50)) 97 k ((u_mn Z 100) 70 50)) 0 x D' else (p_X12_takes (up (u_mn Z 100) 96 k ((u_mn Z 100) 70 50)) (131294808271214 : Int64)) ∧ (if w_tk (up (u_mn Z 100) 96 k ((u_mn Z 100) 70 50)) (131294808271214 : Int64) = 0 then K_X12_statement_377 (n + 1) c A (up (u_tk (up (u_mn Z 100) 96 k ((u_mn Z 100) 70 50)) (131294808271214 : Int64)) 97 k ((u_tk (up (u_mn Z 100) 96 k ((u_mn Z 100) 70 50)) (131294808271214 : Int64)) 70 50)) 0 x D' else (p_X12_takesPlain (u_tk (up (u_mn Z 100) 96 k ((u_mn Z 100) 70 50)) (131294808271214 : Int64))) ∧ (if v_X12_takesPlain (u_tk (up (u_mn Z 100) 96 k ((u_mn Z 100) 70 50)) (131294808271214 : Int64)) = 0 then K_X12_statement_377 (n + 1) c A (up (u_X12_takesPlain (u_tk (up (u_mn Z 100) 96 k ((u_mn Z 100) 70 50)) (131294808271214 : Int64))) 97 k ((u_X12_takesPlain (u_tk (up (u_mn Z 100) 96 k ((u_mn Z 100) 70 50)) (131294808271214 : Int64))) 70 50)) 0 x D' else K_X12_statement_377 (n + 1) c A (up (u_X12_takesPlain (u_tk (up (u_mn Z 100) 96 k ((u_mn Z 100) 70 50)) (131294808271214 : Int64))) 97 k ((u_X12_takesPlain (u_tk (up (u_mn Z 100) 96 k ((u_mn Z 100) 70 50)) (131294808271214 : Int64))) 70 50)) 1 x D')))
theorem wix1 {k : Nat} {w : List Int} (hw : wds k = [w]) : wix T N b k ≠ -1 ↔ Wd T N b w := by
  unfold wix
  rw [hw]
  by_cases q : tK T N b = 1
  · rw [if_pos q]
    by_cases d : Wd T N b w
    · rw [(ixw_s q).1 d]; exact ⟨fun _ => d, fun _ => by decide⟩
    · rw [(ixw_s q).2 d]; exact ⟨fun g => absurd rfl g, fun g => absurd g d⟩
  · rw [if_neg q]; exact ⟨fun g => absurd rfl g, fun g => absurd g.1 q⟩
theorem lf_b (hT : Txt T N) {k : Int} (hk : 0 ≤ k ∧ k < 270) (hm : Mst T N b Z) (h4 : Z 94 k = 2) (h5 : Z 95 k = 0) {r : Option (Option Itm)} {f : Int} (hr : Crk T N 2 (gN T N (atm 2) b) r f) : ∃ y E, (0 ≤ y ∧ y ≤ 1) ∧ (∀ x D', K_X12_statement_377 (n + 1) c A E y x D' → bkL n c A Z k x D') ∧ Sfr k (Z 70 27) Z E ∧ Lpp T N k 2 b Z E y f r := by
  have hr2 : f = tN T N (tN T N (tN T N b)) := hr.2
  obtain ⟨p, y, z⟩ := mn_m hT hm 100
  unfold bkL
  by_cases q : Nm T N b 100
  · obtain ⟨y1, y2, y3, y4⟩ := y q
    have m1 : Mst T N (tN T N b) (up (u_mn Z 100) 96 k ((u_mn Z 100) 70 50)) := Mst_cg y2 (up_cf (by decide)) (up_c (by decide)) (up_c (by decide))
    have f1 : Sfr k (Z 70 27) Z (up (u_mn Z 100) 96 k ((u_mn Z 100) 70 50)) := y3.sfr.ups ⟨by decide, by decide⟩
    have e96 : (up (u_mn Z 100) 96 k ((u_mn Z 100) 70 50)) 96 k = nvt T N b := by rw [up_eq, y4]; rfl
    have e94 : (up (u_mn Z 100) 96 k ((u_mn Z 100) 70 50)) 94 k = 2 := by rw [up_cf (by decide), y3.1 94 (by decide), h4]
    have e95 : (up (u_mn Z 100) 96 k ((u_mn Z 100) 70 50)) 95 k = 0 := by rw [up_cf (by decide), y3.1 95 (by decide), h5]
    have e27 : (up (u_mn Z 100) 96 k ((u_mn Z 100) 70 50)) 70 27 = Z 70 27 := by rw [up_c (by decide), y3.2 27 (by decide) (by decide) (by decide)]
    generalize up (u_mn Z 100) 96 k ((u_mn Z 100) 70 50) = Q at *
    obtain ⟨w1, w2⟩ := tk_m hT m1 (l := 131294808271214) (w := [119, 105, 116, 104, 105, 110]) (by decide) (by decide)
    have p1 := Mfl.p hT m1 131294808271214
    have hx : wix T N (tN T N b) 2 ≠ -1 ↔ Wd T N (tN T N b) [119, 105, 116, 104, 105, 110] := wix1 rfl
    by_cases q1 : Wd T N (tN T N b) [119, 105, 116, 104, 105, 110]
    · obtain ⟨v1, v2, v3⟩ := w1 q1
      obtain ⟨p', y', z'⟩ := mn_m hT v2 9999
      unfold v_X12_takesPlain u_X12_takesPlain p_X12_takesPlain
      by_cases q2 : Nm T N (tN T N (tN T N b)) 9999
      · obtain ⟨t1, t2, t3, t4⟩ := y' q2
        refine ⟨1, up (u_mn (u_tk Q 131294808271214) 9999) 97 k ((u_mn (u_tk Q 131294808271214) 9999) 70 50), ⟨by decide, by decide⟩, fun x D' h => ⟨p, ?_⟩, ((f1.trans v3.sfr).trans t3.sfr).ups ⟨by decide, by decide⟩, fun g hg => ?_, fun hg => ⟨⟨?_, ?_, fun _ => ?_, fun _ => ?_⟩, ?_⟩⟩
        · rw [y1, if_neg (by decide)]
          refine ⟨p1, ?_⟩
          rw [v1, if_neg (by decide)]
          refine ⟨p', ?_⟩
          rw [t1, if_neg (by decide)]
          exact h
        · rcases hg with ⟨g1, _⟩ | ⟨_, ⟨g1, _⟩ | ⟨_, ⟨g1, _⟩ | ⟨_, g1⟩⟩⟩
          · exact absurd q g1
          · exact absurd (hx.2 q1) g1
          · exact absurd q2 g1
          · exact g1.elim
        · rw [up_cf (by decide), t3.1 94 (by decide), v3.1 94 (by decide), e94]
        · rw [up_cf (by decide), t3.1 95 (by decide), v3.1 95 (by decide), e95]; rfl
        · rw [up_cf (by decide), t3.1 96 (by decide), v3.1 96 (by decide), e96]; rfl
        · rw [up_eq, t4]; rfl
        · refine ⟨rfl, ?_, ?_⟩
          · rw [hr2]; exact Mst_cg t2 (up_cf (by decide)) (up_c (by decide)) (up_c (by decide))
          · rw [up_c (by decide), t3.2 27 (by decide) (by decide) (by decide), v3.2 27 (by decide) (by decide) (by decide), e27]
      · obtain ⟨t1, t2, t3, t4⟩ := z' q2
        refine ⟨0, up (u_mn (u_tk Q 131294808271214) 9999) 97 k ((u_mn (u_tk Q 131294808271214) 9999) 70 50), ⟨by decide, by decide⟩, fun x D' h => ⟨p, ?_⟩, ((f1.trans v3.sfr).trans t3.sfr).ups ⟨by decide, by decide⟩, fun g hg => ?_, fun hg => absurd hg.2.2.1 q2⟩
        · rw [y1, if_neg (by decide)]
          refine ⟨p1, ?_⟩
          rw [v1, if_neg (by decide)]
          refine ⟨p', ?_⟩
          rw [t1, if_pos rfl]
          exact h
        · rcases hg with ⟨g1, _⟩ | ⟨_, ⟨g1, _⟩ | ⟨_, ⟨g1, g2⟩ | ⟨_, g1⟩⟩⟩
          · exact absurd q g1
          · exact absurd (hx.2 q1) g1
          · exact ⟨rfl, by rw [up_c (by decide), t4, g2]⟩
          · exact g1.elim
    · obtain ⟨v1, v2, v3, v4⟩ := w2 q1
      refine ⟨0, up (u_tk Q 131294808271214) 97 k ((u_tk Q 131294808271214) 70 50), ⟨by decide, by decide⟩, fun x D' h => ⟨p, ?_⟩, (f1.trans v3.sfr).ups ⟨by decide, by decide⟩, fun g hg => ?_, fun hg => absurd (hx.1 hg.2.1) q1⟩
      · rw [y1, if_neg (by decide)]
        refine ⟨p1, ?_⟩
        rw [v1, if_pos rfl]
        exact h
      · rcases hg with ⟨g1, _⟩ | ⟨_, ⟨g1, g2⟩ | ⟨g1, _⟩⟩
        · exact absurd q g1
        · exact ⟨rfl, by rw [up_c (by decide), v4, g2]⟩
        · exact absurd (hx.1 g1) q1
  · obtain ⟨y1, y2, y3, y4⟩ := z q
    refine ⟨0, up (up (u_mn Z 100) 96 k ((u_mn Z 100) 70 50)) 97 k ((u_mn Z 100) 70 50), ⟨by decide, by decide⟩, fun x D' h => ⟨p, ?_⟩, (y3.sfr.ups ⟨by decide, by decide⟩).ups ⟨by decide, by decide⟩, fun g hg => ?_, fun hg => absurd hg.1 q⟩
    · rw [y1, if_pos rfl]; exact h
    · rcases hg with ⟨_, g2⟩ | ⟨g1, _⟩
      · exact ⟨rfl, by rw [up_c (by decide), up_c (by decide), y4, g2]⟩
      · exact absurd g1 q
theorem ofp_m (hT : Txt T N) {k : Int} (hk : 0 ≤ k ∧ k < 270) (hm : Mst T N b Z) {c0 : Int} : p_X12_ofPost Z k ∧ (0 ≤ v_X12_ofPost Z k ∧ v_X12_ofPost Z k ≤ 1) ∧ Sfr k c0 Z (u_X12_ofPost Z k) ∧ (wix T N b 3 = -1 → v_X12_ofPost Z k = 0 ∧ (u_X12_ofPost Z k) 70 30 = b) ∧ (wix T N b 3 ≠ -1 → ¬ Nm T N (tN T N b) 9999 → v_X12_ofPost Z k = 0 ∧ (u_X12_ofPost Z k) 70 30 = tN T N b) ∧ (wix T N b 3 ≠ -1 → Nm T N (tN T N b) 9999 → v_X12_ofPost Z k = 1 ∧ Mst T N (tN T N (tN T N b)) (u_X12_ofPost Z k) ∧ (u_X12_ofPost Z k) 94 = Z 94 ∧ (u_X12_ofPost Z k) 95 k = wix T N b 3 ∧ (u_X12_ofPost Z k) 96 k = nvt T N (tN T N b) ∧ (u_X12_ofPost Z k) 70 27 = Z 70 27) := by
  obtain ⟨p, e1, e2, e3, e4⟩ := post_m hT hm
  unfold p_X12_ofPost v_X12_ofPost u_X12_ofPost
  rw [e1]
  by_cases q : wix T N b 3 = -1
  · obtain ⟨y1, y2⟩ := e4 q
    rw [if_pos q, if_pos q, if_pos q]
    exact ⟨⟨p, hk, trivial⟩, ⟨by decide, by decide⟩, e2.sfr.ups ⟨by decide, by decide⟩, fun _ => ⟨rfl, by rw [up_c (by decide)]; exact y2⟩, fun g => absurd q g, fun g => absurd q g⟩
  · have m1 : Mst T N (tN T N b) (up (u_X12_postHere Z) 95 k (wix T N b 3)) := Mst_cg (e3 q) (up_cf (by decide)) (up_c (by decide)) (up_c (by decide))
    have f1 : Sfr k c0 Z (up (u_X12_postHere Z) 95 k (wix T N b 3)) := e2.sfr.ups ⟨by decide, by decide⟩
    have e94 : (up (u_X12_postHere Z) 95 k (wix T N b 3)) 94 = Z 94 := by rw [up_cf (by decide), e2.1 94 (by decide)]
    have e95 : (up (u_X12_postHere Z) 95 k (wix T N b 3)) 95 k = wix T N b 3 := up_eq
    have e27 : (up (u_X12_postHere Z) 95 k (wix T N b 3)) 70 27 = Z 70 27 := by rw [up_c (by decide), e2.2 27 (by decide) (by decide) (by decide)]
    rw [if_neg q, if_neg q, if_neg q]
    generalize up (u_X12_postHere Z) 95 k (wix T N b 3) = Q at *
    obtain ⟨p', y', z'⟩ := plain_m hT m1 hk
    obtain ⟨s1, s2⟩ := plain_s hT m1 (k := k) (c0 := c0)
    by_cases q2 : Nm T N (tN T N b) 9999
    · obtain ⟨t1, t2, t3, t4, t5⟩ := y' q2
      rw [t1, if_neg (by decide), if_neg (by decide)]
      exact ⟨⟨p, hk, p'⟩, ⟨by decide, by decide⟩, f1.trans s1, fun g => absurd g q, fun _ g => absurd q2 g, fun _ _ => ⟨rfl, t2, by rw [t4 94 (by decide) (by decide), e94], by rw [t4 95 (by decide) (by decide), e95], t3, by rw [t5, e27]⟩⟩
    · obtain ⟨t1, t2⟩ := z' q2
      rw [t1, if_pos rfl, if_pos rfl]
      exact ⟨⟨p, hk, p'⟩, ⟨by decide, by decide⟩, f1.trans s1, fun g => absurd g q, fun _ _ => ⟨rfl, t2⟩, fun _ g => absurd g q2⟩
theorem lf_a (hT : Txt T N) {k : Int} (hk : 0 ≤ k ∧ k < 270) (hm : Mst T N b Z) (h4 : Z 94 k = 3) {r : Option (Option Itm)} {f : Int} (hr : Crk T N 3 (gN T N (atm 3) b) r f) : Lpp T N k 3 b Z (u_X12_ofPost Z k) (v_X12_ofPost Z k) f r := by
  have hr2 : f = tN T N (tN T N b) := hr.2
  obtain ⟨p, _, _, y, z, w⟩ := ofp_m hT hk hm (c0 := 0)
  refine ⟨fun g hg => ?_, fun hg => ?_⟩
  · rcases hg with ⟨g1, g2⟩ | ⟨g1, ⟨g2, g3⟩ | ⟨_, g2⟩⟩
    · subst g2; exact y (Decidable.not_not.mp g1)
    · subst g3; exact z g1 g2
    · exact g2.elim
  · obtain ⟨w1, w2, w3, w4, w5, w6⟩ := w hg.1 hg.2.1
    exact ⟨⟨by rw [w3]; exact h4, w4, fun _ => w5, fun q => absurd q (by decide)⟩, w1, by rw [hr2]; exact w2, w6⟩
end Stk
