/-! The class's reader over a row of tokens: it stands behind them, or it has a fault. -/
section Xtk
variable {n : Nat} {A : aA} {D D' : aD} {T : Int → Int} {N a b : Int}
theorem Gok_app {w : Atk} : ∀ (ws : List Atk) (b : Int), Gok T N (ws ++ [w]) b ↔ Gok T N ws b ∧ aok T N (gN T N ws b) w
  | [], b => ⟨fun h => ⟨trivial, h.1⟩, fun h => ⟨h.2, trivial⟩⟩
  | v :: ws, b => by
    have ih := Gok_app (w := w) ws (tN T N b)
    exact ⟨fun h => ⟨⟨h.1, (ih.1 h.2).1⟩, (ih.1 h.2).2⟩, fun h => ⟨h.1.1, ih.2 ⟨h.1.2, h.2⟩⟩⟩
theorem gN_app {w : Atk} : ∀ (ws : List Atk) (b : Int), gN T N (ws ++ [w]) b = tN T N (gN T N ws b)
  | [], _ => rfl
  | _ :: ws, b => gN_app ws (tN T N b)
theorem Gf_app1 {w : Atk} : ∀ (ws : List Atk) (b : Int), Gok T N ws b → ¬ aok T N (gN T N ws b) w → Gf T N (ws ++ [w]) b (gN T N ws b)
  | [], _, _, h => Or.inl ⟨h, rfl⟩
  | _ :: ws, b, h, g => Or.inr ⟨h.1, Gf_app1 ws (tN T N b) h.2 g⟩
theorem Gf_app2 {w : Atk} {f : Int} : ∀ (ws : List Atk) (b : Int), Gf T N ws b f → Gf T N (ws ++ [w]) b f
  | [], _, h => h.elim
  | _ :: ws, b, h => by
    rcases h with h | ⟨h, g⟩
    · exact Or.inl h
    · exact Or.inr ⟨h, Gf_app2 ws (tN T N b) g⟩
theorem Gf_fun : ∀ (ws : List Atk) (b f g : Int), Gf T N ws b f → Gf T N ws b g → f = g
  | [], _, _, _, h, _ => h.elim
  | _ :: ws, b, f, g, h, k => by
    rcases h with ⟨h1, h2⟩ | ⟨h1, h2⟩
    · rcases k with ⟨_, k2⟩ | ⟨k1, _⟩
      · rw [h2, k2]
      · exact absurd k1 h1
    · rcases k with ⟨k1, _⟩ | ⟨_, k2⟩
      · exact absurd h1 k1
      · exact Gf_fun ws (tN T N b) f g h2 k2
/-- the reader has a fault at f and has stopped there -/
def Xft (T : Int → Int) (N f : Int) (D : aD) : Prop := D 47 3 = f ∧ Xst T N f (up D 47 3 (-1))
def RS (T : Int → Int) (N : Int) (ws : List Atk) (b : Int) (D : aD) : Prop := (Gok T N ws b ∧ Xst T N (gN T N ws b) D) ∨ ∃ f, Gf T N ws b f ∧ Xft T N f D
theorem Xft_ref (h : Xst T N a D) : Xft T N a (u_X6_refuse D) := by
  obtain ⟨x1, x2, x3, x4, x5, x6⟩ := h
  unfold u_X6_refuse
  rw [if_pos x3]
  refine ⟨by rw [up_eq]; exact x4, ?_, ?_, up_eq, ?_, ?_, ?_⟩
  · rw [up_cf (by decide), up_cf (by decide)]; exact x1
  · rw [up_i (by decide), up_i (by decide)]; exact x2
  · rw [up_i (by decide), up_i (by decide)]; exact x4
  · rw [up_i (by decide), up_i (by decide)]; exact x5
  · rw [up_i (by decide), up_i (by decide)]; exact x6
theorem Xst_cg (h : Xst T N a D) (e1 : D' 48 = D 48) (e2 : ∀ i, 3 ≤ i → i ≤ 8 → i ≠ 5 → D' 47 i = D 47 i) : Xst T N a D' := by
  obtain ⟨x1, x2, x3, x4, x5, x6⟩ := h
  refine ⟨by rw [e1]; exact x1, ?_, ?_, ?_, ?_, ?_⟩
  · rw [e2 4 (by decide) (by decide) (by decide)]; exact x2
  · rw [e2 3 (by decide) (by decide) (by decide)]; exact x3
  · rw [e2 7 (by decide) (by decide) (by decide)]; exact x4
  · rw [e2 6 (by decide) (by decide) (by decide)]; exact x5
  · rw [e2 8 (by decide) (by decide) (by decide)]; exact x6
theorem Xft_cg {f : Int} (h : Xft T N f D) (e1 : D' 48 = D 48) (e2 : ∀ i, 3 ≤ i → i ≤ 8 → i ≠ 5 → D' 47 i = D 47 i) : Xft T N f D' := by
  refine ⟨by rw [e2 3 (by decide) (by decide) (by decide)]; exact h.1, Xst_cg h.2 (by rw [up_cf (by decide), up_cf (by decide), e1]) (fun i i1 i2 i3 => ?_)⟩
  by_cases q : i = 3
  · rw [q, up_eq, up_eq]
  · rw [up_i q, up_i q]; exact e2 i i1 i2 i3
theorem RS_cg {ws : List Atk} (h : RS T N ws b D) (e1 : D' 48 = D 48) (e2 : ∀ i, 3 ≤ i → i ≤ 8 → i ≠ 5 → D' 47 i = D 47 i) : RS T N ws b D' := by
  rcases h with ⟨h, g⟩ | ⟨f, h, g⟩
  · exact Or.inl ⟨h, Xst_cg g e1 e2⟩
  · exact Or.inr ⟨f, h, Xft_cg g e1 e2⟩
theorem RS_up {ws : List Atk} {c : Nat} {i v : Int} (h : RS T N ws b D) (hc : 100 < c) : RS T N ws b (up D c i v) := RS_cg h (up_cf (by omega)) (fun j _ _ _ => up_c (by omega))
/-- what the reader leaves as it is -/
def Xkp (D D' : aD) : Prop := Xfr D D' ∧ D' 47 5 = D 47 5 ∧ D' 49 = D 49
theorem Xkp.refl (D : aD) : Xkp D D := ⟨Xfr.refl D, rfl, rfl⟩
theorem Xkp_ref (h : Xst T N a D) : Xkp D (u_X6_refuse D) := by
  refine ⟨(ref_x h).2, ?_, ?_⟩
  · unfold u_X6_refuse; rw [if_pos h.2.2.1, up_i (by decide)]
  · unfold u_X6_refuse; rw [if_pos h.2.2.1, up_cf (by decide)]
theorem Xkp_adv (ht : Tok T N a) (h : Xst T N a D) : Xkp D (u_adv D) := by
  obtain ⟨_, y2, y3, y4⟩ := adv_x ht h
  exact ⟨y2, y3, y4⟩
theorem Xft_ne {ws : List Atk} {f : Int} (tb : Tok T N b) (h : Gf T N ws b f) (g : Xft T N f D) : D 47 3 ≠ -1 := by
  have := (Gf_tok ws b f tb h).2
  have := tb.1
  rw [g.1]; omega
theorem rs_w (hT : Txt T N) (tb : Tok T N b) {ws : List Atk} (h : RS T N ws b D) {k : Nat} (hk : wok k = true) : p_X6_takeWord D k ∧ RS T N (ws ++ [(1, (k : Int))]) b (u_X6_takeWord D k) ∧ Xkp D (u_X6_takeWord D k) ∧ (Gok T N (ws ++ [(1, (k : Int))]) b → v_X6_takeWord D k = wix T N (gN T N ws b) k) := by
  rcases h with ⟨h, g⟩ | ⟨f, h, g⟩
  · have tt := (gN_tok ws b tb).1
    obtain ⟨p, y, z⟩ := tw_x hT tt g hk
    by_cases q : wix T N (gN T N ws b) k = -1
    · obtain ⟨z1, z2⟩ := z q
      refine ⟨p, Or.inr ⟨_, Gf_app1 ws b h (fun x => x q), by rw [z2]; exact Xft_ref g⟩, by rw [z2]; exact Xkp_ref g, fun _ => by rw [z1, q]⟩
    · obtain ⟨y1, y2⟩ := y q
      refine ⟨p, Or.inl ⟨(Gok_app ws b).2 ⟨h, q⟩, by rw [y2, gN_app]; exact (adv_x tt g).1⟩, by rw [y2]; exact Xkp_adv tt g, fun _ => y1⟩
  · obtain ⟨p, y1, y2⟩ := tw_f (Xft_ne tb h g) k
    refine ⟨p, Or.inr ⟨f, Gf_app2 ws b h, by rw [y2]; exact g⟩, by rw [y2]; exact Xkp.refl D, fun x => (Gok_Gf _ _ _ ((Gok_app ws b).1 x).1 h).elim⟩
theorem rs_n (hT : Txt T N) (tb : Tok T N b) {ws : List Atk} (h : RS T N ws b D) (m : Int) : p_num D m ∧ RS T N (ws ++ [(0, m)]) b (u_num D m) ∧ Xkp D (u_num D m) ∧ (Gok T N (ws ++ [(0, m)]) b → w_num D m = nvt T N (gN T N ws b)) := by
  rcases h with ⟨h, g⟩ | ⟨f, h, g⟩
  · have tt := (gN_tok ws b tb).1
    obtain ⟨y, z⟩ := num_x tt g m
    have p := Xst_pn hT tt g m
    by_cases q : Nm T N (gN T N ws b) m
    · obtain ⟨y1, y2⟩ := y q
      exact ⟨p, Or.inl ⟨(Gok_app ws b).2 ⟨h, q⟩, by rw [y2, gN_app]; exact (adv_x tt g).1⟩, by rw [y2]; exact Xkp_adv tt g, fun _ => y1⟩
    · obtain ⟨z1, z2⟩ := z q
      exact ⟨p, Or.inr ⟨_, Gf_app1 ws b h q, by rw [z2]; exact Xft_ref g⟩, by rw [z2]; exact Xkp_ref g, fun x => absurd ((Gok_app ws b).1 x).2 q⟩
  · obtain ⟨y1, y2⟩ := num_f (Xft_ne tb h g) m
    have tt := (Gf_tok ws b f tb h).1
    refine ⟨?_, Or.inr ⟨f, Gf_app2 ws b h, by rw [y2]; exact g⟩, by rw [y2]; exact Xkp.refl D, fun x => (Gok_Gf _ _ _ ((Gok_app ws b).1 x).1 h).elim⟩
    have p := Xst_pn hT tt g.2 m
    unfold p_num p_adv bys at p ⊢
    rw [up_cf (show (48 : Nat) ≠ 47 by decide), up_i (show (7 : Int) ≠ 3 by decide), up_i (show (8 : Int) ≠ 3 by decide), up_i (show (6 : Int) ≠ 3 by decide), up_i (show (4 : Int) ≠ 3 by decide)] at p
    exact p
end Xtk
