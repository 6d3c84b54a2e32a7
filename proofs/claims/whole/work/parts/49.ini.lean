/-! Constructors, on the heap as it is. -/
section In
variable {n : Nat} {A A' : aA} {D D' : aD} {d : Nat} {P : Nat → Option am_E} {pc q : Nat} {lo : am_L} {st : List am_V} {s : am_S} {ks : List Nat} {ln : Nat}
theorem x_ob {m nn j cl : Nat} {z : Int} {r : Option Nat} (h : P pc = some (ks, .invokespecial j, ln, (m, nn, z))) (hk : am_kill ks lo = lo) (hq : pc + 3 = q) (hz : z.toNat % 16 = 6) (hcl : z.toNat / 16 % 256 = cl) (hs : Nat.ble ((st.map am_cat).sum) 8 = true) (ho : am_is s.1 r cl = true) : mr d P pc lo (am_r r :: st) s = mr d P q lo st s := by
  subst hq; subst hcl; rw [mx h hk]
  show am_cal (dn d) (mr d P (pc + 3)) lo _ s (m, nn, z) = _
  unfold am_cal
  simp only [hz]
  show (if (st.map am_cat).sum ≤ 8 then (if am_is s.1 r _ = true then _ else none) else none) = _
  rw [if_pos (Nat.le_of_ble_eq_true hs), if_pos ho]
theorem x_na {z : Int} {i : ArrayType} {x : am_X} (h : P pc = some (ks, .newarray i, ln, x)) (hk : am_kill ks lo = lo) (hq : pc + 2 = q) (hz : 0 ≤ z ∧ z ≤ 10000) : mr d P pc lo (am_i (wz z) :: st) s = mr d P q lo (am_r (some s.1.length) :: st) (s.1 ++ [.inr (.inl (x.1, z.toNat, fun _ => 0))], s.2 + z.toNat) := by
  subst hq
  rw [mx h hk]
  have hr : rg z := rgb (by omega) (by omega)
  have e := wz_clamp hr
  show (if ¬ wz z < 0 ∧ (wz z).toNatClampNeg ≤ 65536 then _ else none) = _
  rw [if_pos ⟨by rw [← wz0, wz_lt hr rg0]; omega, by rw [e]; omega⟩, e]; rfl
/-- a write to a place that was written before -/
theorem put_S {h : List am_Ce} {u : Nat} {a c k : Nat} {fs : List am_V} {v : am_V} (hl : a < h.length) (ha : 32 ≤ a) (hk : k < fs.length) : am_put (h.set a (.inl (c, fs)), u) (some a) c k v = some (h.set a (.inl (c, fs.set k v)), u) := by
  rw [put_of (s := (h.set a (.inl (c, fs)), u)) (List.getElem?_set_self hl) ha hk]
  show some ((h.set a _).set a _, u) = _
  rw [List.set_set]
theorem set_id {h : List am_Ce} {a : Nat} {c : am_Ce} (e : h[a]? = some c) : h.set a c = h := by
  obtain ⟨hl, he⟩ := List.getElem?_eq_some_iff.mp e
  rw [← he, List.set_getElem_self]
abbrev P_i66 : Nat → Option am_E := am_fy tb_X8_init
theorem rw_i66 {a : Nat} {f0 f1 f2 f3 f4 : am_V} {v1 v2 v3 v4 : Int32} (hl : s.1[a]? = some (.inl (9, [f0, f1, f2, f3, f4]))) (h32 : 32 ≤ a) : dn (d + 1) 66 [am_r (some a), am_i v1, am_i v2, am_i v3, am_i v4] s = some (none, ((s.1 ++ ([.inr (.inl (0, 0, fun _ => 0))] : List am_Ce)).set a (.inl (9, [am_i v1, am_i v2, am_i v3, am_i v4, am_r (some s.1.length)])), s.2)) := by
  have hlt : a < (s.1 ++ ([.inr (.inl (0, 0, fun _ => 0))] : List am_Ce)).length := by
    have := (List.getElem?_eq_some_iff.mp hl).1
    rw [List.length_append]; omega
  rw [dn_s (P := P_i66) (n := 5) (lo := [some (am_r (some a)), some (am_i v1), some (am_i v2), some (am_i v3), some (am_i v4)]) rfl rfl rfl]
  refine (m_aload_n (q := 1) rfl rfl rfl rfl).trans ?_
  refine (x_ob (q := 4) rfl rfl rfl rfl rfl rfl (is_of hl)).trans ?_
  refine (m_aload_n (q := 5) rfl rfl rfl rfl).trans ?_
  refine (m_iconst (q := 6) rfl rfl rfl).trans ?_
  refine (x_na (q := 8) rfl rfl rfl ⟨by decide, by decide⟩).trans ?_
  refine (x_pfr (q := 11) rfl rfl rfl (put_of (ap_lt hl) h32 (show (4 : Nat) < 5 by decide))).trans ?_
  refine (m_aload_n (q := 12) rfl rfl rfl rfl).trans ?_
  refine (m_iload_n (q := 13) rfl rfl rfl rfl).trans ?_
  refine (x_pfi (q := 16) rfl rfl rfl (put_S hlt h32 (show (0 : Nat) < 5 by decide))).trans ?_
  refine (m_aload_n (q := 17) rfl rfl rfl rfl).trans ?_
  refine (m_iload_n (q := 18) rfl rfl rfl rfl).trans ?_
  refine (x_pfi (q := 21) rfl rfl rfl (put_S hlt h32 (show (1 : Nat) < 5 by decide))).trans ?_
  refine (m_aload_n (q := 22) rfl rfl rfl rfl).trans ?_
  refine (m_iload_n (q := 23) rfl rfl rfl rfl).trans ?_
  refine (x_pfi (q := 26) rfl rfl rfl (put_S hlt h32 (show (2 : Nat) < 5 by decide))).trans ?_
  refine (m_aload_n (q := 27) rfl rfl rfl rfl).trans ?_
  refine (m_iload (q := 29) rfl rfl rfl rfl).trans ?_
  refine (x_pfi (q := 32) rfl rfl rfl (put_S hlt h32 (show (3 : Nat) < 5 by decide))).trans ?_
  exact m_retv rfl rfl
abbrev P_i69 : Nat → Option am_E := am_fy tb_X10_init
theorem rw_i69 {a : Nat} {f0 f1 f2 f3 f4 f5 : am_V} {v1 v2 v3 v4 : Int32} (hl : s.1[a]? = some (.inl (11, [f0, f1, f2, f3, f4, f5]))) (h32 : 32 ≤ a) : dn (d + 1) 69 [am_r (some a), am_i v1, am_i v2, am_i v3, am_i v4] s = some (none, (s.1.set a (.inl (11, [am_i v1, am_i v2, am_i v3, am_i v4, f4, f5])), s.2)) := by
  have hlt := (List.getElem?_eq_some_iff.mp hl).1
  rw [dn_s (P := P_i69) (n := 5) (lo := [some (am_r (some a)), some (am_i v1), some (am_i v2), some (am_i v3), some (am_i v4)]) rfl rfl rfl]
  refine (m_aload_n (q := 1) rfl rfl rfl rfl).trans ?_
  refine (x_ob (q := 4) rfl rfl rfl rfl rfl rfl (is_of hl)).trans ?_
  refine (m_aload_n (q := 5) rfl rfl rfl rfl).trans ?_
  refine (m_iload_n (q := 6) rfl rfl rfl rfl).trans ?_
  refine (x_pfi (q := 9) rfl rfl rfl (put_of hl h32 (show (0 : Nat) < 6 by decide))).trans ?_
  refine (m_aload_n (q := 10) rfl rfl rfl rfl).trans ?_
  refine (m_iload_n (q := 11) rfl rfl rfl rfl).trans ?_
  refine (x_pfi (q := 14) rfl rfl rfl (put_S hlt h32 (show (1 : Nat) < 6 by decide))).trans ?_
  refine (m_aload_n (q := 15) rfl rfl rfl rfl).trans ?_
  refine (m_iload_n (q := 16) rfl rfl rfl rfl).trans ?_
  refine (x_pfi (q := 19) rfl rfl rfl (put_S hlt h32 (show (2 : Nat) < 6 by decide))).trans ?_
  refine (m_aload_n (q := 20) rfl rfl rfl rfl).trans ?_
  refine (m_iload (q := 22) rfl rfl rfl rfl).trans ?_
  refine (x_pfi (q := 25) rfl rfl rfl (put_S hlt h32 (show (3 : Nat) < 6 by decide))).trans ?_
  exact m_retv rfl rfl
abbrev P_i33 : Nat → Option am_E := am_fy tb_X4_init
theorem rw_i33 {a : Nat} {f0 f1 f2 f3 f4 f5 f6 f7 f8 : am_V} {v1 v2 v3 v4 v5 : Int32} (hl : s.1[a]? = some (.inl (5, [f0, f1, f2, f3, f4, f5, f6, f7, f8]))) (h32 : 32 ≤ a) : dn (d + 1) 33 [am_r (some a), am_i v1, am_i v2, am_i v3, am_i v4, am_i v5] s = some (none, ((s.1 ++ ([.inr (.inl (0, 0, fun _ => 0))] : List am_Ce)).set a (.inl (5, [am_i v1, am_i v2, am_i v3, am_i v4, am_i v5, f5, f6, am_i (wz (-1)), am_r (some s.1.length)])), s.2)) := by
  have hlt0 := (List.getElem?_eq_some_iff.mp hl).1
  have hlt : a < (s.1 ++ ([.inr (.inl (0, 0, fun _ => 0))] : List am_Ce)).length := by
    rw [List.length_append]; omega
  rw [dn_s (P := P_i33) (n := 6) (lo := [some (am_r (some a)), some (am_i v1), some (am_i v2), some (am_i v3), some (am_i v4), some (am_i v5)]) rfl rfl rfl]
  refine (m_aload_n (q := 1) rfl rfl rfl rfl).trans ?_
  refine (x_ob (q := 4) rfl rfl rfl rfl rfl rfl (is_of hl)).trans ?_
  refine (m_aload_n (q := 5) rfl rfl rfl rfl).trans ?_
  refine (m_iconst (q := 6) rfl rfl rfl).trans ?_
  refine (x_pfi (q := 9) rfl rfl rfl (put_of hl h32 (show (7 : Nat) < 9 by decide))).trans ?_
  refine (m_aload_n (q := 10) rfl rfl rfl rfl).trans ?_
  refine (m_iconst (q := 11) rfl rfl rfl).trans ?_
  refine (x_na (q := 13) rfl rfl rfl ⟨by decide, by decide⟩).trans ?_
  simp only [List.length_set]
  rw [← List.set_append_left _ _ hlt0]
  refine (x_pfr (q := 16) rfl rfl rfl (put_S hlt h32 (show (8 : Nat) < 9 by decide))).trans ?_
  refine (m_aload_n (q := 17) rfl rfl rfl rfl).trans ?_
  refine (m_iload_n (q := 18) rfl rfl rfl rfl).trans ?_
  refine (x_pfi (q := 21) rfl rfl rfl (put_S hlt h32 (show (0 : Nat) < 9 by decide))).trans ?_
  refine (m_aload_n (q := 22) rfl rfl rfl rfl).trans ?_
  refine (m_iload_n (q := 23) rfl rfl rfl rfl).trans ?_
  refine (x_pfi (q := 26) rfl rfl rfl (put_S hlt h32 (show (1 : Nat) < 9 by decide))).trans ?_
  refine (m_aload_n (q := 27) rfl rfl rfl rfl).trans ?_
  refine (m_iload_n (q := 28) rfl rfl rfl rfl).trans ?_
  refine (x_pfi (q := 31) rfl rfl rfl (put_S hlt h32 (show (2 : Nat) < 9 by decide))).trans ?_
  refine (m_aload_n (q := 32) rfl rfl rfl rfl).trans ?_
  refine (m_iload (q := 34) rfl rfl rfl rfl).trans ?_
  refine (x_pfi (q := 37) rfl rfl rfl (put_S hlt h32 (show (3 : Nat) < 9 by decide))).trans ?_
  refine (m_aload_n (q := 38) rfl rfl rfl rfl).trans ?_
  refine (m_iload (q := 40) rfl rfl rfl rfl).trans ?_
  refine (x_pfi (q := 43) rfl rfl rfl (put_S hlt h32 (show (4 : Nat) < 9 by decide))).trans ?_
  exact m_retv rfl rfl
abbrev P_i34 : Nat → Option am_E := am_fy tb_X5_init
theorem rw_i34 {a : Nat} {f0 f1 f2 f3 f4 f5 f6 f7 f8 f9 f10 : am_V} {v1 v4 : Int32} {r2 r3 : Option Nat} (hl : s.1[a]? = some (.inl (6, [f0, f1, f2, f3, f4, f5, f6, f7, f8, f9, f10]))) (h32 : 32 ≤ a) : dn (d + 1) 34 [am_r (some a), am_i v1, am_r r2, am_r r3, am_i v4] s = some (none, (s.1.set a (.inl (6, [am_i v1, am_r r2, am_r r3, am_i v4, f4, am_i (wz (-1)), am_i (wz (-1)), f7, am_i (wz (-1)), am_i (wz (-1)), f10])), s.2)) := by
  have hlt := (List.getElem?_eq_some_iff.mp hl).1
  rw [dn_s (P := P_i34) (n := 5) (lo := [some (am_r (some a)), some (am_i v1), some (am_r r2), some (am_r r3), some (am_i v4)]) rfl rfl rfl]
  refine (m_aload_n (q := 1) rfl rfl rfl rfl).trans ?_
  refine (x_ob (q := 4) rfl rfl rfl rfl rfl rfl (is_of hl)).trans ?_
  refine (m_aload_n (q := 5) rfl rfl rfl rfl).trans ?_
  refine (m_iconst (q := 6) rfl rfl rfl).trans ?_
  refine (x_pfi (q := 9) rfl rfl rfl (put_of hl h32 (show (5 : Nat) < 11 by decide))).trans ?_
  refine (m_aload_n (q := 10) rfl rfl rfl rfl).trans ?_
  refine (m_iconst (q := 11) rfl rfl rfl).trans ?_
  refine (x_pfi (q := 14) rfl rfl rfl (put_S hlt h32 (show (6 : Nat) < 11 by decide))).trans ?_
  refine (m_aload_n (q := 15) rfl rfl rfl rfl).trans ?_
  refine (m_iconst (q := 16) rfl rfl rfl).trans ?_
  refine (x_pfi (q := 19) rfl rfl rfl (put_S hlt h32 (show (8 : Nat) < 11 by decide))).trans ?_
  refine (m_aload_n (q := 20) rfl rfl rfl rfl).trans ?_
  refine (m_iconst (q := 21) rfl rfl rfl).trans ?_
  refine (x_pfi (q := 24) rfl rfl rfl (put_S hlt h32 (show (9 : Nat) < 11 by decide))).trans ?_
  refine (m_aload_n (q := 25) rfl rfl rfl rfl).trans ?_
  refine (m_iload_n (q := 26) rfl rfl rfl rfl).trans ?_
  refine (x_pfi (q := 29) rfl rfl rfl (put_S hlt h32 (show (0 : Nat) < 11 by decide))).trans ?_
  refine (m_aload_n (q := 30) rfl rfl rfl rfl).trans ?_
  refine (m_aload_n (q := 31) rfl rfl rfl rfl).trans ?_
  refine (x_pfr (q := 34) rfl rfl rfl (put_S hlt h32 (show (1 : Nat) < 11 by decide))).trans ?_
  refine (m_aload_n (q := 35) rfl rfl rfl rfl).trans ?_
  refine (m_aload_n (q := 36) rfl rfl rfl rfl).trans ?_
  refine (x_pfr (q := 39) rfl rfl rfl (put_S hlt h32 (show (2 : Nat) < 11 by decide))).trans ?_
  refine (m_aload_n (q := 40) rfl rfl rfl rfl).trans ?_
  refine (m_iload (q := 42) rfl rfl rfl rfl).trans ?_
  refine (x_pfi (q := 45) rfl rfl rfl (put_S hlt h32 (show (3 : Nat) < 11 by decide))).trans ?_
  exact m_retv rfl rfl
theorem rw_age {sa : Nat} {f0 f2 f3 f4 : am_V} {b w : Int} (hl : s.1[sa]? = some (.inl (9, [f0, am_i (wz b), f2, f3, f4]))) : dn (d + 1) 67 [am_r (some sa), am_i (wz w)] s = some (some (am_i (wz (wr ((max 0 (wr (w - b))).tdiv 365)))), s) := by
  have hr : rg (max 0 (wr (w - b))) := by
    have := rg_wr (w - b)
    unfold rg at this ⊢; omega
  rw [dn_s (P := P_X8_ageOn) (n := 2) (lo := [some (am_r (some sa)), some (am_i (wz w))]) rfl rfl rfl]
  refine (m_iconst (q := 1) rfl rfl rfl).trans ?_
  refine (m_iload_n (q := 2) rfl rfl rfl rfl).trans ?_
  refine (m_aload_n (q := 3) rfl rfl rfl rfl).trans ?_
  refine (x_gfi (q := 6) (v := wz b) rfl rfl rfl (gi_of hl rfl)).trans ?_
  refine (m_isub (q := 7) rfl rfl rfl).trans ?_
  refine (m_max (q := 10) rfl rfl rfl rg0 (rg_wr _) rfl).trans ?_
  refine (m_sipush (q := 13) rfl rfl rfl).trans ?_
  refine (m_idiv (q := 14) rfl rfl hr ⟨by decide, by decide⟩ (by decide) rfl).trans ?_
  exact m_reti rfl rfl
abbrev P_i68 : Nat → Option am_E := am_fy tb_X9_init
theorem rw_i68 {a : Nat} {f0 f1 f2 f3 f4 f5 : am_V} {v1 : Int32} (hl : s.1[a]? = some (.inl (10, [f0, f1, f2, f3, f4, f5]))) (h32 : 32 ≤ a) : dn (d + 1) 68 [am_r (some a), am_i v1] s = some (none, (s.1.set a (.inl (10, [am_i v1, f1, f2, f3, f4, f5])), s.2)) := by
  rw [dn_s (P := P_i68) (n := 2) (lo := [some (am_r (some a)), some (am_i v1)]) rfl rfl rfl]
  refine (m_aload_n (q := 1) rfl rfl rfl rfl).trans ?_
  refine (x_ob (q := 4) rfl rfl rfl rfl rfl rfl (is_of hl)).trans ?_
  refine (m_aload_n (q := 5) rfl rfl rfl rfl).trans ?_
  refine (m_iload_n (q := 6) rfl rfl rfl rfl).trans ?_
  refine (x_pfi (q := 9) rfl rfl rfl (put_of hl h32 (show (0 : Nat) < 6 by decide))).trans ?_
  exact m_retv rfl rfl
theorem x_pfb {j c k : Nat} {r : Option Nat} {v : Int32} {s' : am_S} (h : P pc = some (ks, .putfield j, ln, (c, k, 2))) (hk : am_kill ks lo = lo) (hq : pc + 3 = q) (hv : am_nar 2 v = v) (hp : am_put s r c k (am_i v) = some s') : mr d P pc lo (am_i v :: am_r r :: st) s = mr d P q lo st s' := by
  subst hq; rw [mx h hk]
  simp [am_st, am_ri, hp, hv]
abbrev P_i1 : Nat → Option am_E := am_fy tb_X0_init
theorem rw_i1 {a sa : Nat} {f0 f1 f2 f3 g0 g2 g3 g4 : am_V} {b w x : Int} {r2 : Option Nat} (hl : s.1[a]? = some (.inl (1, [f0, f1, f2, f3]))) (h32 : 32 ≤ a) (hs : s.1[sa]? = some (.inl (9, [g0, am_i (wz b), g2, g3, g4]))) (hx : am_nar 2 (wz x) = wz x) : dn (d + 2) 1 [am_r (some a), am_r (some sa), am_r r2, am_i (wz w), am_i (wz x)] s = some (none, (s.1.set a (.inl (1, [am_r (some sa), am_r r2, am_i (wz (wr ((max 0 (wr (w - b))).tdiv 365))), am_i (wz x)])), s.2)) := by
  have hlt := (List.getElem?_eq_some_iff.mp hl).1
  have hne : a ≠ sa := by
    intro e; subst e; rw [hl] at hs; injection hs with hs; injection hs with hs; injection hs with hs _; exact absurd hs (by decide)
  rw [dn_s (P := P_i1) (n := 5) (lo := [some (am_r (some a)), some (am_r (some sa)), some (am_r r2), some (am_i (wz w)), some (am_i (wz x))]) rfl rfl rfl]
  refine (m_aload_n (q := 1) rfl rfl rfl rfl).trans ?_
  refine (x_ob (q := 4) rfl rfl rfl rfl rfl rfl (is_of hl)).trans ?_
  refine (m_aload_n (q := 5) rfl rfl rfl rfl).trans ?_
  refine (m_aload_n (q := 6) rfl rfl rfl rfl).trans ?_
  refine (x_pfr (q := 9) rfl rfl rfl (put_of hl h32 (show (0 : Nat) < 4 by decide))).trans ?_
  refine (m_aload_n (q := 10) rfl rfl rfl rfl).trans ?_
  refine (m_aload_n (q := 11) rfl rfl rfl rfl).trans ?_
  refine (x_pfr (q := 14) rfl rfl rfl (put_S hlt h32 (show (1 : Nat) < 4 by decide))).trans ?_
  refine (m_aload_n (q := 15) rfl rfl rfl rfl).trans ?_
  refine (m_aload_n (q := 16) rfl rfl rfl rfl).trans ?_
  refine (m_iload_n (q := 17) rfl rfl rfl rfl).trans ?_
  have hs' : ∀ o : am_Ce, (s.1.set a o)[sa]? = some (.inl (9, [g0, am_i (wz b), g2, g3, g4])) := fun o => (set_ne hne).trans hs
  refine (x_cv (rk := 1) (r := some sa) (as := [am_i (wz w)]) (rest := [am_r (some a)]) (q := 20) rfl rfl rfl rfl rfl rfl rfl rfl rfl rfl (is_of (hs' _))).trans ?_
  rw [rw_age (hs' _)]
  refine (x_pfi (q := 23) rfl rfl rfl (put_S hlt h32 (show (2 : Nat) < 4 by decide))).trans ?_
  refine (m_aload_n (q := 24) rfl rfl rfl rfl).trans ?_
  refine (m_iload (q := 26) rfl rfl rfl rfl).trans ?_
  refine (x_pfb (q := 29) rfl rfl rfl hx (put_S hlt h32 (show (3 : Nat) < 4 by decide))).trans ?_
  exact m_retv rfl rfl
end In
