/-! The constructors, on the heap as it is. -/
section Ctr
variable {d : Nat} {P : Nat → Option am_E} {pc p1 p2 p3 p4 p5 p6 : Nat} {lo : am_L} {g l l' r : List am_Ce} {fs fs' df : List am_V} {c C k u u' n n2 z kd m : Nat} {x x' : am_Ce} {s : am_S}
abbrev zI (n : Nat) : am_Ce := .inr (.inl (0, n, fun _ => 0))
abbrev zB (n : Nat) : am_Ce := .inr (.inl (1, n, fun _ => 0))
abbrev zZ (n : Nat) : am_Ce := .inr (.inl (2, n, fun _ => 0))
abbrev zQ (c n : Nat) : am_Ce := .inr (.inr (c, n, fun _ => none))
theorem g_at : (g ++ x :: l)[g.length]? = some x := by rw [List.getElem?_append_right (Nat.le_refl _), Nat.sub_self]; rfl
theorem g_set : (g ++ x :: l).set g.length x' = g ++ x' :: l := by rw [List.set_append_right _ _ (Nat.le_refl _), Nat.sub_self]; rfl
theorem y_put {v : am_V} (hg : g.length = n) (h32 : 32 ≤ n) (hk : k < fs.length) : am_put (g ++ .inl (c, fs) :: l, u) (some n) c k v = some (g ++ .inl (c, fs.set k v) :: l, u) := by
  subst hg
  rw [put_of (s := (g ++ .inl (c, fs) :: l, u)) g_at h32 hk]
  show some ((g ++ _ :: l).set g.length _, u) = _
  rw [g_set]
/-- a new row in a field -/
theorem y_nap {e : am_Ce} (hg : g.length = n) (h32 : 32 ≤ n) (hk : k < fs.length) (ha : ∀ st s, mr d P pc lo st s = mr d P p1 lo (am_r (some n) :: st) s) (hp : ∀ st s, mr d P p1 lo st s = mr d P p2 lo (am_i (wz ((z : Nat) : Int)) :: st) s) (hn : ∀ st s, mr d P p2 lo (am_i (wz ((z : Nat) : Int)) :: st) s = mr d P p3 lo (am_r (some s.1.length) :: st) (s.1 ++ [e], s.2 + z)) (hf : ∀ st s s' v r, am_put s r c k (am_r v) = some s' → mr d P p3 lo (am_r v :: am_r r :: st) s = mr d P p4 lo st s') (e1 : l ++ [e] = l') (e2 : fs.set k (am_r (some (n + 1 + l.length))) = fs') (e3 : u + z = u') : mr d P pc lo [] (g ++ .inl (c, fs) :: l, u) = mr d P p4 lo [] (g ++ .inl (c, fs') :: l', u') := by
  subst e1; subst e2; subst e3
  rw [ha, hp, hn]
  refine hf _ _ _ _ _ ?_
  show am_put ((g ++ .inl (c, fs) :: l) ++ [e], u + z) (some n) c k _ = _
  rw [List.append_assoc, List.cons_append, y_put hg h32 hk, List.length_append, hg, List.length_cons, show n + (l.length + 1) = n + 1 + l.length by omega]
/-- a number in a field -/
theorem y_pci {v : Int} (hg : g.length = n) (h32 : 32 ≤ n) (hk : k < fs.length) (ha : ∀ st s, mr d P pc lo st s = mr d P p1 lo (am_r (some n) :: st) s) (hp : ∀ st s, mr d P p1 lo st s = mr d P p2 lo (am_i (wz v) :: st) s) (hf : ∀ st s s' v r, am_put s r c k (am_i v) = some s' → mr d P p2 lo (am_i v :: am_r r :: st) s = mr d P p3 lo st s') (e2 : fs.set k (am_i (wz v)) = fs') : mr d P pc lo [] (g ++ .inl (c, fs) :: l, u) = mr d P p3 lo [] (g ++ .inl (c, fs') :: l, u) := by
  subst e2
  rw [ha, hp]
  exact hf _ _ _ _ _ (y_put hg h32 hk)
/-- a new thing in a field -/
theorem y_nop {xs : List am_V} (hg : g.length = n) (h32 : 32 ≤ n) (hk : k < fs.length) (h2 : n + 1 + l.length = n2) (ha : ∀ st s, mr d P pc lo st s = mr d P p1 lo (am_r (some n) :: st) s) (hn : ∀ st s, mr d P p1 lo st s = mr d P p2 lo (am_r (some s.1.length) :: st) (s.1 ++ [.inl (C, df)], s.2 + df.length)) (hd : ∀ v st s, mr d P p2 lo (am_r v :: st) s = mr d P p3 lo (am_r v :: am_r v :: st) s) (hp : ∀ st s, mr d P p3 lo st s = mr d P p4 lo (xs ++ st) s) (hc : ∀ s, am_is s.1 (some n2) C = true → mr d P p4 lo (xs ++ [am_r (some n2), am_r (some n2), am_r (some n)]) s = am_ans 0 (dn d m (am_r (some n2) :: xs.reverse) s) (fun st s => mr d P p5 lo st s) [am_r (some n2), am_r (some n)]) (hm : ∀ g2 : List am_Ce, g2.length = n2 → dn d m (am_r (some n2) :: xs.reverse) (g2 ++ [.inl (C, df)], u + df.length) = some (none, (g2 ++ r, u'))) (hf : ∀ st s s' v r, am_put s r c k (am_r v) = some s' → mr d P p5 lo (am_r v :: am_r r :: st) s = mr d P p6 lo st s') (e1 : l ++ r = l') (e2 : fs.set k (am_r (some n2)) = fs') : mr d P pc lo [] (g ++ .inl (c, fs) :: l, u) = mr d P p6 lo [] (g ++ .inl (c, fs') :: l', u') := by
  subst e1; subst e2
  have hlen : (g ++ .inl (c, fs) :: l).length = n2 := by rw [List.length_append, hg, List.length_cons]; omega
  rw [ha, hn, hd, hp]
  show mr d P p4 lo (xs ++ [am_r (some (g ++ .inl (c, fs) :: l).length), am_r (some (g ++ .inl (c, fs) :: l).length), am_r (some n)]) ((g ++ .inl (c, fs) :: l) ++ [.inl (C, df)], u + df.length) = _
  rw [hlen, hc _ (is_of (by rw [← hlen]; exact ap_at)), hm _ hlen]
  refine hf _ _ _ _ _ ?_
  show am_put ((g ++ .inl (c, fs) :: l) ++ r, u') (some n) c k _ = _
  rw [List.append_assoc, List.cons_append, y_put hg h32 hk]
theorem q226 {d : Nat} (h : 32 ≤ n) (hg : g.length = n) : dn (d + 3) 226 [am_r (some n)] (g ++ [l30], u) = some (none, (g ++ [l3], u)) := by
  subst hg
  rw [rw_i226 (s := (g ++ [l30], u)) (f0 := am_i 0) (f1 := am_r none) (f2 := am_i 0) ap_at h]
  show some (none, ((g ++ [l30]).set g.length _, u)) = _
  rw [ap_set]
theorem q57 {d : Nat} {v1 v2 : Int32} (h : 32 ≤ n) (hg : g.length = n) : dn (d + 4) 57 [am_r (some n), am_i v1, am_i v2] (g ++ [.inl (8, [am_i 0, am_i 0, am_r none, am_r none, am_r none, am_r none, am_i 0, am_i 0, am_i 0, am_i 0, am_i 0, am_i 0])], u) = some (none, (g ++ [.inl (8, [am_i v1, am_i v2, am_r (some (n + 1)), am_r (some (n + 2)), am_r (some (n + 3)), am_r (some (n + 4)), am_i (wz 30), am_i 0, am_i 0, am_i 0, am_i (wz 3), am_i 0]), l3, r6, r6, r6], u + 21)) := by
  subst hg
  refine (rw_i57 (d := d) (s := (g ++ [.inl (8, [am_i 0, am_i 0, am_r none, am_r none, am_r none, am_r none, am_i 0, am_i 0, am_i 0, am_i 0, am_i 0, am_i 0])], u)) (f0 := am_i 0) (f1 := am_i 0) (f2 := am_r none) (f3 := am_r none) (f4 := am_r none) (f5 := am_r none) (f6 := am_i 0) (f7 := am_i 0) (f8 := am_i 0) (f9 := am_i 0) (f10 := am_i 0) (f11 := am_i 0) (v1 := v1) (v2 := v2) ap_at h).trans ?_
  simp only [ap5, List.length_append, List.length_cons, List.length_nil, Nat.zero_add]

abbrev P_i40 : Nat → Option am_E := am_fy tb_X6_init
set_option maxRecDepth 10000 in
theorem q40 {d : Nat} (hg : g.length = 47) : dn (d + 1) 40 [am_r (some 47)] (g ++ [.inl (7, [am_r none, am_r none, am_i 0, am_i 0, am_i 0, am_i 0, am_i 0, am_i 0, am_i 0])], u) = some (none, (g ++ [.inl (7, [am_r (some 48), am_r (some 49), am_i 0, am_i (wz (-1)), am_i 0, am_i 0, am_i 0, am_i 0, am_i 0]), zB 700, zI 700], u + 1400)) := by
  rw [dn_s (P := P_i40) (n := 1) (lo := [some (am_r (some 47))]) rfl rfl rfl]
  refine (m_aload_n (q := 1) rfl rfl rfl rfl).trans ?_
  refine (x_ob (q := 4) rfl rfl rfl rfl rfl rfl (is_of (fs := [am_r none, am_r none, am_i 0, am_i 0, am_i 0, am_i 0, am_i 0, am_i 0, am_i 0]) (by rw [← hg]; exact ap_at))).trans ?_
  refine (y_nap (p1 := 5) (p2 := 8) (p3 := 10) (p4 := 13) (k := 0) (z := 700) (e := zB 700) (u' := u + 700) (l' := [zB 700]) (fs' := [am_r (some 48), am_r none, am_i 0, am_i 0, am_i 0, am_i 0, am_i 0, am_i 0, am_i 0]) hg (by decide) (by decide) (fun _ _ => m_aload_n rfl rfl rfl rfl) (fun _ _ => m_sipush rfl rfl rfl) (fun _ _ => (x_na (q := 10) (z := ((700 : Nat) : Int)) rfl rfl rfl ⟨by decide, by decide⟩).trans rfl) (fun _ _ _ _ _ h => x_pfr rfl rfl rfl h) rfl rfl rfl).trans ?_
  refine (y_nap (p1 := 14) (p2 := 17) (p3 := 19) (p4 := 22) (k := 1) (z := 700) (e := zI 700) (u' := u + 1400) (l' := [zB 700, zI 700]) (fs' := [am_r (some 48), am_r (some 49), am_i 0, am_i 0, am_i 0, am_i 0, am_i 0, am_i 0, am_i 0]) hg (by decide) (by decide) (fun _ _ => m_aload_n rfl rfl rfl rfl) (fun _ _ => m_sipush rfl rfl rfl) (fun _ _ => (x_na (q := 19) (z := ((700 : Nat) : Int)) rfl rfl rfl ⟨by decide, by decide⟩).trans rfl) (fun _ _ _ _ _ h => x_pfr rfl rfl rfl h) rfl rfl rfl).trans ?_
  refine (y_pci (p1 := 23) (p2 := 24) (p3 := 27) (k := 3) (v := -1) (fs' := [am_r (some 48), am_r (some 49), am_i 0, am_i (wz (-1)), am_i 0, am_i 0, am_i 0, am_i 0, am_i 0]) hg (by decide) (by decide) (fun _ _ => m_aload_n rfl rfl rfl rfl) (fun _ _ => m_iconst rfl rfl rfl) (fun _ _ _ _ _ h => x_pfi rfl rfl rfl h) rfl).trans ?_
  exact m_retv rfl rfl
abbrev P_i22 : Nat → Option am_E := am_fy tb_X3_init
set_option maxRecDepth 10000 in
theorem q22 {d : Nat} (hg : g.length = 50) : dn (d + 4) 22 [am_r (some 50)] (g ++ [.inl (4, [am_r none, am_r none])], u) = some (none, (g ++ [.inl (4, [am_r (some 51), am_r (some 52)]), l3, zI 6], u + 9)) := by
  rw [dn_s (P := P_i22) (n := 1) (lo := [some (am_r (some 50))]) rfl rfl rfl]
  refine (m_aload_n (q := 1) rfl rfl rfl rfl).trans ?_
  refine (x_ob (q := 4) rfl rfl rfl rfl rfl rfl (is_of (fs := [am_r none, am_r none]) (by rw [← hg]; exact ap_at))).trans ?_
  refine (y_nop (p1 := 5) (p2 := 8) (p3 := 9) (p4 := 9) (p5 := 12) (p6 := 15) (k := 0) (n2 := 51) (C := 0) (m := 226) (df := [am_i 0, am_r none, am_i 0]) (xs := []) (u' := u + 3) (l' := [l3]) (fs' := [am_r (some 51), am_r none]) hg (by decide) (by decide) rfl (fun _ _ => m_aload_n rfl rfl rfl rfl) (fun _ _ => (x_new (q := 8) (fs := [am_i 0, am_r none, am_i 0]) rfl rfl rfl rfl).trans rfl) (fun _ _ _ => m_dup rfl rfl rfl rfl) (fun _ _ => rfl) (fun s h => x_cp (m := 226) (nn := 1) (z := 2) (cl := 0) (rk := 0) (r := some 51) (as := []) (rest := [am_r (some 51), am_r (some 50)]) rfl rfl rfl rfl rfl rfl rfl rfl rfl rfl h) (fun g2 h2 => q226 (d := d) (by decide) h2) (fun _ _ _ _ _ h => x_pfr rfl rfl rfl h) rfl rfl).trans ?_
  refine (y_nap (p1 := 16) (p2 := 18) (p3 := 20) (p4 := 23) (k := 1) (z := 6) (e := zI 6) (u' := u + 9) (l' := [l3, zI 6]) (fs' := [am_r (some 51), am_r (some 52)]) hg (by decide) (by decide) (fun _ _ => m_aload_n rfl rfl rfl rfl) (fun _ _ => m_bipush rfl rfl rfl) (fun _ _ => (x_na (q := 20) (z := ((6 : Nat) : Int)) rfl rfl rfl ⟨by decide, by decide⟩).trans rfl) (fun _ _ _ _ _ h => x_pfr rfl rfl rfl h) rfl rfl rfl).trans ?_
  exact m_retv rfl rfl
abbrev P_i10 : Nat → Option am_E := am_fy tb_X2_init
set_option maxRecDepth 10000 in
theorem q10 {d : Nat} (hg : g.length = 53) : dn (d + 1) 10 [am_r (some 53)] (g ++ [.inl (3, [am_r none, am_r none, am_r none, am_r none, am_r none, am_r none, am_r none, am_r none])], u) = some (none, (g ++ [.inl (3, [am_r (some 54), am_r (some 55), am_r (some 56), am_r (some 57), am_r (some 58), am_r (some 59), am_r (some 60), am_r (some 61)]), zI 312, zI 24, zI 720, zI 720, zI 30, zI 30, zI 24, zI 24], u + 1884)) := by
  rw [dn_s (P := P_i10) (n := 1) (lo := [some (am_r (some 53))]) rfl rfl rfl]
  refine (m_aload_n (q := 1) rfl rfl rfl rfl).trans ?_
  refine (x_ob (q := 4) rfl rfl rfl rfl rfl rfl (is_of (fs := [am_r none, am_r none, am_r none, am_r none, am_r none, am_r none, am_r none, am_r none]) (by rw [← hg]; exact ap_at))).trans ?_
  refine (y_nap (p1 := 5) (p2 := 8) (p3 := 10) (p4 := 13) (k := 0) (z := 312) (e := zI 312) (u' := u + 312) (l' := [zI 312]) (fs' := [am_r (some 54), am_r none, am_r none, am_r none, am_r none, am_r none, am_r none, am_r none]) hg (by decide) (by decide) (fun _ _ => m_aload_n rfl rfl rfl rfl) (fun _ _ => m_sipush rfl rfl rfl) (fun _ _ => (x_na (q := 10) (z := ((312 : Nat) : Int)) rfl rfl rfl ⟨by decide, by decide⟩).trans rfl) (fun _ _ _ _ _ h => x_pfr rfl rfl rfl h) rfl rfl rfl).trans ?_
  refine (y_nap (p1 := 14) (p2 := 16) (p3 := 18) (p4 := 21) (k := 1) (z := 24) (e := zI 24) (u' := u + 336) (l' := [zI 312, zI 24]) (fs' := [am_r (some 54), am_r (some 55), am_r none, am_r none, am_r none, am_r none, am_r none, am_r none]) hg (by decide) (by decide) (fun _ _ => m_aload_n rfl rfl rfl rfl) (fun _ _ => m_bipush rfl rfl rfl) (fun _ _ => (x_na (q := 18) (z := ((24 : Nat) : Int)) rfl rfl rfl ⟨by decide, by decide⟩).trans rfl) (fun _ _ _ _ _ h => x_pfr rfl rfl rfl h) rfl rfl rfl).trans ?_
  refine (y_nap (p1 := 22) (p2 := 25) (p3 := 27) (p4 := 30) (k := 2) (z := 720) (e := zI 720) (u' := u + 1056) (l' := [zI 312, zI 24, zI 720]) (fs' := [am_r (some 54), am_r (some 55), am_r (some 56), am_r none, am_r none, am_r none, am_r none, am_r none]) hg (by decide) (by decide) (fun _ _ => m_aload_n rfl rfl rfl rfl) (fun _ _ => m_sipush rfl rfl rfl) (fun _ _ => (x_na (q := 27) (z := ((720 : Nat) : Int)) rfl rfl rfl ⟨by decide, by decide⟩).trans rfl) (fun _ _ _ _ _ h => x_pfr rfl rfl rfl h) rfl rfl rfl).trans ?_
  refine (y_nap (p1 := 31) (p2 := 34) (p3 := 36) (p4 := 39) (k := 3) (z := 720) (e := zI 720) (u' := u + 1776) (l' := [zI 312, zI 24, zI 720, zI 720]) (fs' := [am_r (some 54), am_r (some 55), am_r (some 56), am_r (some 57), am_r none, am_r none, am_r none, am_r none]) hg (by decide) (by decide) (fun _ _ => m_aload_n rfl rfl rfl rfl) (fun _ _ => m_sipush rfl rfl rfl) (fun _ _ => (x_na (q := 36) (z := ((720 : Nat) : Int)) rfl rfl rfl ⟨by decide, by decide⟩).trans rfl) (fun _ _ _ _ _ h => x_pfr rfl rfl rfl h) rfl rfl rfl).trans ?_
  refine (y_nap (p1 := 40) (p2 := 42) (p3 := 44) (p4 := 47) (k := 4) (z := 30) (e := zI 30) (u' := u + 1806) (l' := [zI 312, zI 24, zI 720, zI 720, zI 30]) (fs' := [am_r (some 54), am_r (some 55), am_r (some 56), am_r (some 57), am_r (some 58), am_r none, am_r none, am_r none]) hg (by decide) (by decide) (fun _ _ => m_aload_n rfl rfl rfl rfl) (fun _ _ => m_bipush rfl rfl rfl) (fun _ _ => (x_na (q := 44) (z := ((30 : Nat) : Int)) rfl rfl rfl ⟨by decide, by decide⟩).trans rfl) (fun _ _ _ _ _ h => x_pfr rfl rfl rfl h) rfl rfl rfl).trans ?_
  refine (y_nap (p1 := 48) (p2 := 50) (p3 := 52) (p4 := 55) (k := 5) (z := 30) (e := zI 30) (u' := u + 1836) (l' := [zI 312, zI 24, zI 720, zI 720, zI 30, zI 30]) (fs' := [am_r (some 54), am_r (some 55), am_r (some 56), am_r (some 57), am_r (some 58), am_r (some 59), am_r none, am_r none]) hg (by decide) (by decide) (fun _ _ => m_aload_n rfl rfl rfl rfl) (fun _ _ => m_bipush rfl rfl rfl) (fun _ _ => (x_na (q := 52) (z := ((30 : Nat) : Int)) rfl rfl rfl ⟨by decide, by decide⟩).trans rfl) (fun _ _ _ _ _ h => x_pfr rfl rfl rfl h) rfl rfl rfl).trans ?_
  refine (y_nap (p1 := 56) (p2 := 58) (p3 := 60) (p4 := 63) (k := 6) (z := 24) (e := zI 24) (u' := u + 1860) (l' := [zI 312, zI 24, zI 720, zI 720, zI 30, zI 30, zI 24]) (fs' := [am_r (some 54), am_r (some 55), am_r (some 56), am_r (some 57), am_r (some 58), am_r (some 59), am_r (some 60), am_r none]) hg (by decide) (by decide) (fun _ _ => m_aload_n rfl rfl rfl rfl) (fun _ _ => m_bipush rfl rfl rfl) (fun _ _ => (x_na (q := 60) (z := ((24 : Nat) : Int)) rfl rfl rfl ⟨by decide, by decide⟩).trans rfl) (fun _ _ _ _ _ h => x_pfr rfl rfl rfl h) rfl rfl rfl).trans ?_
  refine (y_nap (p1 := 64) (p2 := 66) (p3 := 68) (p4 := 71) (k := 7) (z := 24) (e := zI 24) (u' := u + 1884) (l' := [zI 312, zI 24, zI 720, zI 720, zI 30, zI 30, zI 24, zI 24]) (fs' := [am_r (some 54), am_r (some 55), am_r (some 56), am_r (some 57), am_r (some 58), am_r (some 59), am_r (some 60), am_r (some 61)]) hg (by decide) (by decide) (fun _ _ => m_aload_n rfl rfl rfl rfl) (fun _ _ => m_bipush rfl rfl rfl) (fun _ _ => (x_na (q := 68) (z := ((24 : Nat) : Int)) rfl rfl rfl ⟨by decide, by decide⟩).trans rfl) (fun _ _ _ _ _ h => x_pfr rfl rfl rfl h) rfl rfl rfl).trans ?_
  exact m_retv rfl rfl
abbrev P_i3 : Nat → Option am_E := am_fy tb_X1_init
set_option maxRecDepth 10000 in
theorem q3 {d : Nat} (hg : g.length = 62) : dn (d + 1) 3 [am_r (some 62)] (g ++ [.inl (2, [am_r none, am_r none, am_r none, am_r none, am_r none, am_r none, am_r none, am_i 0, am_i 0, am_i 0, am_i 0])], u) = some (none, (g ++ [.inl (2, [am_r (some 63), am_r (some 64), am_r (some 65), am_r (some 66), am_r (some 67), am_r (some 68), am_r (some 69), am_i 0, am_i 0, am_i 0, am_i 0]), zQ 5 6, zI 6, zQ 9 6, zI 6, zI 36, zI 448, zI 6], u + 514)) := by
  rw [dn_s (P := P_i3) (n := 1) (lo := [some (am_r (some 62))]) rfl rfl rfl]
  refine (m_aload_n (q := 1) rfl rfl rfl rfl).trans ?_
  refine (x_ob (q := 4) rfl rfl rfl rfl rfl rfl (is_of (fs := [am_r none, am_r none, am_r none, am_r none, am_r none, am_r none, am_r none, am_i 0, am_i 0, am_i 0, am_i 0]) (by rw [← hg]; exact ap_at))).trans ?_
  refine (y_nap (p1 := 5) (p2 := 7) (p3 := 10) (p4 := 13) (k := 0) (z := 6) (e := zQ 5 6) (u' := u + 6) (l' := [zQ 5 6]) (fs' := [am_r (some 63), am_r none, am_r none, am_r none, am_r none, am_r none, am_r none, am_i 0, am_i 0, am_i 0, am_i 0]) hg (by decide) (by decide) (fun _ _ => m_aload_n rfl rfl rfl rfl) (fun _ _ => m_bipush rfl rfl rfl) (fun _ _ => (x_ana (q := 10) (z := ((6 : Nat) : Int)) rfl rfl rfl ⟨by decide, by decide⟩).trans rfl) (fun _ _ _ _ _ h => x_pfr rfl rfl rfl h) rfl rfl rfl).trans ?_
  refine (y_nap (p1 := 14) (p2 := 16) (p3 := 18) (p4 := 21) (k := 1) (z := 6) (e := zI 6) (u' := u + 12) (l' := [zQ 5 6, zI 6]) (fs' := [am_r (some 63), am_r (some 64), am_r none, am_r none, am_r none, am_r none, am_r none, am_i 0, am_i 0, am_i 0, am_i 0]) hg (by decide) (by decide) (fun _ _ => m_aload_n rfl rfl rfl rfl) (fun _ _ => m_bipush rfl rfl rfl) (fun _ _ => (x_na (q := 18) (z := ((6 : Nat) : Int)) rfl rfl rfl ⟨by decide, by decide⟩).trans rfl) (fun _ _ _ _ _ h => x_pfr rfl rfl rfl h) rfl rfl rfl).trans ?_
  refine (y_nap (p1 := 22) (p2 := 24) (p3 := 27) (p4 := 30) (k := 2) (z := 6) (e := zQ 9 6) (u' := u + 18) (l' := [zQ 5 6, zI 6, zQ 9 6]) (fs' := [am_r (some 63), am_r (some 64), am_r (some 65), am_r none, am_r none, am_r none, am_r none, am_i 0, am_i 0, am_i 0, am_i 0]) hg (by decide) (by decide) (fun _ _ => m_aload_n rfl rfl rfl rfl) (fun _ _ => m_bipush rfl rfl rfl) (fun _ _ => (x_ana (q := 27) (z := ((6 : Nat) : Int)) rfl rfl rfl ⟨by decide, by decide⟩).trans rfl) (fun _ _ _ _ _ h => x_pfr rfl rfl rfl h) rfl rfl rfl).trans ?_
  refine (y_nap (p1 := 31) (p2 := 33) (p3 := 35) (p4 := 38) (k := 3) (z := 6) (e := zI 6) (u' := u + 24) (l' := [zQ 5 6, zI 6, zQ 9 6, zI 6]) (fs' := [am_r (some 63), am_r (some 64), am_r (some 65), am_r (some 66), am_r none, am_r none, am_r none, am_i 0, am_i 0, am_i 0, am_i 0]) hg (by decide) (by decide) (fun _ _ => m_aload_n rfl rfl rfl rfl) (fun _ _ => m_bipush rfl rfl rfl) (fun _ _ => (x_na (q := 35) (z := ((6 : Nat) : Int)) rfl rfl rfl ⟨by decide, by decide⟩).trans rfl) (fun _ _ _ _ _ h => x_pfr rfl rfl rfl h) rfl rfl rfl).trans ?_
  refine (y_nap (p1 := 39) (p2 := 41) (p3 := 43) (p4 := 46) (k := 4) (z := 36) (e := zI 36) (u' := u + 60) (l' := [zQ 5 6, zI 6, zQ 9 6, zI 6, zI 36]) (fs' := [am_r (some 63), am_r (some 64), am_r (some 65), am_r (some 66), am_r (some 67), am_r none, am_r none, am_i 0, am_i 0, am_i 0, am_i 0]) hg (by decide) (by decide) (fun _ _ => m_aload_n rfl rfl rfl rfl) (fun _ _ => m_bipush rfl rfl rfl) (fun _ _ => (x_na (q := 43) (z := ((36 : Nat) : Int)) rfl rfl rfl ⟨by decide, by decide⟩).trans rfl) (fun _ _ _ _ _ h => x_pfr rfl rfl rfl h) rfl rfl rfl).trans ?_
  refine (y_nap (p1 := 47) (p2 := 50) (p3 := 52) (p4 := 55) (k := 5) (z := 448) (e := zI 448) (u' := u + 508) (l' := [zQ 5 6, zI 6, zQ 9 6, zI 6, zI 36, zI 448]) (fs' := [am_r (some 63), am_r (some 64), am_r (some 65), am_r (some 66), am_r (some 67), am_r (some 68), am_r none, am_i 0, am_i 0, am_i 0, am_i 0]) hg (by decide) (by decide) (fun _ _ => m_aload_n rfl rfl rfl rfl) (fun _ _ => m_sipush rfl rfl rfl) (fun _ _ => (x_na (q := 52) (z := ((448 : Nat) : Int)) rfl rfl rfl ⟨by decide, by decide⟩).trans rfl) (fun _ _ _ _ _ h => x_pfr rfl rfl rfl h) rfl rfl rfl).trans ?_
  refine (y_nap (p1 := 56) (p2 := 58) (p3 := 60) (p4 := 63) (k := 6) (z := 6) (e := zI 6) (u' := u + 514) (l' := [zQ 5 6, zI 6, zQ 9 6, zI 6, zI 36, zI 448, zI 6]) (fs' := [am_r (some 63), am_r (some 64), am_r (some 65), am_r (some 66), am_r (some 67), am_r (some 68), am_r (some 69), am_i 0, am_i 0, am_i 0, am_i 0]) hg (by decide) (by decide) (fun _ _ => m_aload_n rfl rfl rfl rfl) (fun _ _ => m_bipush rfl rfl rfl) (fun _ _ => (x_na (q := 60) (z := ((6 : Nat) : Int)) rfl rfl rfl ⟨by decide, by decide⟩).trans rfl) (fun _ _ _ _ _ h => x_pfr rfl rfl rfl h) rfl rfl rfl).trans ?_
  exact m_retv rfl rfl
abbrev P_i234 : Nat → Option am_E := am_fy tb_J7_fill_53178
theorem x_iast {a : Nat} {i : Int} {v : Int32} {st : List am_V} {s' : am_S} {ks : List Nat} {ln q : Nat} {x : am_X} (h : P pc = some (ks, .iastore, ln, x)) (hk : am_kill ks lo = lo) (hq : pc + 1 = q) (e : am_ias s (some a) 0 (wz i) v = some s') : mr d P pc lo (am_i v :: am_i (wz i) :: am_r (some a) :: st) s = mr d P q lo st s' := by
  subst hq
  rw [mx h hk]
  show (am_ias s (some a) 0 (wz i) v).bind _ = _
  rw [e]; rfl
def flc (n j : Nat) (v : Int32) (f : Nat → Int32) : am_Ce := .inr (.inl (0, n, fun q => if q < j then v else f q))
theorem fl_loop {a N : Nat} {v : Int32} {f : Nat → Int32} {h : List am_Ce} (ha : a < h.length) (h32 : 32 ≤ a) (hN : N ≤ 1000) : ∀ r j : Nat, j + r = N → mr d P_i234 5 [some (am_r (some a)), some (am_i v), some (am_i (wz (j : Int))), some (am_i (wz (N : Int)))] [] (h.set a (flc N j v f), u) = some (none, (h.set a (flc N N v f), u)) := by
  intro r
  induction r with
  | zero =>
    intro j hj
    have ej : j = N := by omega
    subst ej
    refine (m_iload_n (q := 6) rfl rfl rfl rfl).trans ?_
    refine (m_iload_n (q := 7) rfl rfl rfl rfl).trans ?_
    refine ((m_cmpge (qt := 20) (qf := 10) rfl rfl (rgb (by omega) (by omega)) (rgb (by omega) (by omega)) rfl rfl).trans (if_pos (Int.le_refl _))).trans ?_
    exact m_retv rfl rfl
  | succ r ih =>
    intro j hj
    refine (m_iload_n (q := 6) rfl rfl rfl rfl).trans ?_
    refine (m_iload_n (q := 7) rfl rfl rfl rfl).trans ?_
    refine ((m_cmpge (qt := 20) (qf := 10) rfl rfl (rgb (by omega) (by omega)) (rgb (by omega) (by omega)) rfl rfl).trans (if_neg (by omega))).trans ?_
    refine (m_aload_n (q := 11) rfl rfl rfl rfl).trans ?_
    refine (m_iload_n (q := 12) rfl rfl rfl rfl).trans ?_
    refine (m_iload_n (q := 13) rfl rfl rfl rfl).trans ?_
    have e : am_ias (h.set a (flc N j v f), u) (some a) 0 (wz (j : Int)) v = some (h.set a (flc N (j + 1) v f), u) := by
      rw [ias_of (s := (h.set a (flc N j v f), u)) (m := N) (f := fun q => if q < j then v else f q) (List.getElem?_set_self ha) h32 (by omega) (by omega) (by omega)]
      have ef : upd (fun q => if q < j then v else f q) ((j : Int)).toNat (am_nar 0 v) = fun q => if q < j + 1 then v else f q := by
        funext q
        unfold upd
        rw [Int.toNat_natCast]
        show (if q = j then v else if q < j then v else f q) = _
        by_cases q1 : q = j
        · rw [if_pos q1, if_pos (by omega)]
        · rw [if_neg q1]
          by_cases q2 : q < j
          · rw [if_pos q2, if_pos (by omega)]
          · rw [if_neg q2, if_neg (by omega)]
      rw [ef]
      show some ((h.set a _).set a _, u) = _
      rw [List.set_set]; rfl
    refine (x_iast (q := 14) rfl rfl rfl e).trans ?_
    refine (m_iinc (a := (j : Int)) (z := 1) (w := ((j + 1 : Nat) : Int)) (q := 17) (lo' := [some (am_r (some a)), some (am_i v), some (am_i (wz ((j + 1 : Nat) : Int))), some (am_i (wz (N : Int)))]) rfl rfl rfl rfl (by rw [wr_id (by omega) (by omega)]; omega) rfl rfl).trans ?_
    refine (m_goto (q := 5) rfl rfl rfl).trans ?_
    exact ih (j + 1) (by omega)
theorem rw_fill {a N : Nat} {v : Int32} {f : Nat → Int32} (hl : s.1[a]? = some (.inr (.inl (0, N, f)))) (h32 : 32 ≤ a) (hN : N ≤ 1000) : dn (d + 1) 234 [am_r (some a), am_i v] s = some (none, (s.1.set a (flc N N v f), s.2)) := by
  have ha := (List.getElem?_eq_some_iff.mp hl).1
  rw [dn_s (P := P_i234) (n := 4) (lo := [some (am_r (some a)), some (am_i v), none, none]) rfl rfl rfl]
  refine (m_iconst (q := 1) rfl rfl rfl).trans ?_
  refine (m_istore_n (q := 2) (lo' := [some (am_r (some a)), some (am_i v), some (am_i (wz 0)), none]) rfl rfl rfl rfl rfl).trans ?_
  refine (m_aload_n (q := 3) rfl rfl rfl rfl).trans ?_
  refine (x_len (q := 4) rfl rfl rfl (len_of hl) rfl).trans ?_
  refine (m_istore_n (q := 5) (lo' := [some (am_r (some a)), some (am_i v), some (am_i (wz 0)), some (am_i (wz (N : Int)))]) rfl rfl rfl rfl rfl).trans ?_
  have e0 : s = (s.1.set a (flc N 0 v f), s.2) := by
    have : flc N 0 v f = .inr (.inl (0, N, f)) := by unfold flc; simp
    rw [this, set_id hl]
  have := fl_loop (d := d) (u := s.2) (v := v) (f := f) ha h32 hN N 0 (by omega)
  rw [← e0] at this
  exact this
end Ctr
