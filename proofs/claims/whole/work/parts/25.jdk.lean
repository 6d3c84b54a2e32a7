/-! The JDK's own: a list's size and get, fill, texts; the two rows of things. -/
section Jd
variable {n : Nat} {A : aA} {D : aD} {d : Nat} {P : Nat → Option am_E} {pc q : Nat} {lo : am_L} {st : List am_V} {s : am_S} {ks : List Nat} {ln : Nat}
abbrev P_size : Nat → Option am_E := am_fy tb_Jx4a65c_size_8abf5
theorem ev_size (l : Int) (f : D 900 l = 1) : Ev n 1 229 [am_r (some (A 0 l))] A D (ri (D 1002 l)) A D := by
  refine Ev_of (c := 0) (P := P_size) (lo := [some (am_r (some (A 0 l)))]) rfl rfl rfl (fun d hd s hr => ?_)
  refine ok (m_aload_n (q := 1) rfl rfl rfl rfl) ?_
  refine ok (m_gft (t := 0) (q := 4) rfl rfl rfl hr rfl f rfl rfl rfl) ?_
  exact ok (m_reti rfl rfl) (ok_i hr (Rp_rg hr 1002 l))
abbrev P_ck3 : Nat → Option am_E := am_fy tb_J3_checkIndex_8e157
theorem ev_ck3 (i m : Int) (y : Option Nat) (hi : rg i) (hm : rg m) (h : 0 ≤ i ∧ i < m) : Ev n 1 240 [am_i (wz i), am_i (wz m), am_r y] A D (ri i) A D := by
  refine Ev_of (c := 0) (P := P_ck3) (lo := [some (am_i (wz i)), some (am_i (wz m)), some (am_r y)]) rfl rfl rfl (fun d hd s hr => ?_)
  refine ok (m_iload_n (q := 1) rfl rfl rfl rfl) ?_
  refine ok ((m_iflt (qt := 9) (qf := 4) rfl rfl hi rfl rfl).trans (if_neg (by omega))) ?_
  refine ok (m_iload_n (q := 5) rfl rfl rfl rfl) ?_
  refine ok (m_iload_n (q := 6) rfl rfl rfl rfl) ?_
  refine ok ((m_cmplt (qt := 16) (qf := 9) rfl rfl hi hm rfl rfl).trans (if_pos h.2)) ?_
  refine ok (m_iload_n (q := 17) rfl rfl rfl rfl) ?_
  exact ok (m_reti rfl rfl) (ok_i hr hi)
abbrev P_ck15 : Nat → Option am_E := am_fy tb_J15_checkIndex_7cf53
theorem ev_ck15 (i m : Int) (hi : rg i) (hm : rg m) (h : 0 ≤ i ∧ i < m) : Ev n 2 238 [am_i (wz i), am_i (wz m)] A D (ri i) A D := by
  refine Ev_of (c := 1) (P := P_ck15) (lo := [some (am_i (wz i)), some (am_i (wz m))]) rfl rfl rfl (fun d hd s hr => ?_)
  refine ok (m_iload_n (q := 1) rfl rfl rfl rfl) ?_
  refine ok (m_iload_n (q := 2) rfl rfl rfl rfl) ?_
  refine ok (m_aconst_null (q := 3) rfl rfl rfl) ?_
  refine oke (e_ci (x_cs (q := 6) rfl rfl rfl rfl rfl rfl rfl rfl rfl) (ev_ck3 i m none hi hm h) (Nat.le_trans (by decide) hd) hr) (fun s1 r1 => ?_)
  exact ok (m_reti rfl rfl) (ok_i r1 hi)
theorem x_aal {i : Int} {r v : Option Nat} {x : am_X} (h : P pc = some (ks, .aaload, ln, x)) (hk : am_kill ks lo = lo) (hq : pc + 1 = q) (hv : am_ral s.1 r (wz i) = some v) : mr d P pc lo (am_i (wz i) :: am_r r :: st) s = mr d P q lo (am_r v :: st) s := by
  subst hq; rw [mx h hk]
  show (am_ral s.1 r (wz i)).bind _ = _
  rw [hv]; rfl
theorem Rp_lst {l i : Int} (hr : Rp n A D s) (f : D 900 l = 1) (g : 0 ≤ i ∧ i < D 1002 l) : am_ral s.1 (some (A 1 l)) (wz i) = some (some (A (ety l) (ebs l + i))) := by
  have hc := (Rp_cl hr).1 l f
  have h1 : D 901 l = 1 ∧ D 1002 l ≤ D 1100 l ∧ D 1100 l ≤ 65536 := by
    rcases hc.2.2 with q | q
    · exact q
    · omega
  have q := (Rp_ty hr (t := 1) (i := l) (by decide) rfl h1.1).1
  have e : mkT A D 1 l = .inr (.inr (0, (D 1100 l).toNat, fun k => if (k : Int) < D 1002 l then some (A (ety l) (ebs l + k)) else none)) := rfl
  rw [e] at q
  rw [ral_of q g.1 (by omega) (by omega)]
  show some (if ((i.toNat : Nat) : Int) < D 1002 l then some (A (ety l) (ebs l + ((i.toNat : Nat) : Int))) else none) = _
  rw [Int.toNat_of_nonneg g.1, if_pos g.2]
abbrev P_eld : Nat → Option am_E := am_fy tb_Jx4a65c_elementData_915e3
theorem ev_eld (l i : Int) (f : D 900 l = 1) (g : 0 ≤ i ∧ i < D 1002 l) : Ev n 1 230 [am_r (some (A 0 l)), am_i (wz i)] A D (rr (some (A (ety l) (ebs l + i)))) A D := by
  refine Ev_of (c := 0) (P := P_eld) (lo := [some (am_r (some (A 0 l))), some (am_i (wz i))]) rfl rfl rfl (fun d hd s hr => ?_)
  refine ok (m_aload_n (q := 1) rfl rfl rfl rfl) ?_
  refine ok (m_gfx (t := 0) (q := 4) (r := some (A 1 l)) rfl rfl rfl hr rfl f rfl rfl rfl) ?_
  refine ok (m_iload_n (q := 5) rfl rfl rfl rfl) ?_
  refine ok (x_aal (q := 6) rfl rfl rfl (Rp_lst hr f g)) ?_
  exact ok (m_retr rfl rfl) (ok_r hr)
abbrev P_get : Nat → Option am_E := am_fy tb_Jx4a65c_get_915e3
theorem ev_getg (l i : Int) (f : D 900 l = 1) (g : 0 ≤ i ∧ i < D 1002 l) : Ev n 3 231 [am_r (some (A 0 l)), am_i (wz i)] A D (rr (some (A (ety l) (ebs l + i)))) A D := by
  refine Ev_of (c := 2) (P := P_get) (lo := [some (am_r (some (A 0 l))), some (am_i (wz i))]) rfl rfl rfl (fun d hd s hr => ?_)
  have hc := (Rp_cl hr).1 l f
  have hi : rg i := ⟨by omega, by omega⟩
  refine ok (m_iload_n (q := 1) rfl rfl rfl rfl) ?_
  refine ok (m_aload_n (q := 2) rfl rfl rfl rfl) ?_
  refine ok (m_gft (t := 0) (q := 5) rfl rfl rfl hr rfl f rfl rfl rfl) ?_
  refine oke (e_ci (x_cs (q := 8) rfl rfl rfl rfl rfl rfl rfl rfl rfl) (ev_ck15 i (D 1002 l) hi (Rp_rg hr 1002 l) g) (Nat.le_trans (by decide) hd) hr) (fun s1 r1 => ?_)
  refine ok (m_popi (q := 9) rfl rfl rfl) ?_
  refine ok (m_aload_n (q := 10) rfl rfl rfl rfl) ?_
  refine ok (m_iload_n (q := 11) rfl rfl rfl rfl) ?_
  refine oke (e_cr (x_cv (q := 14) rfl rfl rfl rfl rfl rfl rfl rfl rfl rfl (is_ty r1 rfl f)) (ev_eld l i f g) (Nat.le_trans (by decide) hd) r1) (fun s2 r2 => ?_)
  exact ok (m_retr rfl rfl) (ok_r r2)
theorem ev_get0 (i : Int) (g : 0 ≤ i ∧ i < D 1002 0) : Ev n 3 231 [am_r (some (A 0 0)), am_i (wz i)] A D (rr (some (A 10 i))) A D := by
  intro d hd s hr
  have h := ev_getg (n := n) (A := A) (D := D) 0 i (Rp_fx0_0 hr) g d hd s hr
  have e : ebs 0 + i = i := by unfold ebs; rw [if_pos (by decide)]; omega
  rw [e] at h; exact h
theorem ev_get1 (i : Int) (g : 0 ≤ i ∧ i < D 1002 1) : Ev n 3 231 [am_r (some (A 0 1)), am_i (wz i)] A D (rr (some (A 11 i))) A D := by
  intro d hd s hr
  have h := ev_getg (n := n) (A := A) (D := D) 1 i (Rp_fx0_1 hr) g d hd s hr
  have e : ebs 1 + i = i := by unfold ebs; rw [if_pos (by decide)]; omega
  rw [e] at h; exact h
theorem ev_get2 (i : Int) (g : 0 ≤ i ∧ i < D 1002 2) : Ev n 3 231 [am_r (some (A 0 2)), am_i (wz i)] A D (rr (some (A 12 i))) A D := by
  intro d hd s hr
  have h := ev_getg (n := n) (A := A) (D := D) 2 i (Rp_fx0_2 hr) g d hd s hr
  have e : ebs 2 + i = i := by unfold ebs; rw [if_pos (by decide)]; omega
  rw [e] at h; exact h
theorem ev_get3 (i : Int) (g : 0 ≤ i ∧ i < D 1002 3) : Ev n 3 231 [am_r (some (A 0 3)), am_i (wz i)] A D (rr (some (A 13 i))) A D := by
  intro d hd s hr
  have h := ev_getg (n := n) (A := A) (D := D) 3 i (Rp_fx0_3 hr) g d hd s hr
  have e : ebs 3 + i = i := by unfold ebs; rw [if_pos (by decide)]; omega
  rw [e] at h; exact h
theorem ev_get4 (i : Int) (g : 0 ≤ i ∧ i < D 1002 4) : Ev n 3 231 [am_r (some (A 0 4)), am_i (wz i)] A D (rr (some (A 14 i))) A D := by
  intro d hd s hr
  have h := ev_getg (n := n) (A := A) (D := D) 4 i (Rp_fx0_4 hr) g d hd s hr
  have e : ebs 4 + i = i := by unfold ebs; rw [if_pos (by decide)]; omega
  rw [e] at h; exact h
theorem ev_get5 (i : Int) (g : 0 ≤ i ∧ i < D 1002 5) : Ev n 3 231 [am_r (some (A 0 5)), am_i (wz i)] A D (rr (some (A 15 i))) A D := by
  intro d hd s hr
  have h := ev_getg (n := n) (A := A) (D := D) 5 i (Rp_fx0_5 hr) g d hd s hr
  have e : ebs 5 + i = i := by unfold ebs; rw [if_pos (by decide)]; omega
  rw [e] at h; exact h
theorem ev_getb (b i : Int) (hb : 0 ≤ b) (f : D 900 (8 + b) = 1) (g : 0 ≤ i ∧ i < D 1002 (8 + b)) : Ev n 3 231 [am_r (some (A 0 (8 + b))), am_i (wz i)] A D (rr (some (A 16 (64 * b + i)))) A D := by
  intro d hd s hr
  have h := ev_getg (n := n) (A := A) (D := D) (8 + b) i f g d hd s hr
  rw [(ebs_b b i hb).1, (ebs_b b i hb).2] at h; exact h
theorem Rp_elb {b i : Int} (h : Rp n A D s) (hb : 0 ≤ b) (f : D 900 (8 + b) = 1) (g : 0 ≤ i ∧ i < D 1002 (8 + b)) : D 916 (64 * b + i) = 1 := by
  have := (Rp_cl h).2.1 (8 + b) i f g.1 g.2
  rw [(ebs_b b i hb).1, (ebs_b b i hb).2] at this; exact this
/-- fill -/
def fil (D : aD) (a : Nat) (m : Nat) (v : Int) : aD := fun c i => if c = a ∧ 0 ≤ i ∧ i < (m : Int) then v else D c i
theorem fil_c {D : aD} {a m c : Nat} {v : Int} (h : c ≠ a) : fil D a m v c = D c := by funext i; exact if_neg (fun e => h e.1)
theorem fil_in {D : aD} {a m : Nat} {v i : Int} (h0 : 0 ≤ i) (h1 : i < (m : Int)) : fil D a m v a i = v := if_pos ⟨rfl, h0, h1⟩
abbrev P_fill : Nat → Option am_E := am_fy tb_J7_fill_53178
def K_fill (n : Nat) (A : aA) (D : aD) (a m : Nat) (v i : Int) (D' : aD) : Prop := Lp n 0 P_fill 5 [some (am_r (some a)), some (am_i (wz v)), some (am_i (wz i)), some (am_i (wz (m : Int)))] [] A D rv A D'
theorem K_fill_all {a m : Nat} {v : Int} (hs : shp a = some (.inr (0, m))) (hv : Nat.ble (lev a) n = true) (hg : rg v) : ∀ (k : Nat) (D0 : aD) (i : Int), 0 ≤ i → i + k = m → K_fill n A (fun c j => if c = a ∧ 0 ≤ j ∧ j < i then v else D0 c j) a m v i (fil D0 a m v) := by
  have hm := shp_n hs
  have hmr : rg (m : Int) := ⟨by omega, by omega⟩
  intro k
  induction k with
  | zero =>
    intro D0 i h0 hi d hd s hr
    have e : i = (m : Int) := by omega
    subst e
    refine ok (m_iload_n (q := 6) rfl rfl rfl rfl) ?_
    refine ok (m_iload_n (q := 7) rfl rfl rfl rfl) ?_
    refine ok ((m_cmpge (qt := 20) (qf := 10) rfl rfl hmr hmr rfl rfl).trans (if_pos (Int.le_refl _))) ?_
    exact ok (m_retv rfl rfl) (ok_v hr)
  | succ k ih =>
    intro D0 i h0 hi d hd s hr
    have hir : rg i := ⟨by omega, by omega⟩
    refine ok (m_iload_n (q := 6) rfl rfl rfl rfl) ?_
    refine ok (m_iload_n (q := 7) rfl rfl rfl rfl) ?_
    refine ok ((m_cmpge (qt := 20) (qf := 10) rfl rfl hir hmr rfl rfl).trans (if_neg (by omega))) ?_
    refine ok (m_aload_n (q := 11) rfl rfl rfl rfl) ?_
    refine ok (m_iload_n (q := 12) rfl rfl rfl rfl) ?_
    refine ok (m_iload_n (q := 13) rfl rfl rfl rfl) ?_
    refine oke (e_ias (q := 14) rfl rfl rfl hr hs hv ⟨h0, by omega⟩ hg) (fun s1 r1 => ?_)
    refine ok (m_iinc (q := 17) (lo' := [some (am_r (some a)), some (am_i (wz v)), some (am_i (wz (wr (i + 1)))), some (am_i (wz (m : Int)))]) rfl rfl rfl rfl rfl rfl rfl) ?_
    refine ok (m_goto (q := 5) rfl rfl rfl) ?_
    have e1 : wr (i + 1) = i + 1 := wr_id (by omega) (by omega)
    rw [e1]
    have e2 : up (fun c j => if c = a ∧ 0 ≤ j ∧ j < i then v else D0 c j) a i v = (fun c j => if c = a ∧ 0 ≤ j ∧ j < i + 1 then v else D0 c j) := by
      funext c j
      show (if c = a ∧ j = i then v else if c = a ∧ 0 ≤ j ∧ j < i then v else D0 c j) = if c = a ∧ 0 ≤ j ∧ j < i + 1 then v else D0 c j
      by_cases hc : c = a
      · by_cases hj : j = i
        · rw [if_pos ⟨hc, hj⟩, if_pos ⟨hc, by omega, by omega⟩]
        · rw [if_neg (fun e => hj e.2)]
          by_cases hz : 0 ≤ j ∧ j < i
          · rw [if_pos ⟨hc, hz.1, hz.2⟩, if_pos ⟨hc, by omega, by omega⟩]
          · rw [if_neg (fun e => hz e.2), if_neg (fun e => hz ⟨e.2.1, by omega⟩)]
      · rw [if_neg (fun e => hc e.1), if_neg (fun e => hc e.1), if_neg (fun e => hc e.1)]
    rw [e2] at r1
    exact ih D0 (i + 1) (by omega) (by omega) d hd s1 r1
theorem ev_fill (a : Nat) (v : Int) {m : Nat} (hs : shp a = some (.inr (0, m))) (hv : Nat.ble (lev a) n = true) (hg : rg v) : Ev n 1 234 [am_r (some a), am_i (wz v)] A D rv A (fil D a m v) := by
  refine Ev_of (c := 0) (P := P_fill) (lo := [some (am_r (some a)), some (am_i (wz v)), none, none]) rfl rfl rfl (fun d hd s hr => ?_)
  refine ok (m_iconst (q := 1) rfl rfl rfl) ?_
  refine ok (m_istore_n (q := 2) (lo' := [some (am_r (some a)), some (am_i (wz v)), some (am_i (wz 0)), none]) rfl rfl rfl rfl rfl) ?_
  refine ok (m_aload_n (q := 3) rfl rfl rfl rfl) ?_
  refine ok (m_lens (z := (m : Int)) (q := 4) rfl rfl rfl hr hs hv rfl) ?_
  refine ok (m_istore_n (q := 5) (lo' := [some (am_r (some a)), some (am_i (wz v)), some (am_i (wz 0)), some (am_i (wz (m : Int)))]) rfl rfl rfl rfl rfl) ?_
  have e : D = (fun c j => if c = a ∧ 0 ≤ j ∧ j < 0 then v else D c j) := by
    funext c j; rw [if_neg (fun e => by omega)]
  have h := K_fill_all (n := n) (A := A) hs hv hg m D 0 (Int.le_refl _) (by omega)
  rw [← e] at h
  exact h d hd s hr
/-- texts -/
theorem odl_c {k : Nat} (h : k < 12) : odl[4 + k]? = some (odc k) := by
  rcases (by omega : k = 0 ∨ k = 1 ∨ k = 2 ∨ k = 3 ∨ k = 4 ∨ k = 5 ∨ k = 6 ∨ k = 7 ∨ k = 8 ∨ k = 9 ∨ k = 10 ∨ k = 11) with rfl | rfl | rfl | rfl | rfl | rfl | rfl | rfl | rfl | rfl | rfl | rfl <;> rfl
theorem odl_b {k : Nat} (h : k < 12) : odl[16 + k]? = some (odb k) := by
  rcases (by omega : k = 0 ∨ k = 1 ∨ k = 2 ∨ k = 3 ∨ k = 4 ∨ k = 5 ∨ k = 6 ∨ k = 7 ∨ k = 8 ∨ k = 9 ∨ k = 10 ∨ k = 11) with rfl | rfl | rfl | rfl | rfl | rfl | rfl | rfl | rfl | rfl | rfl | rfl <;> rfl
theorem Rp_od {a : Nat} {c : am_Ce} (hr : Rp n A D s) (h1 : 1 ≤ a) (h : odl[a]? = some c) : s.1[a]? = some c := by
  obtain ⟨-, F, hr⟩ := hr
  exact hr.1.2 a c h1 h
theorem Rp_sc {k : Nat} (hr : Rp n A D s) (h : k < 12) : s.1[4 + k]? = some (.inl (50, [am_r (some (16 + k)), am_i 0])) := Rp_od hr (by omega) (odl_c h)
theorem Rp_sb {k : Nat} (hr : Rp n A D s) (h : k < 12) : s.1[16 + k]? = some (.inr (.inl (1, (sts.getD k []).length, fun j => wz (stc k j)))) := Rp_od hr (by omega) (odl_b h)
theorem is_sr {k : Nat} (hr : Rp n A D s) (h : k < 12) : am_is s.1 (some (4 + k)) 50 = true := is_of (Rp_sc hr h)
abbrev P_cod : Nat → Option am_E := am_fy tb_J0_coder_7d493
theorem ev_cod {k : Nat} (h : k < 12) : Ev n 1 217 [am_r (some (4 + k))] A D (ri 0) A D := by
  refine Ev_of (c := 0) (P := P_cod) (lo := [some (am_r (some (4 + k)))]) rfl rfl rfl (fun d hd s hr => ?_)
  refine ok (m_getstai (q := 3) rfl rfl rfl) ?_
  refine ok ((m_ifeq (qt := 13) (qf := 6) rfl rfl ⟨by decide, by decide⟩ rfl rfl).trans (if_neg (by decide))) ?_
  refine ok (m_aload_n (q := 7) rfl rfl rfl rfl) ?_
  refine ok (x_gfi (q := 10) (v := wz 0) rfl rfl rfl (gi_of (Rp_sc hr h) rfl)) ?_
  refine ok (m_goto (q := 14) rfl rfl rfl) ?_
  have e : mr d P_cod 14 [some (am_r (some (4 + k)))] [am_i (wz 0)] s = some (some (am_i (wz 0)), s) := by
    rw [mx rfl rfl]; rfl
  exact ok e (ok_i hr rg0)
abbrev P_lat : Nat → Option am_E := am_fy tb_J0_isLatin1_aae02
theorem ev_lat {k : Nat} (h : k < 12) : Ev n 1 218 [am_r (some (4 + k))] A D (ri 1) A D := by
  refine Ev_of (c := 0) (P := P_lat) (lo := [some (am_r (some (4 + k)))]) rfl rfl rfl (fun d hd s hr => ?_)
  refine ok (m_getstai (q := 3) rfl rfl rfl) ?_
  refine ok ((m_ifeq (qt := 17) (qf := 6) rfl rfl ⟨by decide, by decide⟩ rfl rfl).trans (if_neg (by decide))) ?_
  refine ok (m_aload_n (q := 7) rfl rfl rfl rfl) ?_
  refine ok (x_gfi (q := 10) (v := wz 0) rfl rfl rfl (gi_of (Rp_sc hr h) rfl)) ?_
  refine ok ((m_ifne (qt := 17) (qf := 13) rfl rfl rg0 rfl rfl).trans (if_pos rfl)) ?_
  refine ok (m_iconst (q := 14) rfl rfl rfl) ?_
  refine ok (m_goto (q := 18) rfl rfl rfl) ?_
  exact ok (m_retb rfl rfl ⟨by decide, by decide⟩) (ok_i hr ⟨by decide, by decide⟩)
theorem stn_rg (k : Nat) : rg (stn k) ∧ 0 ≤ stn k ∧ stn k ≤ 44 := by
  have h : ∀ k, (sts.getD k []).length ≤ 44 := by
    intro k
    by_cases hk : k < 12
    · rcases (by omega : k = 0 ∨ k = 1 ∨ k = 2 ∨ k = 3 ∨ k = 4 ∨ k = 5 ∨ k = 6 ∨ k = 7 ∨ k = 8 ∨ k = 9 ∨ k = 10 ∨ k = 11) with rfl | rfl | rfl | rfl | rfl | rfl | rfl | rfl | rfl | rfl | rfl | rfl <;> decide
    · rw [show sts.getD k [] = [] from by
        rw [List.getD_eq_getElem?_getD, List.getElem?_eq_none (by show sts.length ≤ k; have : sts.length = 12 := rfl; omega)]; rfl]
      exact Nat.zero_le _
  have := h k
  unfold stn rg
  omega
set_option maxRecDepth 100000 in
theorem shr0 : ∀ m : Fin 64, o_shr (m.val : Int) 0 = (m.val : Int) := by decide
abbrev P_slen : Nat → Option am_E := am_fy tb_J0_length_8abf5
def w_J0_length (_ : aD) (k : Nat) : Int := stn k
theorem ev_J0_length (k : Nat) (h : k < 12) : Ev n 2 213 [am_r (some (4 + k))] A D (ri (w_J0_length D k)) A D := by
  refine Ev_of (c := 1) (P := P_slen) (lo := [some (am_r (some (4 + k)))]) rfl rfl rfl (fun d hd s hr => ?_)
  refine ok (m_aload_n (q := 1) rfl rfl rfl rfl) ?_
  refine ok (x_gfr (q := 4) (v := some (16 + k)) rfl rfl rfl (gr_of (Rp_sc hr h) rfl)) ?_
  refine ok (x_len (q := 5) (z := stn k) rfl rfl rfl (len_of (Rp_sb hr h)) rfl) ?_
  refine ok (m_aload_n (q := 6) rfl rfl rfl rfl) ?_
  refine oke (e_ci (x_cv (q := 9) rfl rfl rfl rfl rfl rfl rfl rfl rfl rfl (is_sr hr h)) (ev_cod h) (Nat.le_trans (by decide) hd) hr) (fun s1 r1 => ?_)
  refine ok (m_ishr (q := 10) rfl rfl rfl) ?_
  have e : o_shr (stn k) 0 = stn k := by
    have h2 := stn_rg k
    have := shr0 ⟨(stn k).toNat, by omega⟩
    simp only at this
    rwa [Int.toNat_of_nonneg h2.2.1] at this
  rw [e]
  exact ok (m_reti rfl rfl) (ok_i r1 (stn_rg k).1)
theorem stc_b (k : Nat) (i : Int) : 0 ≤ stc k i ∧ stc k i ≤ 127 := by
  have h : ∀ l ∈ sts, ∀ x ∈ l, (0 : Int) ≤ x ∧ x ≤ 127 := by decide
  unfold stc
  rw [List.getD_eq_getElem?_getD]
  cases hx : (sts.getD k [])[i.toNat]? with
  | none => exact ⟨by decide, by decide⟩
  | some x =>
    have hm := List.mem_of_getElem? hx
    rw [List.getD_eq_getElem?_getD] at hm
    cases hl : sts[k]? with
    | none => rw [hl] at hm; cases hm
    | some l => rw [hl] at hm; exact h l (List.mem_of_getElem? hl) x hm
theorem stc_r (k : Nat) (i : Int) : rg (stc k i) := by have := stc_b k i; unfold rg; omega
abbrev P_ck0 : Nat → Option am_E := am_fy tb_J0_checkIndex_df160
theorem ev_ck0 (i m : Int) (hi : rg i) (hm : rg m) (h : 0 ≤ i ∧ i < m) : Ev n 2 219 [am_i (wz i), am_i (wz m)] A D rv A D := by
  refine Ev_of (c := 1) (P := P_ck0) (lo := [some (am_i (wz i)), some (am_i (wz m))]) rfl rfl rfl (fun d hd s hr => ?_)
  refine ok (m_iload_n (q := 1) rfl rfl rfl rfl) ?_
  refine ok (m_iload_n (q := 2) rfl rfl rfl rfl) ?_
  refine ok (m_getstar (q := 5) rfl rfl rfl) ?_
  refine oke (e_ci (x_cs (q := 8) rfl rfl rfl rfl rfl rfl rfl rfl rfl) (ev_ck3 i m (some 3) hi hm h) (Nat.le_trans (by decide) hd) hr) (fun s1 r1 => ?_)
  refine ok (m_popi (q := 9) rfl rfl rfl) ?_
  exact ok (m_retv rfl rfl) (ok_v r1)
set_option maxRecDepth 100000 in
theorem i2c_b : ∀ m : Fin 128, o_i2c (o_and (m.val : Int) 255) = (m.val : Int) := by decide
set_option maxRecDepth 100000 in
theorem nar_c : ∀ m : Fin 128, am_nar 3 (wz (m.val : Int)) = wz (m.val : Int) := by decide
theorem m_retc {v : Int32} {y : Nat} {y3 : Int} (h : P pc = some (ks, .ireturn, ln, (3, y, y3))) (hk : am_kill ks lo = lo) (hv : am_nar 3 v = v) : mr d P pc lo [am_i v] s = some (some (am_i v), s) := by
  rw [mx h hk]
  exact if_pos hv
theorem stc_c (k : Nat) (i : Int) : o_i2c (o_and (stc k i) 255) = stc k i ∧ am_nar 3 (wz (stc k i)) = wz (stc k i) := by
  have hb := stc_b k i
  have h1 := i2c_b ⟨(stc k i).toNat, by omega⟩
  have h2 := nar_c ⟨(stc k i).toNat, by omega⟩
  simp only at h1 h2
  rw [Int.toNat_of_nonneg hb.1] at h1 h2
  exact ⟨h1, h2⟩
abbrev P_lch : Nat → Option am_E := am_fy tb_J1_charAt_3b067
theorem ev_lch (k : Nat) (i : Int) (h : k < 12) (g : 0 ≤ i ∧ i < stn k) : Ev n 3 220 [am_r (some (16 + k)), am_i (wz i)] A D (ri (stc k i)) A D := by
  have hn := stn_rg k
  have hi : rg i := ⟨by omega, by omega⟩
  refine Ev_of (c := 2) (P := P_lch) (lo := [some (am_r (some (16 + k))), some (am_i (wz i))]) rfl rfl rfl (fun d hd s hr => ?_)
  refine ok (m_iload_n (q := 1) rfl rfl rfl rfl) ?_
  refine ok (m_aload_n (q := 2) rfl rfl rfl rfl) ?_
  refine ok (x_len (q := 3) (z := stn k) rfl rfl rfl (len_of (Rp_sb hr h)) rfl) ?_
  refine oke (e_cvd (x_cs (q := 6) rfl rfl rfl rfl rfl rfl rfl rfl rfl) (ev_ck0 i (stn k) hi hn.1 g) (Nat.le_trans (by decide) hd) hr) (fun s1 r1 => ?_)
  refine ok (m_aload_n (q := 7) rfl rfl rfl rfl) ?_
  refine ok (m_iload_n (q := 8) rfl rfl rfl rfl) ?_
  have hv : am_ial s1.1 (some (16 + k)) 1 (wz i) = some (wz (stc k i)) := by
    rw [ial_of (Rp_sb r1 h) g.1 g.2 (by have := hn.2.2; unfold stn at this; omega)]
    show some (wz (stc k ((i.toNat : Nat) : Int))) = _
    rw [Int.toNat_of_nonneg g.1]
  refine ok (x_bal (q := 9) rfl rfl rfl hv) ?_
  refine ok (m_sipush (q := 12) rfl rfl rfl) ?_
  refine ok (m_iand (q := 13) rfl rfl rfl) ?_
  refine ok (m_i2c (q := 14) rfl rfl rfl) ?_
  rw [(stc_c k i).1]
  exact ok (m_retc rfl rfl (stc_c k i).2) (ok_i r1 (stc_r k i))
abbrev P_sch : Nat → Option am_E := am_fy tb_J0_charAt_5068e
def w_J0_charAt (_ : aD) (k : Nat) (i : Int) : Int := stc k i
def p_J0_charAt (_ : aD) (k : Nat) (i : Int) : Prop := 0 ≤ i ∧ i < stn k
theorem ev_J0_charAt (k : Nat) (i : Int) (h : k < 12) (_ : rg i) (g : p_J0_charAt D k i) : Ev n 4 214 [am_r (some (4 + k)), am_i (wz i)] A D (ri (w_J0_charAt D k i)) A D := by
  refine Ev_of (c := 3) (P := P_sch) (lo := [some (am_r (some (4 + k))), some (am_i (wz i))]) rfl rfl rfl (fun d hd s hr => ?_)
  refine ok (m_aload_n (q := 1) rfl rfl rfl rfl) ?_
  refine oke (e_ci (x_cv (q := 4) rfl rfl rfl rfl rfl rfl rfl rfl rfl rfl (is_sr hr h)) (ev_lat h) (Nat.le_trans (by decide) hd) hr) (fun s1 r1 => ?_)
  refine ok ((m_ifeq (qt := 16) (qf := 7) rfl rfl ⟨by decide, by decide⟩ rfl rfl).trans (if_neg (by decide))) ?_
  refine ok (m_aload_n (q := 8) rfl rfl rfl rfl) ?_
  refine ok (x_gfr (q := 11) (v := some (16 + k)) rfl rfl rfl (gr_of (Rp_sc r1 h) rfl)) ?_
  refine ok (m_iload_n (q := 12) rfl rfl rfl rfl) ?_
  refine oke (e_ci (x_cs (q := 15) rfl rfl rfl rfl rfl rfl rfl rfl rfl) (ev_lch k i h g) (Nat.le_trans (by decide) hd) r1) (fun s2 r2 => ?_)
  exact ok (m_retc rfl rfl (stc_c k i).2) (ok_i r2 (stc_r k i))
/-- "<>=".indexOf -/
def w_cmp (c : Int) : Int := if c = 60 then 0 else if c = 62 then 1 else if c = 61 then 2 else -1
theorem rg_cmp (c : Int) : rg (w_cmp c) := by unfold w_cmp rg; split <;> (try split) <;> (try split) <;> omega
set_option maxRecDepth 100000 in
theorem i2b_c : ∀ m : Fin 256, (o_i2b (m.val : Int) = 60 ↔ (m.val : Int) = 60) ∧ (o_i2b (m.val : Int) = 62 ↔ (m.val : Int) = 62) ∧ (o_i2b (m.val : Int) = 61 ↔ (m.val : Int) = 61) := by decide
abbrev P_ioc : Nat → Option am_E := am_fy tb_J1_indexOfChar_4cfef
theorem Rp_s9 {i : Int} (hr : Rp n A D s) (g : 0 ≤ i ∧ i < 3) : am_ial s.1 (some 25) 1 (wz i) = some (wz (stc 9 i)) := by
  rw [ial_of (Rp_sb (k := 9) hr (by decide)) g.1 (by show i < (3 : Nat); omega) (by decide)]
  show some (wz (stc 9 ((i.toNat : Nat) : Int))) = _
  rw [Int.toNat_of_nonneg g.1]
theorem K_ioc (c : Int) (v : Int) (hs : d = d) (hr : Rp n A D s) (hv : rg v) (i j w : Int) (hi : (0 ≤ i ∧ i < 3) ∧ rg i ∧ j = i + 1) (hw : stc 9 i = w ∧ rg w) : mr d P_ioc 7 [some (am_r (some 25)), none, none, some (am_i (wz 3)), some (am_i (wz v)), some (am_i (wz i))] [] s = if w = v then some (some (am_i (wz i)), s) else mr d P_ioc 7 [some (am_r (some 25)), none, none, some (am_i (wz 3)), some (am_i (wz v)), some (am_i (wz j))] [] s := by
  obtain ⟨hw, hwr⟩ := hw
  subst hw
  obtain ⟨h1, h2, rfl⟩ := hi
  refine (m_iload (q := 9) rfl rfl rfl rfl).trans ?_
  refine (m_iload_n (q := 10) rfl rfl rfl rfl).trans ?_
  refine ((m_cmpge (qt := 31) (qf := 13) rfl rfl h2 ⟨by decide, by decide⟩ rfl rfl).trans (if_neg (by omega))).trans ?_
  refine (m_aload_n (q := 14) rfl rfl rfl rfl).trans ?_
  refine (m_iload (q := 16) rfl rfl rfl rfl).trans ?_
  refine (x_bal (q := 17) rfl rfl rfl (Rp_s9 hr h1)).trans ?_
  refine (m_iload (q := 19) rfl rfl rfl rfl).trans ?_
  refine (m_cmpne (qt := 25) (qf := 22) rfl rfl hwr hv rfl rfl).trans ?_
  congr 1
  · refine (m_iload (q := 24) rfl rfl rfl rfl).trans ?_
    exact m_reti rfl rfl
  · refine (m_iinc (q := 28) (lo' := [some (am_r (some 25)), none, none, some (am_i (wz 3)), some (am_i (wz v)), some (am_i (wz (wr (i + 1))))]) rfl rfl rfl rfl rfl rfl rfl).trans ?_
    rw [wr_id (by omega) (by omega)]
    exact m_goto (q := 7) rfl rfl rfl
theorem ev_ioc (c : Int) (hc : 0 ≤ c ∧ c ≤ 255) : Ev n 1 223 [am_r (some 25), am_i (wz c), am_i (wz 0), am_i (wz 3)] A D (ri (w_cmp c)) A D := by
  refine Ev_of (c := 0) (P := P_ioc) (lo := [some (am_r (some 25)), some (am_i (wz c)), some (am_i (wz 0)), some (am_i (wz 3)), none, none]) rfl rfl rfl (fun d hd s hr => ?_)
  refine ok (m_iload_n (q := 1) rfl rfl rfl rfl) ?_
  refine ok (m_i2b (q := 2) rfl rfl rfl) ?_
  refine ok (m_istore (q := 4) (lo' := [some (am_r (some 25)), some (am_i (wz c)), some (am_i (wz 0)), some (am_i (wz 3)), some (am_i (wz (o_i2b c))), none]) rfl rfl rfl rfl rfl) ?_
  refine ok (m_iload_n (q := 5) rfl rfl rfl rfl) ?_
  refine ok (m_istore (q := 7) (lo' := [some (am_r (some 25)), some (am_i (wz c)), some (am_i (wz 0)), some (am_i (wz 3)), some (am_i (wz (o_i2b c))), some (am_i (wz 0))]) rfl rfl rfl rfl rfl) ?_
  refine ok (mk rfl (lo' := [some (am_r (some 25)), none, none, some (am_i (wz 3)), some (am_i (wz (o_i2b c))), some (am_i (wz 0))]) rfl) ?_
  have hv : rg (o_i2b c) := rg_o _
  have k0 := K_ioc (d := d) c (o_i2b c) rfl hr hv 0 1 60 ⟨⟨by decide, by decide⟩, ⟨by decide, by decide⟩, by decide⟩ ⟨by decide, ⟨by decide, by decide⟩⟩
  have k1 := K_ioc (d := d) c (o_i2b c) rfl hr hv 1 2 62 ⟨⟨by decide, by decide⟩, ⟨by decide, by decide⟩, by decide⟩ ⟨by decide, ⟨by decide, by decide⟩⟩
  have k2 := K_ioc (d := d) c (o_i2b c) rfl hr hv 2 3 61 ⟨⟨by decide, by decide⟩, ⟨by decide, by decide⟩, by decide⟩ ⟨by decide, ⟨by decide, by decide⟩⟩
  have k3 : mr d P_ioc 7 [some (am_r (some 25)), none, none, some (am_i (wz 3)), some (am_i (wz (o_i2b c))), some (am_i (wz 3))] [] s = some (some (am_i (wz (-1))), s) := by
    refine (m_iload (q := 9) rfl rfl rfl rfl).trans ?_
    refine (m_iload_n (q := 10) rfl rfl rfl rfl).trans ?_
    refine ((m_cmpge (qt := 31) (qf := 13) rfl rfl ⟨by decide, by decide⟩ ⟨by decide, by decide⟩ rfl rfl).trans (if_pos (by decide))).trans ?_
    refine (m_iconst (q := 32) rfl rfl rfl).trans ?_
    exact m_reti rfl rfl
  have hb := i2b_c ⟨c.toNat, by omega⟩
  simp only [Int.toNat_of_nonneg hc.1] at hb
  have e : mr d P_ioc 7 [some (am_r (some 25)), none, none, some (am_i (wz 3)), some (am_i (wz (o_i2b c))), some (am_i (wz 0))] [] s = some (some (am_i (wz (w_cmp c))), s) := by
    rw [k0, k1, k2, k3]
    unfold w_cmp
    by_cases h1 : c = 60
    · rw [if_pos (hb.1.mpr h1).symm, if_pos h1]
    · rw [if_neg (fun e => h1 (hb.1.mp e.symm)), if_neg h1]
      by_cases h2 : c = 62
      · rw [if_pos (hb.2.1.mpr h2).symm, if_pos h2]
      · rw [if_neg (fun e => h2 (hb.2.1.mp e.symm)), if_neg h2]
        by_cases h3 : c = 61
        · rw [if_pos (hb.2.2.mpr h3).symm, if_pos h3]
        · rw [if_neg (fun e => h3 (hb.2.2.mp e.symm)), if_neg h3]
  exact ok e (ok_i hr (rg_cmp c))
abbrev P_cen : Nat → Option am_E := am_fy tb_J1_canEncode_9a6ad
theorem ev_cen (c : Int) (hc : 0 ≤ c ∧ c ≤ 255) : Ev n 1 221 [am_i (wz c)] A D (ri 1) A D := by
  have hr0 : rg c := ⟨by omega, by omega⟩
  refine Ev_of (c := 0) (P := P_cen) (lo := [some (am_i (wz c))]) rfl rfl rfl (fun d hd s hr => ?_)
  refine ok (m_iload_n (q := 1) rfl rfl rfl rfl) ?_
  refine ok ((m_iflt (qt := 15) (qf := 4) rfl rfl hr0 rfl rfl).trans (if_neg (by omega))) ?_
  refine ok (m_iload_n (q := 5) rfl rfl rfl rfl) ?_
  refine ok (m_sipush (q := 8) rfl rfl rfl) ?_
  refine ok ((m_cmpgt (qt := 15) (qf := 11) rfl rfl hr0 ⟨by decide, by decide⟩ rfl rfl).trans (if_neg (by omega))) ?_
  refine ok (m_iconst (q := 12) rfl rfl rfl) ?_
  refine ok (m_goto (q := 16) rfl rfl rfl) ?_
  exact ok (m_retb rfl rfl ⟨by decide, by decide⟩) (ok_i hr ⟨by decide, by decide⟩)
abbrev P_iof : Nat → Option am_E := am_fy tb_J1_indexOf_4cfef
theorem ev_iof (c : Int) (hc : 0 ≤ c ∧ c ≤ 255) : Ev n 2 222 [am_r (some 25), am_i (wz c), am_i (wz 0), am_i (wz 3)] A D (ri (w_cmp c)) A D := by
  have hr0 : rg c := ⟨by omega, by omega⟩
  refine Ev_of (c := 1) (P := P_iof) (lo := [some (am_r (some 25)), some (am_i (wz c)), some (am_i (wz 0)), some (am_i (wz 3))]) rfl rfl rfl (fun d hd s hr => ?_)
  refine ok (m_iload_n (q := 1) rfl rfl rfl rfl) ?_
  refine oke (e_ci (x_cs (q := 4) rfl rfl rfl rfl rfl rfl rfl rfl rfl) (ev_cen c hc) (Nat.le_trans (by decide) hd) hr) (fun s1 r1 => ?_)
  refine ok ((m_ifne (qt := 9) (qf := 7) rfl rfl ⟨by decide, by decide⟩ rfl rfl).trans (if_neg (by decide))) ?_
  refine ok (m_iload_n (q := 10) rfl rfl rfl rfl) ?_
  refine ok (m_iconst (q := 11) rfl rfl rfl) ?_
  refine ok (m_max (q := 14) rfl rfl rfl rg0 rg0 rfl) ?_
  refine ok (m_istore_n (q := 15) (lo' := [some (am_r (some 25)), some (am_i (wz c)), some (am_i (wz 0)), some (am_i (wz 3))]) rfl rfl rfl rfl rfl) ?_
  refine ok (m_iload_n (q := 16) rfl rfl rfl rfl) ?_
  refine ok (m_aload_n (q := 17) rfl rfl rfl rfl) ?_
  refine ok (x_len (q := 18) (z := 3) rfl rfl rfl (len_of (Rp_sb (k := 9) r1 (by decide))) rfl) ?_
  refine ok (m_min (q := 21) rfl rfl rfl ⟨by decide, by decide⟩ ⟨by decide, by decide⟩ rfl) ?_
  refine ok (m_istore_n (q := 22) (lo' := [some (am_r (some 25)), some (am_i (wz c)), some (am_i (wz 0)), some (am_i (wz 3))]) rfl rfl rfl rfl rfl) ?_
  refine ok (m_iload_n (q := 23) rfl rfl rfl rfl) ?_
  refine ok (m_iload_n (q := 24) rfl rfl rfl rfl) ?_
  refine ok ((m_cmplt (qt := 29) (qf := 27) rfl rfl rg0 ⟨by decide, by decide⟩ rfl rfl).trans (if_pos (by decide))) ?_
  refine ok (m_aload_n (q := 30) rfl rfl rfl rfl) ?_
  refine ok (m_iload_n (q := 31) rfl rfl rfl rfl) ?_
  refine ok (m_iload_n (q := 32) rfl rfl rfl rfl) ?_
  refine ok (m_iload_n (q := 33) rfl rfl rfl rfl) ?_
  refine oke (e_ci (x_cs (q := 36) rfl rfl rfl rfl rfl rfl rfl rfl rfl) (ev_ioc c hc) (Nat.le_trans (by decide) hd) r1) (fun s2 r2 => ?_)
  exact ok (m_reti rfl rfl) (ok_i r2 (rg_cmp c))
abbrev P_io2 : Nat → Option am_E := am_fy tb_J0_indexOf_7cf53
theorem ev_io2 (c : Int) (hc : 0 ≤ c ∧ c ≤ 255) : Ev n 3 216 [am_r (some 13), am_i (wz c), am_i (wz 0)] A D (ri (w_cmp c)) A D := by
  refine Ev_of (c := 2) (P := P_io2) (lo := [some (am_r (some 13)), some (am_i (wz c)), some (am_i (wz 0))]) rfl rfl rfl (fun d hd s hr => ?_)
  refine ok (m_aload_n (q := 1) rfl rfl rfl rfl) ?_
  refine oke (e_ci (x_cv (q := 4) rfl rfl rfl rfl rfl rfl rfl rfl rfl rfl (is_sr (k := 9) hr (by decide))) (ev_lat (k := 9) (by decide)) (Nat.le_trans (by decide) hd) hr) (fun s1 r1 => ?_)
  refine ok ((m_ifeq (qt := 23) (qf := 7) rfl rfl ⟨by decide, by decide⟩ rfl rfl).trans (if_neg (by decide))) ?_
  refine ok (m_aload_n (q := 8) rfl rfl rfl rfl) ?_
  refine ok (x_gfr (q := 11) (v := some 25) rfl rfl rfl (gr_of (Rp_sc (k := 9) r1 (by decide)) rfl)) ?_
  refine ok (m_iload_n (q := 12) rfl rfl rfl rfl) ?_
  refine ok (m_iload_n (q := 13) rfl rfl rfl rfl) ?_
  refine ok (m_aload_n (q := 14) rfl rfl rfl rfl) ?_
  refine oke (e_ci (x_cv (q := 17) rfl rfl rfl rfl rfl rfl rfl rfl rfl rfl (is_sr (k := 9) r1 (by decide))) (ev_J0_length (D := D) 9 (by decide)) (Nat.le_trans (by decide) hd) r1) (fun s2 r2 => ?_)
  refine oke (e_ci (x_cs (q := 20) rfl rfl rfl rfl rfl rfl rfl rfl rfl) (ev_iof c hc) (Nat.le_trans (by decide) hd) r2) (fun s3 r3 => ?_)
  refine ok (m_goto (q := 36) rfl rfl rfl) ?_
  exact ok (m_reti rfl rfl) (ok_i r3 (rg_cmp c))
abbrev P_io1 : Nat → Option am_E := am_fy tb_J0_indexOf_0f7a4
def w_J0_indexOf (_ : aD) (_ : Nat) (c : Int) : Int := w_cmp c
def p_J0_indexOf (_ : aD) (k : Nat) (c : Int) : Prop := k = 9 ∧ 0 ≤ c ∧ c ≤ 255
theorem ev_J0_indexOf (k : Nat) (c : Int) (_ : k < 12) (hr0 : rg c) (hp : p_J0_indexOf D k c) : Ev n 4 215 [am_r (some (4 + k)), am_i (wz c)] A D (ri (w_J0_indexOf D k c)) A D := by
  obtain ⟨rfl, hc⟩ := hp
  refine Ev_of (c := 3) (P := P_io1) (lo := [some (am_r (some 13)), some (am_i (wz c))]) rfl rfl rfl (fun d hd s hr => ?_)
  refine ok (m_aload_n (q := 1) rfl rfl rfl rfl) ?_
  refine ok (m_iload_n (q := 2) rfl rfl rfl rfl) ?_
  refine ok (m_iconst (q := 3) rfl rfl rfl) ?_
  refine oke (e_ci (x_cv (q := 6) rfl rfl rfl rfl rfl rfl rfl rfl rfl rfl (is_sr (k := 9) hr (by decide))) (ev_io2 c hc) (Nat.le_trans (by decide) hd) hr) (fun s1 r1 => ?_)
  exact ok (m_reti rfl rfl) (ok_i r1 (rg_cmp c))
end Jd
