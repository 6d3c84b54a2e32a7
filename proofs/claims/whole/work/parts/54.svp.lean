/-! servant: what stands before the new thing. -/
section Sp
variable {n : Nat} {A A' : aA} {D D' : aD} {d : Nat} {s : am_S}
/-- the answer -1 -/
theorem sv_no {v1 v2 v3 v4 : Int32} {l5 : Option am_V} : mr d P_sv 68 [some (am_r (some 32)), some (am_i v1), some (am_i v2), some (am_i v3), some (am_i v4), l5] [] s = some (some (am_i (wz (-1))), s) := by
  refine (m_iconst (q := 69) rfl rfl rfl).trans ?_
  exact m_reti rfl rfl
theorem sv_0 {v1 v2 v3 v4 : Int32} {l5 : Option am_V} : mr d P_sv 48 [some (am_r (some 32)), some (am_i v1), some (am_i v2), some (am_i v3), some (am_i v4), l5] [] s = some (some (am_i (wz (-1))), s) := by
  refine (m_iconst (q := 49) rfl rfl rfl).trans ?_
  refine (m_istore (q := 51) (lo' := [some (am_r (some 32)), some (am_i v1), some (am_i v2), some (am_i v3), some (am_i v4), some (am_i (wz 0))]) rfl rfl rfl rfl rfl).trans ?_
  refine (m_iload (q := 53) rfl rfl rfl rfl).trans ?_
  refine ((m_ifeq (qt := 68) (qf := 56) rfl rfl rg0 rfl rfl).trans (if_pos rfl)).trans ?_
  exact sv_no
theorem btw_0 {a b c : Int} : v_X11_between D a b c = 0 ↔ ¬ (b ≤ a ∧ a ≤ c) := by
  unfold v_X11_between
  split
  · constructor
    · intro _; omega
    · intro _; rfl
  · split
    · constructor
      · intro _; omega
      · intro _; rfl
    · constructor
      · intro h; cases h
      · intro _; omega
theorem sv_pre {v1 v2 v3 v4 : Int} (hr : Rp n A D s) (h1 : rg v1) (h2 : rg v2) (h3 : rg v3) (h4 : rg v4) : ∃ s', Rp n A D s' ∧ mr (d + 1) P_sv 0 [some (am_r (some 32)), some (am_i (wz v1)), some (am_i (wz v2)), some (am_i (wz v3)), some (am_i (wz v4)), none] [] s = if (-20000 ≤ v1 ∧ v1 ≤ D 32 14) ∧ (0 ≤ v2 ∧ v2 ≤ 255) ∧ (0 ≤ v3 ∧ v3 ≤ 3) ∧ (0 ≤ v4 ∧ v4 ≤ 4) ∧ D 1002 0 < 24 then mr (d + 1) P_sv 70 [some (am_r (some 32)), some (am_i (wz v1)), some (am_i (wz v2)), some (am_i (wz v3)), some (am_i (wz v4)), some (am_i (wz 1))] [] s' else some (some (am_i (wz (-1))), s') := by
  have f0 : D 900 0 = 1 := (Rp_cl hr).2.2.2.2.2.2.2.2.2.2.2.1
  have hb : ∀ a b c, rg (v_X11_between D a b c) := fun a b c => by have := b_X11_between D a b c; exact rgb (by omega) (by omega)
  obtain ⟨s1, e1, r1⟩ := e_ci (d := d + 1) (s := s) (P := P_sv) (q := 11) (lo := [some (am_r (some 32)), some (am_i (wz v1)), some (am_i (wz v2)), some (am_i (wz v3)), some (am_i (wz v4)), none]) (rest := []) rfl (ev_X11_between (n := n) (A := A) (D := D) v1 (-20000) (D 32 14) h1 ⟨by decide, by decide⟩ (Rp_rg hr 32 14)) (by omega) hr
  have t1 : mr (d + 1) P_sv 0 [some (am_r (some 32)), some (am_i (wz v1)), some (am_i (wz v2)), some (am_i (wz v3)), some (am_i (wz v4)), none] [] s = mr (d + 1) P_sv 11 [some (am_r (some 32)), some (am_i (wz v1)), some (am_i (wz v2)), some (am_i (wz v3)), some (am_i (wz v4)), none] [am_i (wz (v_X11_between D v1 (-20000) (D 32 14)))] s1 := by
    refine (m_iload_n (q := 1) rfl rfl rfl rfl).trans ?_
    refine (m_sipush (q := 4) rfl rfl rfl).trans ?_
    refine (m_aload_n (q := 5) rfl rfl rfl rfl).trans ?_
    refine (m_gfs (q := 8) (w := D 32 14) rfl rfl rfl hr rfl rfl rfl rfl rfl).trans ?_
    exact (x_cs (rk := 1) (as := [am_i (wz v1), am_i (wz (-20000)), am_i (wz (D 32 14))]) (rest := []) (q := 11) rfl rfl rfl rfl rfl rfl rfl rfl rfl).trans e1
  rw [t1, m_ifeq (qt := 48) (qf := 14) rfl rfl (hb _ _ _) rfl rfl]
  by_cases c1 : v_X11_between D v1 (-20000) (D 32 14) = 0
  · rw [if_pos c1]
    refine ⟨s1, r1, ?_⟩
    rw [btw_0] at c1
    rw [if_neg (fun h => c1 h.1)]
    exact sv_0
  rw [if_neg c1]
  rw [btw_0, Classical.not_not] at c1
  obtain ⟨s2, e2, r2⟩ := e_ci (d := d + 1) (s := s1) (P := P_sv) (q := 22) (lo := [some (am_r (some 32)), some (am_i (wz v1)), some (am_i (wz v2)), some (am_i (wz v3)), some (am_i (wz v4)), none]) (rest := []) rfl (ev_X11_between (n := n) (A := A) (D := D) v2 0 255 h2 rg0 ⟨by decide, by decide⟩) (by omega) r1
  have t2 : mr (d + 1) P_sv 14 [some (am_r (some 32)), some (am_i (wz v1)), some (am_i (wz v2)), some (am_i (wz v3)), some (am_i (wz v4)), none] [] s1 = mr (d + 1) P_sv 22 [some (am_r (some 32)), some (am_i (wz v1)), some (am_i (wz v2)), some (am_i (wz v3)), some (am_i (wz v4)), none] [am_i (wz (v_X11_between D v2 0 255))] s2 := by
    refine (m_iload_n (q := 15) rfl rfl rfl rfl).trans ?_
    refine (m_iconst (q := 16) rfl rfl rfl).trans ?_
    refine (m_sipush (q := 19) rfl rfl rfl).trans ?_
    exact (x_cs (rk := 1) (as := [am_i (wz v2), am_i (wz 0), am_i (wz 255)]) (rest := []) (q := 22) rfl rfl rfl rfl rfl rfl rfl rfl rfl).trans e2
  rw [t2, m_ifeq (qt := 48) (qf := 25) rfl rfl (hb _ _ _) rfl rfl]
  by_cases c2 : v_X11_between D v2 0 255 = 0
  · rw [if_pos c2]
    refine ⟨s2, r2, ?_⟩
    rw [btw_0] at c2
    rw [if_neg (fun h => c2 h.2.1)]
    exact sv_0
  rw [if_neg c2]
  rw [btw_0, Classical.not_not] at c2
  obtain ⟨s3, e3, r3⟩ := e_ci (d := d + 1) (s := s2) (P := P_sv) (q := 31) (lo := [some (am_r (some 32)), some (am_i (wz v1)), some (am_i (wz v2)), some (am_i (wz v3)), some (am_i (wz v4)), none]) (rest := []) rfl (ev_X11_between (n := n) (A := A) (D := D) v3 0 3 h3 rg0 ⟨by decide, by decide⟩) (by omega) r2
  have t3 : mr (d + 1) P_sv 25 [some (am_r (some 32)), some (am_i (wz v1)), some (am_i (wz v2)), some (am_i (wz v3)), some (am_i (wz v4)), none] [] s2 = mr (d + 1) P_sv 31 [some (am_r (some 32)), some (am_i (wz v1)), some (am_i (wz v2)), some (am_i (wz v3)), some (am_i (wz v4)), none] [am_i (wz (v_X11_between D v3 0 3))] s3 := by
    refine (m_iload_n (q := 26) rfl rfl rfl rfl).trans ?_
    refine (m_iconst (q := 27) rfl rfl rfl).trans ?_
    refine (m_iconst (q := 28) rfl rfl rfl).trans ?_
    exact (x_cs (rk := 1) (as := [am_i (wz v3), am_i (wz 0), am_i (wz 3)]) (rest := []) (q := 31) rfl rfl rfl rfl rfl rfl rfl rfl rfl).trans e3
  rw [t3, m_ifeq (qt := 48) (qf := 34) rfl rfl (hb _ _ _) rfl rfl]
  by_cases c3 : v_X11_between D v3 0 3 = 0
  · rw [if_pos c3]
    refine ⟨s3, r3, ?_⟩
    rw [btw_0] at c3
    rw [if_neg (fun h => c3 h.2.2.1)]
    exact sv_0
  rw [if_neg c3]
  rw [btw_0, Classical.not_not] at c3
  obtain ⟨s4, e4, r4⟩ := e_ci (d := d + 1) (s := s3) (P := P_sv) (q := 41) (lo := [some (am_r (some 32)), some (am_i (wz v1)), some (am_i (wz v2)), some (am_i (wz v3)), some (am_i (wz v4)), none]) (rest := []) rfl (ev_X11_between (n := n) (A := A) (D := D) v4 0 4 h4 rg0 ⟨by decide, by decide⟩) (by omega) r3
  have t4 : mr (d + 1) P_sv 34 [some (am_r (some 32)), some (am_i (wz v1)), some (am_i (wz v2)), some (am_i (wz v3)), some (am_i (wz v4)), none] [] s3 = mr (d + 1) P_sv 41 [some (am_r (some 32)), some (am_i (wz v1)), some (am_i (wz v2)), some (am_i (wz v3)), some (am_i (wz v4)), none] [am_i (wz (v_X11_between D v4 0 4))] s4 := by
    refine (m_iload (q := 36) rfl rfl rfl rfl).trans ?_
    refine (m_iconst (q := 37) rfl rfl rfl).trans ?_
    refine (m_iconst (q := 38) rfl rfl rfl).trans ?_
    exact (x_cs (rk := 1) (as := [am_i (wz v4), am_i (wz 0), am_i (wz 4)]) (rest := []) (q := 41) rfl rfl rfl rfl rfl rfl rfl rfl rfl).trans e4
  rw [t4, m_ifeq (qt := 48) (qf := 44) rfl rfl (hb _ _ _) rfl rfl]
  by_cases c4 : v_X11_between D v4 0 4 = 0
  · rw [if_pos c4]
    refine ⟨s4, r4, ?_⟩
    rw [btw_0] at c4
    rw [if_neg (fun h => c4 h.2.2.2.1)]
    exact sv_0
  rw [if_neg c4]
  rw [btw_0, Classical.not_not] at c4
  refine ⟨s4, r4, ?_⟩
  refine (m_iconst (q := 45) rfl rfl rfl).trans ?_
  refine (m_goto (q := 49) rfl rfl rfl).trans ?_
  refine (m_istore (q := 51) (lo' := [some (am_r (some 32)), some (am_i (wz v1)), some (am_i (wz v2)), some (am_i (wz v3)), some (am_i (wz v4)), some (am_i (wz 1))]) rfl rfl rfl rfl rfl).trans ?_
  refine (m_iload (q := 53) rfl rfl rfl rfl).trans ?_
  refine ((m_ifeq (qt := 68) (qf := 56) rfl rfl ⟨by decide, by decide⟩ rfl rfl).trans (if_neg (by decide))).trans ?_
  refine (m_aload_n (q := 57) rfl rfl rfl rfl).trans ?_
  refine (m_gfy (t := 0) (i := 0) (q := 60) rfl rfl rfl r4 rfl rfl rfl).trans ?_
  refine (x_cv (rk := 1) (r := some (A 0 0)) (as := []) (rest := []) (q := 63) rfl rfl rfl rfl rfl rfl rfl rfl rfl rfl (is_ty r4 rfl f0)).trans ?_
  rw [rw_size 0 r4 f0]
  refine (m_bipush (q := 65) rfl rfl rfl).trans ?_
  refine (m_cmplt (qt := 70) (qf := 68) rfl rfl (Rp_rg hr 1002 0) ⟨by decide, by decide⟩ rfl rfl).trans ?_
  by_cases c5 : D 1002 0 < 24
  · rw [if_pos c5, if_pos ⟨c1, c2, c3, c4, c5⟩]
  · rw [if_neg c5, if_neg (fun h => c5 h.2.2.2.2)]
    exact sv_no
/-- servant, whole: refused -/
theorem ev_sv_no {v1 v2 v3 v4 : Int} (h1 : rg v1) (h2 : rg v2) (h3 : rg v3) (h4 : rg v4) (hb : ¬ ((-20000 ≤ v1 ∧ v1 ≤ D 32 14) ∧ (0 ≤ v2 ∧ v2 ≤ 255) ∧ (0 ≤ v3 ∧ v3 ≤ 3) ∧ (0 ≤ v4 ∧ v4 ≤ 4) ∧ D 1002 0 < 24)) : Ev n 7 72 [am_r (some 32), am_i (wz v1), am_i (wz v2), am_i (wz v3), am_i (wz v4)] A D (ri (-1)) A D := by
  refine Ev_of (c := 6) (P := P_sv) (N := 6) (lo := [some (am_r (some 32)), some (am_i (wz v1)), some (am_i (wz v2)), some (am_i (wz v3)), some (am_i (wz v4)), none]) rfl rfl rfl (fun d hd s hr => ?_)
  obtain ⟨d, rfl⟩ : ∃ e, d = e + 1 := ⟨d - 1, by omega⟩
  obtain ⟨s', r, e⟩ := sv_pre (d := d) hr h1 h2 h3 h4
  rw [e, if_neg hb]
  exact ⟨_, s', rfl, ⟨rfl, ⟨by decide, by decide⟩⟩, r⟩
/-- servant, whole: taken in -/
theorem ev_sv_yes {v1 v2 v3 v4 : Int} (h1 : rg v1) (h2 : rg v2) (h3 : rg v3) (h4 : rg v4) (hb : (-20000 ≤ v1 ∧ v1 ≤ D 32 14) ∧ (0 ≤ v2 ∧ v2 ≤ 255) ∧ (0 ≤ v3 ∧ v3 ≤ 3) ∧ (0 ≤ v4 ∧ v4 ≤ 4) ∧ D 1002 0 < 24) (h9 : ∀ i, D 901 i = 1 → D 900 i = 1) (hn : D 910 (D 1002 0) ≠ 1 ∧ D 920 (D 1002 0) ≠ 1) (hp : D 901 0 = 1 → 0 < D 1100 0) (hh : D 950 0 ≤ 100000000 ∧ D 951 0 ≤ 100000000) : Ev n 7 72 [am_r (some 32), am_i (wz v1), am_i (wz v2), am_i (wz v3), am_i (wz v4)] A D (ri (D 1002 0)) (addA (svA A (D 1002 0) (D 950 0).toNat) (svD D (D 1002 0) (D 1002 0) v1 v2 v3) 0) (addD (svD D (D 1002 0) (D 1002 0) v1 v2 v3) 0) := by
  refine Ev_of (c := 6) (P := P_sv) (N := 6) (lo := [some (am_r (some 32)), some (am_i (wz v1)), some (am_i (wz v2)), some (am_i (wz v3)), some (am_i (wz v4)), none]) rfl rfl rfl (fun d hd s hr => ?_)
  obtain ⟨d, rfl⟩ : ∃ e, d = e + 6 := ⟨d - 6, by omega⟩
  obtain ⟨s', r, e⟩ := sv_pre (d := d + 5) hr h1 h2 h3 h4
  rw [e, if_pos hb]
  exact sv_all r h9 hn (by omega) hp h1 h2 h3 hh
end Sp
