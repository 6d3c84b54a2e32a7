/-! The class's rules, run. -/
section Xrr
variable {n : Nat} {A A' : aA} {D D' E F : aD} {k q : Int} {s f : Nat → Int} {w : Nat → Option Itm} {M : Nat} {o : Option Int}
theorem riD_k {c : Nat} (h0 : 0 ≤ q) (hc : c ≠ 47 ∧ c ≠ 49) : u_adv (riD D q) c = D c := by
  rw [(riD_x (D := D) h0).2.1 c hc.1 hc.2]
  unfold riD
  rw [up_cf hc.1, up_cf hc.1, up_cf hc.1, up_cf hc.1]
theorem riD_2 (h0 : 0 ≤ q) : u_adv (riD D q) 47 2 = 0 := by
  rw [(riD_x (D := D) h0).2.2 2 (by decide)]
  unfold riD
  rw [up_i (by decide), up_i (by decide), up_eq]
/-- what the class's rules change; k is the new book -/
def XK (k : Int) (D E : aD) : Prop := (∀ c, c ≠ 47 → c ≠ 49 → (c < 900 ∨ (901 < c ∧ c < 914) ∨ c = 915 ∨ (916 < c ∧ c < 922) ∨ (925 < c ∧ c < 950) ∨ (951 < c ∧ c < 1000) ∨ c = 1001 ∨ (1002 < c ∧ c < 1100) ∨ (1100 < c ∧ c < 2400) ∨ (2411 < c ∧ c < 2600) ∨ (2605 < c ∧ c < 3200)) → E c = D c) ∧ (∀ c, c = 914 ∨ c = 923 ∨ c = 924 ∨ c = 925 ∨ (2400 ≤ c ∧ c ≤ 2411) ∨ c = 3300 ∨ c = 3400 ∨ c = 3500 → ∀ i, 0 ≤ i ∧ i ≤ 8 → i ≠ k → E c i = D c i) ∧ (∀ c, c = 900 ∨ c = 901 ∨ c = 1002 ∨ c = 1100 → ∀ i, i ≠ 8 + k → E c i = D c i) ∧ (∀ c, c = 914 ∨ c = 923 ∨ c = 924 ∨ c = 925 → ∀ i, i ≠ k → E c i = D c i) ∧ (∀ c, (2600 ≤ c ∧ c ≤ 2605) ∨ c = 916 ∨ c = 922 ∨ c = 3200 → ∀ i, i < 64 * k ∨ 64 * k + 64 ≤ i → E c i = D c i) ∧ (∀ j, j < 1024 * (64 * k) ∨ 1024 * (64 * k + 64) ≤ j → E 3201 j = D 3201 j) ∧ (∀ j, j < 1024 * k ∨ 1024 * k + 1024 ≤ j → E 3301 j = D 3301 j) ∧ E 47 2 = 0 ∧ (E 914 k = 1 ∧ E 900 (8 + k) = 1 ∧ E 2400 k = k ∧ E 2401 k = D 32 14 ∧ E 3300 k = 6 ∧ E 3400 k = 6 ∧ E 3500 k = 6)
theorem XK_of (hk : 0 ≤ k ∧ k < 8) (h0 : 0 ≤ q) (h : LF k (u_adv (riD (bkD D k (D 32 14)) q)) E) : XK k D E := by
  obtain ⟨l1, l2, l3, l4, l5, l6, l7⟩ := h
  have ck : ∀ c, c ≠ 47 → c ≠ 49 → u_adv (riD (bkD D k (D 32 14)) q) c = bkD D k (D 32 14) c := fun c c1 c2 => riD_k h0 ⟨c1, c2⟩
  have lk : ∀ c, c ≠ 47 → c ≠ 49 → c ≠ 916 → c ≠ 922 → c ≠ 3200 → c ≠ 3201 → c ≠ 3301 → c ≠ 950 → c ≠ 951 → c ≠ 1000 → c ≠ 1002 → c ≠ 901 → c ≠ 1100 → (c < 2600 ∨ 2605 < c) → (c < 2406 ∨ 2411 < c) → E c = bkD D k (D 32 14) c := fun c a1 a2 a3 a4 a5 a6 a7 a8 a9 a10 a11 a12 a13 a14 a15 => (l1 c a1 a2 a3 a4 a5 a6 a7 a8 a9 a10 a11 a12 a13 a14 a15).trans (ck c a1 a2)
  refine ⟨fun c c1 c2 c3 => ?_, fun c hc i hi hik => ?_, fun c hc i hi => ?_, fun c hc i hi => ?_, fun c hc i hi => ?_, fun j hj => ?_, fun j hj => ?_, ?_, ?_, ?_, ?_, ?_, ?_, ?_, ?_⟩
  · rw [lk c c1 c2 (by omega) (by omega) (by omega) (by omega) (by omega) (by omega) (by omega) (by omega) (by omega) (by omega) (by omega) (by omega) (by omega)]
    exact funext fun i => bkD_c (by omega)
  · have e2 : bkD D k (D 32 14) c i = D c i := by
      by_cases z : i = 8 + k
      · unfold bkD
        rw [if_neg (by omega), if_neg (by omega), if_neg (by omega), if_neg (by omega), if_neg (by omega), if_neg (by omega), if_neg (by omega), if_neg (by omega), if_neg (by omega), if_neg (by omega), if_neg (by omega), if_neg (by omega)]
      · exact bkD_j (by omega) ⟨hik, z⟩
    by_cases z : 2406 ≤ c ∧ c ≤ 2411
    · rw [l6 c z.1 z.2 i hik, ck c (by omega) (by omega), e2]
    · rw [lk c (by omega) (by omega) (by omega) (by omega) (by omega) (by omega) (by omega) (by omega) (by omega) (by omega) (by omega) (by omega) (by omega) (by omega) (by omega), e2]
  · rcases hc with rfl | rfl | rfl | rfl
    · rw [lk 900 (by decide) (by decide) (by decide) (by decide) (by decide) (by decide) (by decide) (by decide) (by decide) (by decide) (by decide) (by decide) (by decide) (by decide) (by decide), bkD_9, if_neg hi]
    · rw [l5 901 (by decide) i hi, ck 901 (by decide) (by decide), bkD_c (by decide)]
    · rw [l5 1002 (by decide) i hi, ck 1002 (by decide) (by decide), bkD_2, if_neg hi]
    · rw [l5 1100 (by decide) i hi, ck 1100 (by decide) (by decide), bkD_c (by decide)]
  · rw [lk c (by omega) (by omega) (by omega) (by omega) (by omega) (by omega) (by omega) (by omega) (by omega) (by omega) (by omega) (by omega) (by omega) (by omega) (by omega), bkD_k (by omega), if_neg hi]
  · rw [l2 c hc i hi, ck c (by omega) (by omega), bkD_c (by omega)]
  · rw [l3 j hj, ck 3201 (by decide) (by decide), bkD_c (by decide)]
  · rw [l7 j hj, ck 3301 (by decide) (by decide), bkD_r (by decide), if_neg (by omega)]
  · rw [l4 2 (by decide)]; exact riD_2 h0
  · rw [lk 914 (by decide) (by decide) (by decide) (by decide) (by decide) (by decide) (by decide) (by decide) (by decide) (by decide) (by decide) (by decide) (by decide) (by decide) (by decide), bkD_k (by decide), if_pos rfl]
  · rw [lk 900 (by decide) (by decide) (by decide) (by decide) (by decide) (by decide) (by decide) (by decide) (by decide) (by decide) (by decide) (by decide) (by decide) (by decide) (by decide), bkD_9, if_pos rfl]
  · rw [lk 2400 (by decide) (by decide) (by decide) (by decide) (by decide) (by decide) (by decide) (by decide) (by decide) (by decide) (by decide) (by decide) (by decide) (by decide) (by decide), bkD_b (by decide)]; rfl
  · rw [lk 2401 (by decide) (by decide) (by decide) (by decide) (by decide) (by decide) (by decide) (by decide) (by decide) (by decide) (by decide) (by decide) (by decide) (by decide) (by decide), bkD_b (by decide)]; rfl
  · rw [lk 3300 (by decide) (by decide) (by decide) (by decide) (by decide) (by decide) (by decide) (by decide) (by decide) (by decide) (by decide) (by decide) (by decide) (by decide) (by decide), bkD_6 (by decide)]
  · rw [lk 3400 (by decide) (by decide) (by decide) (by decide) (by decide) (by decide) (by decide) (by decide) (by decide) (by decide) (by decide) (by decide) (by decide) (by decide) (by decide), bkD_6 (by decide)]
  · rw [lk 3500 (by decide) (by decide) (by decide) (by decide) (by decide) (by decide) (by decide) (by decide) (by decide) (by decide) (by decide) (by decide) (by decide) (by decide) (by decide), bkD_6 (by decide)]
/-- the statements of the new book -/
def XB (T : Int → Int) (N : Int) (s : Nat → Int) (w : Nat → Option Itm) (k : Int) (M : Nat) (E : aD) : Prop := E 1002 (8 + k) = M ∧ (∀ p, p < M → Xw T N (kd T N (s p)) (tN T N (s p)) (64 * k + p) E ∧ XCd (64 * k + p) E (w p)) ∧ HX T N s k M E
theorem xr_run (hI : Inv D) (hH : Hp D) (hh : D 950 0 ≤ 100000000 ∧ D 951 0 ≤ 100000000) (hq : 0 ≤ q ∧ q ≤ D 70 28) (hk : D 70 26 = k ∧ k < 8) (hT : Txt (D 48) q) (hs : s 0 = tS (D 48) q 0) (hS : Sts (D 48) q M s w f o) : ∃ A1 E, XK k D E ∧ (∀ l, E 901 l = 1 → E 900 l = 1 ∧ 0 < E 1100 l) ∧ ((D 950 0 ≤ E 950 0 ∧ E 950 0 ≤ D 950 0 + 97) ∧ (D 951 0 ≤ E 951 0 ∧ E 951 0 ≤ D 951 0 + 2789)) ∧ (o = none → Ev 2 32 85 [am_r (some 32), am_i (wz q)] A D (ri k) (addA A1 E 4) (addD E 4) ∧ E 47 3 = -1 ∧ XB (D 48) q s w k M E) ∧ (∀ g, o = some g → Ev 2 32 85 [am_r (some 32), am_i (wz q)] A D (ri (-1)) A1 E ∧ E 47 3 = g) := by
  have hrb := hI.rb.1
  have htp := hI.iv.tp
  unfold I_tp at htp
  have htp1 := htp.1
  have hk0 : 0 ≤ k ∧ k < 8 := by omega
  have h14 : D 1002 4 = k := by omega
  obtain ⟨H1, H2, H3, H4, H5, H6, H7, H8, H9⟩ := hH
  have ck : ∀ c, c ≠ 47 → c ≠ 49 → u_adv (riD (bkD D k (D 32 14)) q) c = bkD D k (D 32 14) c := fun c c1 c2 => riD_k hq.1 ⟨c1, c2⟩
  have b48 : bkD D k (D 32 14) 48 = D 48 := funext fun i => bkD_c (by decide)
  have bh := bkD_h (D := D) (k := k) (y := D 32 14)
  have h916 : ∀ i, 64 * k ≤ i → D 916 i ≠ 1 := fun i hi z => by have := H9 i (Or.inl z); rw [h14] at this; omega
  have cl0 : CL0 k (u_adv (riD (bkD D k (D 32 14)) q)) := by
    refine ⟨hk0, ?_, ?_, ?_, fun i hi => ?_, ?_⟩
    · rw [ck 914 (by decide) (by decide), bkD_k (by decide), if_pos rfl]
    · rw [ck 900 (by decide) (by decide), bkD_9, if_pos rfl]
    · rw [ck 3300 (by decide) (by decide), bkD_6 (by decide)]
    · rw [ck 916 (by decide) (by decide), bkD_c (by decide)]; exact h916 i hi
    · rw [ck 950 (by decide) (by decide), ck 951 (by decide) (by decide), bh.1, bh.2]; omega
  have b9 : ∀ l, bkD D k (D 32 14) 901 l = 1 → bkD D k (D 32 14) 900 l = 1 ∧ 0 < bkD D k (D 32 14) 1100 l := by
    intro l hl
    rw [bkD_c (by decide)] at hl
    rw [bkD_c (c := 1100) (by decide)]
    exact ⟨bkD_fl (t := 0) (by decide) (H1 l hl).1, (H1 l hl).2⟩
  have hX : HX (D 48) q s k 0 (bkD D k (D 32 14)) := by
    refine ⟨?_, ?_, ?_, ?_, ?_, ?_, fun p p0 p1 => ?_⟩
    · rw [bkD_b (by decide)]; rfl
    · rw [bkD_b (by decide)]; rfl
    · rw [bkD_b (by decide)]; rfl
    · rw [bkD_b (by decide)]; rfl
    · rw [bkD_b (by decide)]; rfl
    · rw [bkD_b (by decide)]; rfl
    · rw [bkD_r (by decide), if_pos (by omega)]; rfl
  have b47 : bkD D k (D 32 14) 47 2 = D 47 2 := bkD_c (by decide)
  obtain ⟨x, A1, E, e1, e2, e3, e4, e5, e6, e7⟩ := ev_ri (n := 1) (A := bkA A k (D 950 0).toNat) (D := bkD D k (D 32 14)) (k := k) (q := q) (s := s) (f := f) (w := w) (M := M) (o := o) (by rw [b48]; exact hT) (by rw [b47]; omega) cl0 (by rw [bkD_2, if_pos rfl]) b9 (by rw [b48]; exact hX) (by rw [b48]; exact hs) (by rw [b48]; exact hS)
  rw [b48] at e6
  rw [ck 950 (by decide) (by decide), ck 951 (by decide) (by decide), bh.1, bh.2] at e4
  have xk := XK_of (D := D) hk0 hq.1 e3
  have xk' := xk
  obtain ⟨_, _, k3, _, _, _, _, _, k9, k10, k11, _⟩ := xk'
  have rx : rg x := by
    cases o with
    | none => rw [(e6 rfl).1]; exact ⟨by decide, by decide⟩
    | some g => rw [(e7 g rfl).1]; exact ⟨by decide, by decide⟩
  have bx : 0 ≤ x ∧ x ≤ 1 := by
    cases o with
    | none => rw [(e6 rfl).1]; exact ⟨by decide, by decide⟩
    | some g => rw [(e7 g rfl).1]; exact ⟨by decide, by decide⟩
  have rq : rg q := rgb (by omega) (by omega)
  have f14 : (bkD D k (D 32 14)) 914 k = 1 := by rw [bkD_k (by decide), if_pos rfl]
  have top : ∀ {y A' D'}, K_X11_rules_61 2 31 A1 E q k x y A' D' → Ev 2 32 85 [am_r (some 32), am_i (wz q)] A D (ri y) A' D' := by
    intro y A' D' K
    refine rl_X11_rules (n := 2) (c := 31) (by decide) q rq ?_
    rw [if_neg (by omega), if_pos (by omega), if_pos (by omega)]
    refine K_ru33 (k := k) (by decide) ⟨h14, hk0⟩ (fun i hi => (H1 i hi).1) ⟨?_, ?_, ?_, ?_, ?_⟩ ⟨by omega, by omega⟩ ?_
    · intro z; have := H7 k (Or.inl z); rw [h14] at this; omega
    · intro z; have := H8 (8 + k) z; rw [h14] at this; omega
    · intro z; have := H7 k (Or.inr (Or.inl z)); rw [h14] at this; omega
    · intro z; have := H7 k (Or.inr (Or.inr (Or.inl z))); rw [h14] at this; omega
    · intro z; have := H7 k (Or.inr (Or.inr (Or.inr z))); rw [h14] at this; omega
    · refine rl_X11_rules_51 (by decide) q k rq f14 ?_
      exact K_ru52 (m := 30) (by decide) e1 e2 K
  refine ⟨A1, E, xk, e5, ⟨⟨by omega, by omega⟩, by omega, by omega⟩, fun ho => ?_, fun g hg => ?_⟩
  · obtain ⟨i1, i2, i3⟩ := e6 ho
    refine ⟨top (rl_X11_rules_61 (by decide) q k x rq k9 rx bx ?_), i2, i3.2.1, fun p hp => ⟨(i3.2.2.2.2.2.1 p hp).1, (i3.2.2.2.2.2.1 p hp).2.1⟩, i3.2.2.2.2.2.2.1⟩
    have e14 : E 1002 4 = k := by rw [k3 1002 (by decide) 4 (by omega)]; exact h14
    rw [if_neg (by omega)]
    refine ⟨⟨by rw [e14, show ebs 4 = 0 from rfl]; omega, by omega, fun z => (e5 4 z).2, by omega, by omega⟩, ?_⟩
    refine rl_X11_rules_75 (by decide) q k rq (by rw [addD_f (by decide)]; exact k9) ⟨rfl, ?_, rfl⟩
    rw [addD_f (by decide)]; exact k11.symm
  · obtain ⟨i1, i2⟩ := e7 g hg
    refine ⟨top (rl_X11_rules_61 (by decide) q k x rq k9 rx bx ?_), i2⟩
    rw [if_pos i1]; exact ⟨rfl, rfl, rfl⟩
end Xrr
