/-! The call rules, both readers together. -/
section Cr2
variable {A A' : aA} {D D0 D' E E1 F G P : aD} {k q : Int} {s f : Nat → Int} {w : Nat → Option Itm} {M : Nat} {o : Option Int} {st : am_S}
theorem JF_fg (h : JF k D P) : JF k D (fgD P k) := by
  obtain ⟨j1, j2, j3, j4, j5, j6, j7, j8, j9, j10, j11⟩ := h
  have f70 : fgD P k 70 = P 70 := fgD_c (by decide)
  refine ⟨fun c hc => ?_, ?_, ?_, ?_, fun c c1 c2 => ?_, fun c c1 c2 => ?_, ?_, fun c hc => ?_, fun c hc => ?_, ?_, ?_⟩
  · have := (ivk_g hc).2.2.2.2.2.2.2
    rw [fgD_c (by omega)]; exact j1 c hc
  · rw [f70]; exact j2
  · rw [fgD_c (by decide)]; exact j3
  · rw [fgD_c (by decide), fgD_c (by decide)]; exact j4
  · rw [fgD_c (by omega)]; exact j5 c c1 c2
  · rw [fgD_c (by omega)]; exact j6 c c1 c2
  · rw [f70]; exact j7
  · rw [fgD_c (by omega)]; exact j8 c hc
  · rw [fgD_c (by omega)]; exact j9 c hc
  · rw [fgD_c (by decide)]; exact j10
  · rw [fgD_c (by decide)]; exact j11
theorem ru_ok (hI : Inv D) (hH : Hp D) (hc : Cl A' D) (hk : D 70 26 = k ∧ k < 8) (hq : 0 ≤ q ∧ q ≤ 700) (hT : Txt (D 48) q) (hs : s 0 = tS (D 48) q 0) (hS : Sts (D 48) q M s w f none) (xk : XK k D E) (e9 : ∀ l, E 901 l = 1 → E 900 l = 1 ∧ 0 < E 1100 l) (rm : (D 950 0 ≤ E 950 0 ∧ E 950 0 ≤ D 950 0 + 97) ∧ (D 951 0 ≤ E 951 0 ∧ E 951 0 ≤ D 951 0 + 2789)) (e3 : E 47 3 = -1) (xb : XB (D 48) q s w k M E) (m0 : M0 k (addD E 4) D0) (ml : ML (D 48) q s w k D0 M G) (hP : P = up (up (up G 70 32 (-1)) 93 k (G 70 0)) 70 26 (k + 1)) : Inv P ∧ Fr D P := by
  have hrb := hI.rb
  have hct := hI.iv.ct
  unfold I_ct at hct
  have hk0 : 0 ≤ k ∧ k < 8 := by have := hrb.1; omega
  have h14 : D 1002 4 = k := by have := hrb.1; omega
  have t0 : Tok (D 48) q (s 0) := by rw [hs]; exact tS_tok hq.1
  have p1 : ∀ c, c ≠ 70 → c ≠ 93 → P c = G c := fun c a b => by rw [hP, up_cf a, up_cf b, up_cf a]
  have p2 : ∀ i, i ≠ 26 → i ≠ 27 → i ≠ 32 → P 70 i = G 70 i := fun i a _ b => by rw [hP, up_i a, up_c (by decide), up_i b]
  have p3 : ∀ i, i ≠ k → P 93 i = G 93 i := fun i a => by rw [hP, up_c (by decide), up_i a, up_c (by decide)]
  have p27 : P 70 27 = G 70 27 := by rw [hP, up_i (by decide), up_c (by decide), up_i (by decide)]
  obtain ⟨g1, g2, g3, ⟨g4, g5⟩, mf, g7⟩ := ml
  have x1 := xk.1
  have d70 : ∀ i, i ≠ 28 → i ≠ 29 → i ≠ 30 → D0 70 i = D 70 i := fun i a b c => by
    rw [m0.2.1 i a b c, addD_f (by decide), x1 70 (by decide) (by decide) (by omega)]
  have jf : JF k D P := JF_of xk (fun c a1 a2 a3 a4 a5 a6 => addD_f ⟨a1, a2, a3, a4, a5, a6⟩) (fun l hl => by rw [addD_z, if_neg hl]) m0 mf p1 p2 p3 (by rw [p27, ← d70 27 (by decide) (by decide) (by decide)]; exact g4)
  have pe : ∀ c, c ≠ 70 → c ≠ 92 → c ≠ 93 → (c < 94 ∨ 104 < c) → c ≠ 107 → c ≠ 1000 → c ≠ 1002 → c ≠ 901 → c ≠ 1100 → c ≠ 950 → c ≠ 951 → P c = E c := fun c a1 a2 a3 a4 a5 a6 a7 a8 a9 a10 a11 => by
    rw [p1 c a1 a3, mf.1 c a1 a2 a4, m0.1 c a1 a2 a5, addD_f ⟨a6, a7, a8, a9, a10, a11⟩]
  have pa : ∀ c, c ≠ 70 → c ≠ 92 → c ≠ 93 → (c < 94 ∨ 104 < c) → c ≠ 107 → P c = addD E 4 c := fun c a1 a2 a3 a4 a5 => by
    rw [p1 c a1 a3, mf.1 c a1 a2 a4, m0.1 c a1 a2 a5]
  have pz : ∀ l, P 1002 l = if l = 4 then E 1002 4 + 1 else E 1002 l := fun l => by
    rw [pa 1002 (by decide) (by decide) (by decide) (by decide) (by decide), addD_z]
  have e14 : E 1002 4 = k := by rw [xk.2.2.1 1002 (by decide) 4 (by omega)]; exact h14
  have p14 : P 1002 4 = k + 1 := by rw [pz, if_pos rfl, e14]
  have q70 : ∀ i, i ≠ 26 → i ≠ 27 → i ≠ 32 → i ≠ 30 → i ≠ 31 → i ≠ 49 → i ≠ 50 → P 70 i = D0 70 i := fun i a1 a2 a3 a4 a5 a6 a7 => by
    rw [p2 i a1 a2 a3, mf.2.1 i a2 a4 a5 a6 a7]
  have hlen : ∀ p x, p < M → w p = some x → x.2.length ≤ 1024 := fun p x hp hx => by
    have := StOk_len hT (Sts_tok hT t0 hS.2.1 p (by omega)) (by rw [← hx]; exact (hS.2.1 p hp).2.1)
    omega
  have P26 : P 70 26 = k + 1 := by rw [hP, up_eq]
  have G0 : G 70 0 = D 70 0 := by rw [mf.2.1 0 (by decide) (by decide) (by decide) (by decide) (by decide)]; exact d70 0 (by decide) (by decide) (by decide)
  have s1002 : P 1002 (8 + k) = M := by rw [pz, if_neg (by omega)]; exact xb.1
  have bn : Bok P k := by
    refine Bok_new (f := f) (B := D0 70 27) hk0 hT t0 hS.1 hS.2.1 ⟨s1002, fun p hp => ⟨Xw_cg (xb.2.1 p hp).1 (fun c c1 c2 => by rw [pe c (by omega) (by omega) (by omega) (by omega) (by omega) (by omega) (by omega) (by omega) (by omega) (by omega) (by omega)]), XCd_cg (xb.2.1 p hp).2 (by rw [pe 2605 (by decide) (by decide) (by decide) (by decide) (by decide) (by decide) (by decide) (by decide) (by decide) (by decide) (by decide)]) (by rw [pe 3200 (by decide) (by decide) (by decide) (by decide) (by decide) (by decide) (by decide) (by decide) (by decide) (by decide) (by decide)]) (fun j _ _ => by rw [pe 3201 (by decide) (by decide) (by decide) (by decide) (by decide) (by decide) (by decide) (by decide) (by decide) (by decide) (by decide)]) (fun x hx => hlen p x hp hx)⟩, HX_cg xb.2.2 (fun c c1 c2 => pe c (by omega) (by omega) (by omega) (by omega) (by omega) (by omega) (by omega) (by omega) (by omega) (by omega) (by omega)) (pe 3301 (by decide) (by decide) (by decide) (by decide) (by decide) (by decide) (by decide) (by decide) (by decide) (by decide) (by decide))⟩ ⟨?_, ?_, ?_⟩ ?_ ?_ (fun p hp => ⟨Vm_cg (g7 p hp).1 (fun c c1 c2 => by rw [p1 c (by omega) (by omega)]), fun hk => Cm_cg ((g7 p hp).2 hk) (by rw [p1 98 (by decide) (by decide)]) (fun c c1 c2 j _ => by rw [p1 c (by omega) (by omega)]) (by rw [p27]; exact Int.le_refl _)⟩)
    · rw [pe 3300 (by decide) (by decide) (by decide) (by decide) (by decide) (by decide) (by decide) (by decide) (by decide) (by decide) (by decide)]; exact xk.2.2.2.2.2.2.2.2.2.2.2.2.1
    · rw [pe 3400 (by decide) (by decide) (by decide) (by decide) (by decide) (by decide) (by decide) (by decide) (by decide) (by decide) (by decide)]; exact xk.2.2.2.2.2.2.2.2.2.2.2.2.2.1
    · rw [pe 3500 (by decide) (by decide) (by decide) (by decide) (by decide) (by decide) (by decide) (by decide) (by decide) (by decide) (by decide)]; exact xk.2.2.2.2.2.2.2.2.2.2.2.2.2.2
    · rw [p1 92 (by decide) (by decide)]; exact g3
    · rw [d70 27 (by decide) (by decide) (by decide)]; exact hrb.2.1.1
  obtain ⟨o1, o2, o3, o4⟩ := JF_rb jf ⟨hk.1, hk0⟩ hrb
  have i47 : P 47 = E 47 := pe 47 (by decide) (by decide) (by decide) (by decide) (by decide) (by decide) (by decide) (by decide) (by decide) (by decide) (by decide)
  have i28 : P 70 28 = 0 := by rw [q70 28 (by decide) (by decide) (by decide) (by decide) (by decide) (by decide) (by decide)]; exact m0.2.2.1
  refine ⟨⟨JF_iv jf hk0 ⟨⟨?_, ?_, ?_⟩, ?_, fun i i0 i1 => ?_⟩ hI.iv, ⟨⟨?_, ?_, ?_⟩, ⟨?_, ?_⟩, fun r r0 r1 => ?_, o2, o3, o4⟩⟩, ?_, ?_, ?_, ?_, ?_⟩
  · rw [i47, i28]; exact xk.2.2.2.2.2.2.2.1
  · rw [i28]; exact Int.le_refl _
  · rw [i28]; decide
  · rw [i47, e3, hP, up_i (by decide), up_c (by decide), up_eq]
  · rw [i28] at i1; omega
  · rw [p14, P26]
  · rw [P26]; omega
  · rw [P26]; omega
  · rw [p27]
    have := hrb.2.1
    have := d70 27 (by decide) (by decide) (by decide)
    omega
  · rw [p27, P26]
    have h1 := hrb.2.1
    have h2 := d70 27 (by decide) (by decide) (by decide)
    have tM := (Sts_tok hT t0 hS.2.1 M (Nat.le_refl _)).1
    have tz := t0.1
    rw [hk.1] at h1
    omega
  · rw [P26] at r1
    by_cases e : r = k
    · subst e
      refine ⟨⟨?_, ?_, ?_, ?_⟩, bn⟩
      · rw [pe 2400 (by decide) (by decide) (by decide) (by decide) (by decide) (by decide) (by decide) (by decide) (by decide) (by decide) (by decide)]; exact xk.2.2.2.2.2.2.2.2.2.2.1
      · rw [pe 2401 (by decide) (by decide) (by decide) (by decide) (by decide) (by decide) (by decide) (by decide) (by decide) (by decide) (by decide), xk.2.2.2.2.2.2.2.2.2.2.2.1, hP, up_c (by decide), up_eq, G0]; exact hct.1.1
      · rw [hP, up_c (by decide), up_eq, G0]; exact hct.1.2.1
      · rw [hP, up_c (by decide), up_eq, G0]; exact hct.1.2.2
    · exact o1 r r0 (by omega)
  · rw [pe 0 (by decide) (by decide) (by decide) (by decide) (by decide) (by decide) (by decide) (by decide) (by decide) (by decide) (by decide), x1 0 (by decide) (by decide) (by omega)]
  · rw [pe 1 (by decide) (by decide) (by decide) (by decide) (by decide) (by decide) (by decide) (by decide) (by decide) (by decide) (by decide), x1 1 (by decide) (by decide) (by omega)]
  · rw [pa 950 (by decide) (by decide) (by decide) (by decide) (by decide)]
    have := (addD_h (D := E) (l := 4) (by omega)).1
    omega
  · rw [pa 951 (by decide) (by decide) (by decide) (by decide) (by decide)]
    have := (addD_h (D := E) (l := 4) (by omega)).2
    omega
  · intro _
    have f4 : E 900 4 = 1 := by rw [xk.2.2.1 900 (by decide) 4 (by omega)]; exact hc.2.2.2.2.2.2.2.2.2.2.2.2.2.2.2.1
    refine hq_ok ⟨h14, hk0⟩ xk ?_ (fun c c1 c2 c3 => pe c (by omega) (by omega) (by omega) (by omega) (by omega) (by omega) (by omega) c3 (by omega) (by omega) (by omega)) (fun l hl => by rw [pz, if_neg hl]) p14 hH
    rw [pa 901 (by decide) (by decide) (by decide) (by decide) (by decide), pa 900 (by decide) (by decide) (by decide) (by decide) (by decide), pa 1100 (by decide) (by decide) (by decide) (by decide) (by decide)]
    exact addD_hp e9 f4
theorem ru_no (hI : Inv D) (hH : Hp D) (hk : D 70 26 = k ∧ k < 8) (xk : XK k D E) (e9 : ∀ l, E 901 l = 1 → E 900 l = 1 ∧ 0 < E 1100 l) (rm : (D 950 0 ≤ E 950 0 ∧ E 950 0 ≤ D 950 0 + 97) ∧ (D 951 0 ≤ E 951 0 ∧ E 951 0 ≤ D 951 0 + 2789)) {g : Int} (e3 : E 47 3 = g) (m0 : M0 k E D0) (mf : MF k D0 G) (hP : P = up (up G 70 32 g) 70 27 (E 70 27)) : (Inv (fgD P k) ∧ Fr D (fgD P k)) ∧ (P 1002 4 ≤ k) ∧ ∀ l, P 900 l = 1 → l ≠ 8 + k → (0 ≤ l ∧ l ≤ 5) ∨ (8 ≤ l ∧ P 1002 l ≤ 64) := by
  have hrb := hI.rb
  have hk0 : 0 ≤ k ∧ k < 8 := by have := hrb.1; omega
  have h14 : D 1002 4 = k := by have := hrb.1; omega
  have x1 := xk.1
  have p1 : ∀ c, c ≠ 70 → c ≠ 93 → P c = G c := fun c a _ => by rw [hP, up_cf a, up_cf a]
  have p2 : ∀ i, i ≠ 26 → i ≠ 27 → i ≠ 32 → P 70 i = G 70 i := fun i _ a b => by rw [hP, up_i a, up_i b]
  have p3 : ∀ i, i ≠ k → P 93 i = G 93 i := fun i _ => by rw [hP, up_c (by decide), up_c (by decide)]
  have e70 : E 70 = D 70 := x1 70 (by decide) (by decide) (by omega)
  have p27 : P 70 27 = D 70 27 := by rw [hP, up_eq, e70]
  have jf0 : JF k D P := JF_of xk (fun _ _ _ _ _ _ _ => rfl) (fun _ _ => rfl) m0 mf p1 p2 p3 (by rw [p27]; exact Int.le_refl _)
  have jf := JF_fg jf0
  have pe : ∀ c, c ≠ 70 → c ≠ 92 → c ≠ 93 → (c < 94 ∨ 104 < c) → c ≠ 107 → P c = E c := fun c a1 a2 a3 a4 a5 => by
    rw [p1 c a1 a3, mf.1 c a1 a2 a4, m0.1 c a1 a2 a5]
  have q70 : ∀ i, i ≠ 27 → i ≠ 32 → i ≠ 30 → i ≠ 31 → i ≠ 49 → i ≠ 50 → P 70 i = D0 70 i := fun i a2 a3 a4 a5 a6 a7 => by
    rw [hP, up_i a2, up_i a3, mf.2.1 i a2 a4 a5 a6 a7]
  obtain ⟨o1, o2, o3, o4⟩ := JF_rb jf ⟨hk.1, hk0⟩ hrb
  have f70 : fgD P k 70 = P 70 := fgD_c (by decide)
  have f47 : fgD P k 47 = E 47 := by rw [fgD_c (by decide)]; exact pe 47 (by decide) (by decide) (by decide) (by decide) (by decide)
  have i28 : P 70 28 = 0 := by rw [q70 28 (by decide) (by decide) (by decide) (by decide) (by decide) (by decide)]; exact m0.2.2.1
  have P26 : P 70 26 = k := by rw [q70 26 (by decide) (by decide) (by decide) (by decide) (by decide) (by decide), m0.2.1 26 (by decide) (by decide) (by decide), e70]; exact hk.1
  have p1002 : ∀ l, l ≠ 8 + k → P 1002 l = D 1002 l := fun l hl => by rw [pe 1002 (by decide) (by decide) (by decide) (by decide) (by decide)]; exact xk.2.2.1 1002 (by decide) l hl
  have p14 : P 1002 4 = k := by rw [p1002 4 (by omega)]; exact h14
  refine ⟨⟨⟨JF_iv jf hk0 ⟨⟨?_, ?_, ?_⟩, ?_, fun i i0 i1 => ?_⟩ hI.iv, ⟨⟨?_, ?_, ?_⟩, ⟨?_, ?_⟩, fun r r0 r1 => ?_, o2, o3, o4⟩⟩, ?_, ?_, ?_, ?_, ?_⟩, by omega, fun l hl hne => ?_⟩
  · rw [f47, f70, i28]; exact xk.2.2.2.2.2.2.2.1
  · rw [f70, i28]; exact Int.le_refl _
  · rw [f70, i28]; decide
  · rw [f47, f70, e3, hP, up_i (by decide), up_eq]
  · rw [f70, i28] at i1; omega
  · rw [fgD_c (by decide), f70, p14, P26]
  · rw [f70, P26]; omega
  · rw [f70, P26]; omega
  · rw [f70, p27]; exact hrb.2.1.1
  · rw [f70, p27, P26, ← hk.1]; exact hrb.2.1.2
  · rw [f70, P26] at r1
    exact o1 r r0 r1
  · rw [fgD_c (by decide), pe 0 (by decide) (by decide) (by decide) (by decide) (by decide), x1 0 (by decide) (by decide) (by omega)]
  · rw [fgD_c (by decide), pe 1 (by decide) (by decide) (by decide) (by decide) (by decide), x1 1 (by decide) (by decide) (by omega)]
  · rw [fgD_c (by decide), pe 950 (by decide) (by decide) (by decide) (by decide) (by decide)]; omega
  · rw [fgD_c (by decide), pe 951 (by decide) (by decide) (by decide) (by decide) (by decide)]; omega
  · intro _
    exact hq_fg ⟨h14, hk0⟩ xk e9 (fun c c1 c2 => pe c (by omega) (by omega) (by omega) (by omega) (by omega)) hH
  · rw [pe 900 (by decide) (by decide) (by decide) (by decide) (by decide), xk.2.2.1 900 (by decide) l hne] at hl
    rw [p1002 l hne]
    have := hH.2.2.2.2.2.2.2.1 l hl
    rcases this with z | z | z
    · exact Or.inl z
    · subst z
      refine Or.inr ⟨by decide, ?_⟩
      rw [hrb.2.2.2.2.2]; decide
    · have b := (hrb.2.2.1 (l - 8) (by omega) (by rw [← h14] at hk; omega)).2
      have b2 := b.2.1
      have b3 := b.2.2.1
      rw [show 8 + (l - 8) = l by omega] at b2
      exact Or.inr ⟨z.1, by omega⟩
theorem c_rules (hR : Rp 0 A D st) (hI : Inv D) (hH : Hp D) (hh : D 950 0 ≤ 100000000 ∧ D 951 0 ≤ 100000000) (q : Int) (h1 : rg q) : Wq 85 170 [am_i (wz q)] D st := by
  obtain ⟨F, hF, hRF⟩ := Rp_up (n := 0) (m := 2) (by decide) hR
  have hIF : Inv F := Inv_cg hF hI
  have hHF : Hp F := by
    unfold Hp
    rw [hF 900 rfl, hF 901 rfl, hF 910 rfl, hF 911 rfl, hF 912 rfl, hF 913 rfl, hF 914 rfl, hF 915 rfl, hF 916 rfl, hF 920 rfl, hF 921 rfl, hF 922 rfl, hF 923 rfl, hF 924 rfl, hF 925 rfl, hF 1002 rfl, hF 1100 rfl]
    exact hH
  have hhF : F 950 0 ≤ 100000000 ∧ F 951 0 ≤ 100000000 := by rw [hF 950 rfl, hF 951 rfl]; exact hh
  have frF : ∀ {Q : aD}, Fr F Q → Fr D Q := by
    intro Q h
    unfold Fr at h ⊢
    rw [hF 0 rfl, hF 1 rfl, hF 900 rfl, hF 901 rfl, hF 910 rfl, hF 911 rfl, hF 912 rfl, hF 913 rfl, hF 914 rfl, hF 915 rfl, hF 916 rfl, hF 920 rfl, hF 921 rfl, hF 922 rfl, hF 923 rfl, hF 924 rfl, hF 925 rfl, hF 1002 rfl, hF 1100 rfl, hF 950 rfl, hF 951 rfl] at h
    exact h
  have htp := hIF.iv.tp
  unfold I_tp at htp
  have htp1 := htp.1
  have hrb := hIF.rb.1
  have fin : ∀ {A2 : aA} {Q : aD} {s2 : am_S}, Rp 2 A2 Q s2 → Rp 0 A2 Q s2 := fun h => Rp_dn (by decide) (fun _ _ => rfl) (Rp2.mp h).1 h
  by_cases hq : 0 ≤ q ∧ q ≤ F 70 28
  · by_cases h8 : F 70 26 < 8
    · have hT : Txt (F 48) q := ⟨⟨hq.1, by omega⟩, fun i i0 i1 => by
        have := htp.2.2 i i0 (by omega)
        rw [this.1]; exact this.2⟩
      obtain ⟨M, s, w, f, o, hs, hS⟩ := Sts_ex hT (tS_tok (T := F 48) hq.1)
      obtain ⟨A1, E, xk, e9, rm, eo, eg⟩ := xr_run (A := A) hIF hHF hhF hq ⟨rfl, h8⟩ hT hs hS
      have x1 := xk.1
      have e70 : E 70 = F 70 := x1 70 (by decide) (by decide) (by omega)
      have e106 : E 106 = F 106 := x1 106 (by decide) (by decide) (by omega)
      have h27 := hIF.rb.2.1
      cases o with
      | none =>
        obtain ⟨ev, e3, xb⟩ := eo rfl
        obtain ⟨D0, x, P, em, m0, mfin, _⟩ := ev_mr (n := 1) (A := addA A1 E 4) (D := addD E 4) (T := F 48) (N := q) (r := F 70 26) (s := s) (w := w) (f := f) (M := M) (o := none) hT (by rw [addD_f (by decide), e70]; exact hq.2) (fun i i0 i1 => by rw [addD_f (by decide), e106]; exact (htp.2.2 i i0 (by omega)).1) ⟨by rw [addD_f (by decide), e70], by omega, h8⟩ (by rw [addD_f (by decide), e70]; omega) hs hS
        obtain ⟨hx, G, ml, hP⟩ := mfin rfl
        subst hx
        obtain ⟨r1, s1, y1, ⟨rfl, _⟩, y3⟩ := ev 200 (by decide) st hRF
        obtain ⟨r2, s2, z1, ⟨rfl, _⟩, z3⟩ := em 200 (by decide) s1 y3
        obtain ⟨i1, i2⟩ := ru_ok hIF hHF (Rp_cl hRF) ⟨rfl, h8⟩ ⟨hq.1, by omega⟩ hT hs hS xk e9 rm e3 xb m0 ml hP
        exact ⟨_, s1, s2, _, P, y1, is_st y3 rfl rfl, z1, fin z3, i1, frF i2⟩
      | some g =>
        obtain ⟨ev, e3⟩ := eg g rfl
        obtain ⟨D0, x, P, em, m0, _, mfin⟩ := ev_mr (n := 1) (A := A1) (D := E) (T := F 48) (N := q) (r := F 70 26) (s := s) (w := w) (f := f) (M := M) (o := some g) hT (by rw [e70]; exact hq.2) (fun i i0 i1 => by rw [e106]; exact (htp.2.2 i i0 (by omega)).1) ⟨by rw [e70], by omega, h8⟩ (by rw [e70]; omega) hs hS
        obtain ⟨hx, G, mf, hP⟩ := mfin g rfl
        subst hx
        obtain ⟨r1, s1, y1, ⟨rfl, _⟩, y3⟩ := ev 200 (by decide) st hRF
        obtain ⟨r2, s2, z1, ⟨rfl, _⟩, z3⟩ := em 200 (by decide) s1 y3
        obtain ⟨⟨i1, i2⟩, i3, i4⟩ := ru_no hIF hHF ⟨rfl, h8⟩ xk e9 rm e3 m0 mf hP
        have z4 := Rp2.mp z3
        exact ⟨_, s1, s2, _, fgD P (F 70 26), y1, is_st y3 rfl rfl, z1, fin (Rp2.mpr ⟨rg_fg z4.1, Rp0_fg ⟨by omega, h8⟩ i3 i4 z4.2⟩), i1, frF i2⟩
    · have e1 : Ev 2 32 85 [am_r (some 32), am_i (wz q)] A F (ri (-3)) A F := by
        refine rl_X11_rules (n := 2) (c := 31) (by decide) q h1 ?_
        rw [if_neg (by omega), if_pos (by omega), if_neg (by omega)]; exact ⟨rfl, rfl, rfl⟩
      have e2 : Ev 2 40 170 [am_r (some 70), am_i (wz q)] A F (ri (-3)) A F := by
        refine rl_X12_rules (n := 1) (c := 39) (by decide) q h1 ?_
        have hi : v_X12_isIn F q 0 (F 70 28) = 1 := by
          unfold v_X12_isIn
          rw [if_neg (by omega), if_neg (by omega)]
        rw [hi, if_neg (by decide), if_pos (by omega)]; exact ⟨rfl, rfl⟩
      obtain ⟨r1, s1, y1, ⟨rfl, _⟩, y3⟩ := e1 200 (by decide) st hRF
      obtain ⟨r2, s2, z1, ⟨rfl, _⟩, z3⟩ := e2 200 (by decide) s1 y3
      exact ⟨_, s1, s2, _, F, y1, is_st y3 rfl rfl, z1, fin z3, hIF, frF ⟨rfl, rfl, by omega, by omega, id⟩⟩
  · have e1 : Ev 2 32 85 [am_r (some 32), am_i (wz q)] A F (ri (-2)) A F := by
      refine rl_X11_rules (n := 2) (c := 31) (by decide) q h1 ?_
      by_cases z : q < 0
      · rw [if_pos z]; exact ⟨rfl, rfl, rfl⟩
      · rw [if_neg z, if_neg (by omega)]; exact ⟨rfl, rfl, rfl⟩
    have e2 : Ev 2 40 170 [am_r (some 70), am_i (wz q)] A F (ri (-2)) A F := by
      refine rl_X12_rules (n := 1) (c := 39) (by decide) q h1 ?_
      have hi : v_X12_isIn F q 0 (F 70 28) = 0 := by
        unfold v_X12_isIn
        by_cases z : q < 0
        · rw [if_pos z]
        · rw [if_neg z, if_pos (by omega)]
      rw [hi, if_pos rfl]; exact ⟨rfl, rfl⟩
    obtain ⟨r1, s1, y1, ⟨rfl, _⟩, y3⟩ := e1 200 (by decide) st hRF
    obtain ⟨r2, s2, z1, ⟨rfl, _⟩, z3⟩ := e2 200 (by decide) s1 y3
    exact ⟨_, s1, s2, _, F, y1, is_st y3 rfl rfl, z1, fin z3, hIF, frF ⟨rfl, rfl, by omega, by omega, id⟩⟩
end Cr2
