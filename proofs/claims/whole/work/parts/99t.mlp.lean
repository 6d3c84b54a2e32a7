/-! readInto; and the reference's loop over statements. -/
section Mlp
variable {n : Nat} {A A' : aA} {D D' E D0 : aD} {T : Int → Int} {N a b e g k : Int} {s f : Nat → Int} {w : Nat → Option Itm} {M : Nat} {o : Option Int} {r : Int}
theorem tS_tok (h : 0 ≤ N) : Tok T N (tS T N 0) := by
  have hb := tS_b (T := T) (N := N) (a := 0) h
  exact ⟨⟨by omega, hb.2⟩, tS_tS h⟩
theorem ev_ri {q : Int} (hT : Txt (D 48) q) (hq : 0 ≤ q ∧ q ≤ D 47 2) (h0 : CL0 k (u_adv (riD D q))) (hz : D 1002 (8 + k) = 0) (h9 : ∀ l, D 901 l = 1 → D 900 l = 1 ∧ 0 < D 1100 l) (hX : HX (D 48) q s k 0 D) (hs : s 0 = tS (D 48) q 0) (hS : Sts (D 48) q M s w f o) : ∃ x A' D', Ev (n + 1) 30 42 [am_r (some 47), am_r (some (A 14 k)), am_i (wz q)] A D (ri x) A' D' ∧ A' 14 k = A 14 k ∧ Cfin (D 48) q s w M o k (u_adv (riD D q)) x D' := by
  obtain ⟨x1, x2⟩ := riD_x (D := D) hT.1.1
  have hN := hT.1
  have tz : Tok (D 48) q (s 0) := by rw [hs]; exact tS_tok hN.1
  have ek : ∀ c, 50 ≤ c → u_adv (riD D q) c = D c := fun c hc => by
    rw [x2.1 c (by omega) (by omega)]
    unfold riD
    rw [up_cf (by omega), up_cf (by omega), up_cf (by omega), up_cf (by omega)]
  have hcl : CL (D 48) q s w k (u_adv (riD D q)) 0 (u_adv (riD D q)) := by
    refine ⟨by rw [hs]; exact x1, by rw [ek 1002 (by decide)]; exact hz, ?_, LF.refl _ _, ⟨⟨by omega, by omega⟩, by omega, by show _ ≤ _ + 0 + _; omega⟩, fun p hp => absurd hp (by omega), HX_cg hX (fun c c1 c2 => ek c (by omega)) (ek 3301 (by decide)), fun i _ => rfl⟩
    rw [ek 901 (by decide), ek 900 (by decide), ek 1100 (by decide)]; exact h9
  obtain ⟨x, A', D', l1, l2, l3⟩ := cl_loop (n := n) hT h0 hS tz M 0 A (u_adv (riD D q)) (by omega) hcl
  have f1 : D 914 k = 1 := by rw [← ek 914 (by decide)]; exact h0.2.1
  have hmm : max 0 (min q (D 47 2)) = q := by omega
  refine ⟨x, A', D', rl_X6_readInto (n := n + 1) (c := 29) (by decide) k q f1 (rgb (by omega) (by omega)) ⟨?_, ?_⟩, l2, l3⟩
  · rw [hmm]
    show p_adv (riD D q)
    unfold p_adv bys riD
    refine ⟨⟨by rw [up_eq]; exact Int.le_refl _, ?_, ?_⟩, fun i i0 i1 => ?_⟩
    · rw [up_eq, up_i (by decide), up_i (by decide), up_i (by decide), up_eq]; omega
    · rw [up_i (by decide), up_i (by decide), up_i (by decide), up_eq]; omega
    · rw [up_i (by decide), up_i (by decide), up_i (by decide), up_eq] at i1
      rw [up_cf (by decide), up_cf (by decide), up_cf (by decide), up_cf (by decide)]
      exact hT.2 i i0 i1
  · rw [hmm]; exact l1
abbrev P_X12_rules : Nat → Option am_E := am_fy tb_X12_rules
def K_X12_rules_29 (n : Nat) (c : Nat) (A : aA) (D : aD) (a1 : Int) (a2 : Int) (x : Int) (D' : aD) : Prop := Lp n c P_X12_rules 29 [some (am_r (some 70)), some (am_i (wz a1)), some (am_i (wz a2)), none] [] A D (ri x) A D'
def K_X12_rules_88 (n : Nat) (c : Nat) (A : aA) (D : aD) (a2 : Int) (a3 : Int) (x : Int) (D' : aD) : Prop := Lp n c P_X12_rules 88 [some (am_r (some 70)), none, some (am_i (wz a2)), some (am_i (wz a3))] [] A D (ri x) A D'
set_option maxRecDepth 100000 in
theorem rl_X12_rules {n : Nat} {A : aA} {D D' : aD} {c : Nat} (hc : 1 ≤ c) (a1 : Int) (h1 : rg a1) {x : Int} (hp : (if v_X12_isIn D a1 0 (D 70 28) = 0 then (x = (-2) ∧ D' = D) else (if D 70 26 = 8 then (x = (-3) ∧ D' = D) else K_X12_rules_29 (n + 1) c A D a1 0 x D'))) : Ev (n + 1) (c + 1) 170 [am_r (some 70), am_i (wz a1)] A D (ri x) A D' := by
  refine Ev_of (c := c) (P := P_X12_rules) (lo := [some (am_r (some 70)), some (am_i (wz a1)), none, none]) rfl rfl rfl (fun d hd s hr => ?_)
  refine ok (m_iload_n (q := 1) rfl rfl rfl rfl) ?_
  refine ok (m_iconst (q := 2) rfl rfl rfl) ?_
  refine ok (m_aload_n (q := 3) rfl rfl rfl rfl) ?_
  refine ok (m_gfs (z := 28) (q := 6) rfl rfl rfl hr rfl rfl rfl rfl rfl) ?_
  refine oke (e_ci (x_cs (q := 9) rfl rfl rfl rfl rfl rfl rfl rfl rfl) (ev_X12_isIn (D := D) a1 0 (D 70 28) h1 ⟨by decide, by decide⟩ (Rp_rg hr 70 28)) (Nat.le_trans (by decide) (Nat.le_trans hc hd)) hr) (fun s1 r2 => ?_)
  refine okc (m_ifne (qt := 15) (qf := 12) rfl rfl (Ev_rg (ev_X12_isIn (D := D) a1 0 (D 70 28) h1 ⟨by decide, by decide⟩ (Rp_rg hr 70 28)) hr) rfl rfl) (fun c3 => ?_) (fun c3 => ?_)
  · replace hp := ip c3 hp
    refine ok (m_bipush (q := 14) rfl rfl rfl) ?_
    exact ok (m_reti rfl rfl) (ok_iq r2 ⟨by decide, by decide⟩ hp)
  · replace hp := iq c3 hp
    refine ok (m_aload_n (q := 16) rfl rfl rfl rfl) ?_
    refine ok (m_gfs (z := 26) (q := 19) rfl rfl rfl r2 rfl rfl rfl rfl rfl) ?_
    refine ok (m_bipush (q := 21) rfl rfl rfl) ?_
    refine okc (m_cmpne (qt := 27) (qf := 24) rfl rfl (Rp_rg r2 70 26) ⟨by decide, by decide⟩ rfl rfl) (fun c4 => ?_) (fun c4 => ?_)
    · replace hp := ip c4 hp
      refine ok (m_bipush (q := 26) rfl rfl rfl) ?_
      exact ok (m_reti rfl rfl) (ok_iq r2 ⟨by decide, by decide⟩ hp)
    · replace hp := iq c4 hp
      refine ok (m_iconst (q := 28) rfl rfl rfl) ?_
      refine ok (m_istore_n (q := 29) (lo' := [some (am_r (some 70)), some (am_i (wz a1)), some (am_i (wz 0)), none]) rfl rfl rfl rfl rfl) ?_
      exact hp d hd _ r2
set_option maxRecDepth 100000 in
theorem rl_X12_rules_29 {n : Nat} {A : aA} {D D' : aD} {c : Nat} (hc : 1 ≤ c) (a1 : Int) (a2 : Int) (h1 : rg a1) (h2 : rg a2) {x : Int} (hp : (if a1 ≤ a2 then (0 ≤ D 70 26 ∧ D 70 26 < 9) ∧ (p_blk (up (up (up (up D 70 29 a1) 70 28 0) 70 30 0) 92 (D 70 26) 0)) ∧ K_X12_rules_88 (n + 1) c A (u_blk (up (up (up (up D 70 29 a1) 70 28 0) 70 30 0) 92 (D 70 26) 0)) (D 70 27) 1 x D' else (0 ≤ a2 ∧ a2 < 700) ∧ (-128 ≤ D 106 a2 ∧ D 106 a2 ≤ 127) ∧ K_X12_rules_29 (n + 1) c A (up D 107 a2 (D 106 a2)) a1 (wr (a2 + 1)) x D')) : K_X12_rules_29 (n + 1) c A D a1 a2 x D' := by
  unfold K_X12_rules_29
  refine fun d hd s hr => ?_
  refine ok (m_iload_n (q := 30) rfl rfl rfl rfl) ?_
  refine ok (m_iload_n (q := 31) rfl rfl rfl rfl) ?_
  refine okc (m_cmpge (qt := 52) (qf := 34) rfl rfl h2 h1 rfl rfl) (fun c5 => ?_) (fun c5 => ?_)
  · replace hp := ip c5 hp
    refine ok (m_aload_n (q := 53) rfl rfl rfl rfl) ?_
    refine ok (m_iload_n (q := 54) rfl rfl rfl rfl) ?_
    refine oke (e_pfs (q := 57) rfl rfl rfl hr rfl rfl rfl rfl h1) (fun s7 r6 => ?_)
    refine ok (m_aload_n (q := 58) rfl rfl rfl rfl) ?_
    refine ok (m_iconst (q := 59) rfl rfl rfl) ?_
    refine oke (e_pfs (q := 62) rfl rfl rfl r6 rfl rfl rfl rfl ⟨by decide, by decide⟩) (fun s9 r8 => ?_)
    refine ok (m_aload_n (q := 63) rfl rfl rfl rfl) ?_
    refine ok (m_iconst (q := 64) rfl rfl rfl) ?_
    refine oke (e_pfs (q := 67) rfl rfl rfl r8 rfl rfl rfl rfl ⟨by decide, by decide⟩) (fun s11 r10 => ?_)
    refine ok (m_aload_n (q := 68) rfl rfl rfl rfl) ?_
    refine ok (m_gfs (z := 27) (q := 71) (w := D 70 27) rfl rfl rfl r10 rfl rfl rfl rfl rfl) ?_
    refine ok (m_istore_n (q := 72) (lo' := [some (am_r (some 70)), some (am_i (wz a1)), some (am_i (wz (D 70 27))), none]) rfl rfl rfl rfl rfl) ?_
    refine ok (m_aload_n (q := 73) rfl rfl rfl rfl) ?_
    refine ok (m_gfc (q := 76) rfl rfl rfl r10 rfl rfl rfl) ?_
    refine ok (m_aload_n (q := 77) rfl rfl rfl rfl) ?_
    refine ok (m_gfs (z := 26) (q := 80) (w := D 70 26) rfl rfl rfl r10 rfl rfl rfl rfl rfl) ?_
    refine ok (m_iconst (q := 81) rfl rfl rfl) ?_
    obtain ⟨g14, hp⟩ := hp
    refine oke (e_ias (q := 82) rfl rfl rfl r10 rfl rfl g14 ⟨by decide, by decide⟩) (fun s13 r12 => ?_)
    refine ok (m_iconst (q := 83) rfl rfl rfl) ?_
    refine ok (m_istore_n (q := 84) (lo' := [some (am_r (some 70)), some (am_i (wz a1)), some (am_i (wz (D 70 27))), some (am_i (wz 1))]) rfl rfl rfl rfl rfl) ?_
    refine ok (m_aload_n (q := 85) rfl rfl rfl rfl) ?_
    obtain ⟨g17, hp⟩ := hp
    refine oke (e_cvd (x_cv (q := 88) rfl rfl rfl rfl rfl rfl rfl rfl rfl rfl (is_st r12 rfl rfl)) (ev_X12_blanks (D := (up (up (up (up D 70 29 a1) 70 28 0) 70 30 0) 92 (D 70 26) 0)) g17) (Nat.le_trans (by decide) (Nat.le_trans hc hd)) r12) (fun s15 r16 => ?_)
    refine ok (mk rfl (lo' := [some (am_r (some 70)), none, some (am_i (wz (D 70 27))), some (am_i (wz 1))]) rfl) ?_
    exact hp d hd _ r16
  · replace hp := iq c5 hp
    refine ok (m_aload_n (q := 35) rfl rfl rfl rfl) ?_
    refine ok (m_gfc (q := 38) rfl rfl rfl hr rfl rfl rfl) ?_
    refine ok (m_iload_n (q := 39) rfl rfl rfl rfl) ?_
    refine ok (m_aload_n (q := 40) rfl rfl rfl rfl) ?_
    refine ok (m_gfc (q := 43) rfl rfl rfl hr rfl rfl rfl) ?_
    refine ok (m_iload_n (q := 44) rfl rfl rfl rfl) ?_
    obtain ⟨g18, hp⟩ := hp
    refine ok (m_bals (q := 45) rfl rfl rfl hr rfl rfl g18 rfl) ?_
    obtain ⟨g18b, hp⟩ := hp
    refine oke (e_bas (q := 46) rfl rfl rfl hr rfl rfl g18 (Rp_rg hr 106 a2) (nar_1 g18b.1 g18b.2)) (fun s20 r19 => ?_)
    refine ok (m_iinc (q := 49) (lo' := [some (am_r (some 70)), some (am_i (wz a1)), some (am_i (wz (wr (a2 + 1)))), none]) rfl rfl rfl rfl rfl rfl rfl) ?_
    refine ok (m_goto (q := 29) rfl rfl rfl) ?_
    exact hp d hd _ r19
set_option maxRecDepth 100000 in
theorem rl_X12_rules_88 {n : Nat} {A : aA} {D D' : aD} {c : Nat} (hc : 1 ≤ c) (a2 : Int) (a3 : Int) (h2 : rg a2) (h3 : rg a3) (b3 : 0 ≤ a3 ∧ a3 ≤ 1) {x : Int} (hp : (if a3 = 0 then (if a3 = 0 then (if a3 = 0 then (x = (-1) ∧ D' = (up (up D 70 32 (D 70 30)) 70 27 a2)) else (0 ≤ D 70 26 ∧ D 70 26 < 9) ∧ (x = wr ((wr ((D 70 26) + 1)) - 1) ∧ D' = (up (up (up D 70 32 (D 70 30)) 93 (D 70 26) (D 70 0)) 70 26 (wr ((D 70 26) + 1))))) else (if a3 = 0 then (x = (-1) ∧ D' = (up (up D 70 32 (-1)) 70 27 a2)) else (0 ≤ D 70 26 ∧ D 70 26 < 9) ∧ (x = wr ((wr ((D 70 26) + 1)) - 1) ∧ D' = (up (up (up D 70 32 (-1)) 93 (D 70 26) (D 70 0)) 70 26 (wr ((D 70 26) + 1)))))) else (if D 70 29 ≤ D 70 30 then (if a3 = 0 then (if a3 = 0 then (x = (-1) ∧ D' = (up (up D 70 32 (D 70 30)) 70 27 a2)) else (0 ≤ D 70 26 ∧ D 70 26 < 9) ∧ (x = wr ((wr ((D 70 26) + 1)) - 1) ∧ D' = (up (up (up D 70 32 (D 70 30)) 93 (D 70 26) (D 70 0)) 70 26 (wr ((D 70 26) + 1))))) else (if a3 = 0 then (x = (-1) ∧ D' = (up (up D 70 32 (-1)) 70 27 a2)) else (0 ≤ D 70 26 ∧ D 70 26 < 9) ∧ (x = wr ((wr ((D 70 26) + 1)) - 1) ∧ D' = (up (up (up D 70 32 (-1)) 93 (D 70 26) (D 70 0)) 70 26 (wr ((D 70 26) + 1)))))) else (0 ≤ D 70 26 ∧ D 70 26 < 9) ∧ (if 30 ≤ D 92 (D 70 26) then K_X12_rules_88 (n + 1) c A D a2 0 x D' else (∃ x69 : Int, ∃ D70 : aD, (Ev (n + 1) c 169 [am_r (some 70), am_i (wz (wr ((wr (30 * (D 70 26))) + (D 92 (D 70 26)))))] A D (ri x69) A D70 ∧ 0 ≤ x69 ∧ x69 ≤ 1) ∧ (if x69 = 0 then K_X12_rules_88 (n + 1) c A D70 a2 0 x D' else (0 ≤ D70 70 26 ∧ D70 70 26 < 9) ∧ (p_blk (up D70 92 (D70 70 26) (wr ((D70 92 (D70 70 26)) + 1)))) ∧ K_X12_rules_88 (n + 1) c A (u_blk (up D70 92 (D70 70 26) (wr ((D70 92 (D70 70 26)) + 1)))) a2 1 x D')))))) : K_X12_rules_88 (n + 1) c A D a2 a3 x D' := by
  unfold K_X12_rules_88
  refine fun d hd s hr => ?_
  refine ok (m_iload_n (q := 89) rfl rfl rfl rfl) ?_
  refine okc (m_ifeq (qt := 174) (qf := 92) rfl rfl h3 rfl rfl) (fun c21 => ?_) (fun c21 => ?_)
  · replace hp := ip c21 hp
    refine ok (m_aload_n (q := 175) rfl rfl rfl rfl) ?_
    refine ok (m_iload_n (q := 176) rfl rfl rfl rfl) ?_
    refine okc (m_ifeq (qt := 183) (qf := 179) rfl rfl h3 rfl rfl) (fun c22 => ?_) (fun c22 => ?_)
    · replace hp := ip c22 hp
      refine ok (m_aload_n (q := 184) rfl rfl rfl rfl) ?_
      refine ok (m_gfs (z := 30) (q := 187) rfl rfl rfl hr rfl rfl rfl rfl rfl) ?_
      refine oke (e_pfs (q := 190) rfl rfl rfl hr rfl rfl rfl rfl (Rp_rg hr 70 30)) (fun s24 r23 => ?_)
      refine ok (m_iload_n (q := 191) rfl rfl rfl rfl) ?_
      refine okc (m_ifne (qt := 201) (qf := 194) rfl rfl h3 rfl rfl) (fun c25 => ?_) (fun c25 => ?_)
      · replace hp := ip c25 hp
        refine ok (m_aload_n (q := 195) rfl rfl rfl rfl) ?_
        refine ok (m_iload_n (q := 196) rfl rfl rfl rfl) ?_
        refine oke (e_pfs (q := 199) rfl rfl rfl r23 rfl rfl rfl rfl h2) (fun s27 r26 => ?_)
        refine ok (m_iconst (q := 200) rfl rfl rfl) ?_
        exact ok (m_reti rfl rfl) (ok_iq r26 ⟨by decide, by decide⟩ hp)
      · replace hp := iq c25 hp
        refine ok (m_aload_n (q := 202) rfl rfl rfl rfl) ?_
        refine ok (m_gfc (q := 205) rfl rfl rfl r23 rfl rfl rfl) ?_
        refine ok (m_aload_n (q := 206) rfl rfl rfl rfl) ?_
        refine ok (m_gfs (z := 26) (q := 209) (w := D 70 26) rfl rfl rfl r23 rfl rfl rfl rfl rfl) ?_
        refine ok (m_aload_n (q := 210) rfl rfl rfl rfl) ?_
        refine ok (m_gfs (z := 0) (q := 213) (w := D 70 0) rfl rfl rfl r23 rfl rfl rfl rfl rfl) ?_
        obtain ⟨g30, hp⟩ := hp
        refine oke (e_ias (q := 214) rfl rfl rfl r23 rfl rfl g30 (show rg (D 70 0) from Rp_rg r23 70 0)) (fun s29 r28 => ?_)
        refine ok (m_aload_n (q := 215) rfl rfl rfl rfl) ?_
        refine ok (m_dup (q := 216) rfl rfl rfl rfl) ?_
        refine ok (m_gfs (z := 26) (q := 219) (w := D 70 26) rfl rfl rfl r28 rfl rfl rfl rfl rfl) ?_
        refine ok (m_iconst (q := 220) rfl rfl rfl) ?_
        refine ok (m_iadd (q := 221) rfl rfl rfl) ?_
        refine oke (e_pfs (q := 224) rfl rfl rfl r28 rfl rfl rfl rfl (rg_wr _)) (fun s32 r31 => ?_)
        refine ok (m_aload_n (q := 225) rfl rfl rfl rfl) ?_
        refine ok (m_gfs (z := 26) (q := 228) (w := wr ((D 70 26) + 1)) rfl rfl rfl r31 rfl rfl rfl rfl up_eq) ?_
        refine ok (m_iconst (q := 229) rfl rfl rfl) ?_
        refine ok (m_isub (q := 230) rfl rfl rfl) ?_
        exact ok (m_reti rfl rfl) (ok_iq r31 (rg_wr _) hp)
    · replace hp := iq c22 hp
      refine ok (m_iconst (q := 180) rfl rfl rfl) ?_
      refine ok (m_goto (q := 187) rfl rfl rfl) ?_
      refine oke (e_pfs (q := 190) rfl rfl rfl hr rfl rfl rfl rfl ⟨by decide, by decide⟩) (fun s34 r33 => ?_)
      refine ok (m_iload_n (q := 191) rfl rfl rfl rfl) ?_
      refine okc (m_ifne (qt := 201) (qf := 194) rfl rfl h3 rfl rfl) (fun c35 => ?_) (fun c35 => ?_)
      · replace hp := ip c35 hp
        refine ok (m_aload_n (q := 195) rfl rfl rfl rfl) ?_
        refine ok (m_iload_n (q := 196) rfl rfl rfl rfl) ?_
        refine oke (e_pfs (q := 199) rfl rfl rfl r33 rfl rfl rfl rfl h2) (fun s37 r36 => ?_)
        refine ok (m_iconst (q := 200) rfl rfl rfl) ?_
        exact ok (m_reti rfl rfl) (ok_iq r36 ⟨by decide, by decide⟩ hp)
      · replace hp := iq c35 hp
        refine ok (m_aload_n (q := 202) rfl rfl rfl rfl) ?_
        refine ok (m_gfc (q := 205) rfl rfl rfl r33 rfl rfl rfl) ?_
        refine ok (m_aload_n (q := 206) rfl rfl rfl rfl) ?_
        refine ok (m_gfs (z := 26) (q := 209) (w := D 70 26) rfl rfl rfl r33 rfl rfl rfl rfl rfl) ?_
        refine ok (m_aload_n (q := 210) rfl rfl rfl rfl) ?_
        refine ok (m_gfs (z := 0) (q := 213) (w := D 70 0) rfl rfl rfl r33 rfl rfl rfl rfl rfl) ?_
        obtain ⟨g40, hp⟩ := hp
        refine oke (e_ias (q := 214) rfl rfl rfl r33 rfl rfl g40 (show rg (D 70 0) from Rp_rg r33 70 0)) (fun s39 r38 => ?_)
        refine ok (m_aload_n (q := 215) rfl rfl rfl rfl) ?_
        refine ok (m_dup (q := 216) rfl rfl rfl rfl) ?_
        refine ok (m_gfs (z := 26) (q := 219) (w := D 70 26) rfl rfl rfl r38 rfl rfl rfl rfl rfl) ?_
        refine ok (m_iconst (q := 220) rfl rfl rfl) ?_
        refine ok (m_iadd (q := 221) rfl rfl rfl) ?_
        refine oke (e_pfs (q := 224) rfl rfl rfl r38 rfl rfl rfl rfl (rg_wr _)) (fun s42 r41 => ?_)
        refine ok (m_aload_n (q := 225) rfl rfl rfl rfl) ?_
        refine ok (m_gfs (z := 26) (q := 228) (w := wr ((D 70 26) + 1)) rfl rfl rfl r41 rfl rfl rfl rfl up_eq) ?_
        refine ok (m_iconst (q := 229) rfl rfl rfl) ?_
        refine ok (m_isub (q := 230) rfl rfl rfl) ?_
        exact ok (m_reti rfl rfl) (ok_iq r41 (rg_wr _) hp)
  · replace hp := iq c21 hp
    refine ok (m_aload_n (q := 93) rfl rfl rfl rfl) ?_
    refine ok (m_gfs (z := 30) (q := 96) rfl rfl rfl hr rfl rfl rfl rfl rfl) ?_
    refine ok (m_aload_n (q := 97) rfl rfl rfl rfl) ?_
    refine ok (m_gfs (z := 29) (q := 100) rfl rfl rfl hr rfl rfl rfl rfl rfl) ?_
    refine okc (m_cmpge (qt := 174) (qf := 103) rfl rfl (Rp_rg hr 70 30) (Rp_rg hr 70 29) rfl rfl) (fun c43 => ?_) (fun c43 => ?_)
    · replace hp := ip c43 hp
      refine ok (m_aload_n (q := 175) rfl rfl rfl rfl) ?_
      refine ok (m_iload_n (q := 176) rfl rfl rfl rfl) ?_
      refine okc (m_ifeq (qt := 183) (qf := 179) rfl rfl h3 rfl rfl) (fun c44 => ?_) (fun c44 => ?_)
      · replace hp := ip c44 hp
        refine ok (m_aload_n (q := 184) rfl rfl rfl rfl) ?_
        refine ok (m_gfs (z := 30) (q := 187) rfl rfl rfl hr rfl rfl rfl rfl rfl) ?_
        refine oke (e_pfs (q := 190) rfl rfl rfl hr rfl rfl rfl rfl (Rp_rg hr 70 30)) (fun s46 r45 => ?_)
        refine ok (m_iload_n (q := 191) rfl rfl rfl rfl) ?_
        refine okc (m_ifne (qt := 201) (qf := 194) rfl rfl h3 rfl rfl) (fun c47 => ?_) (fun c47 => ?_)
        · replace hp := ip c47 hp
          refine ok (m_aload_n (q := 195) rfl rfl rfl rfl) ?_
          refine ok (m_iload_n (q := 196) rfl rfl rfl rfl) ?_
          refine oke (e_pfs (q := 199) rfl rfl rfl r45 rfl rfl rfl rfl h2) (fun s49 r48 => ?_)
          refine ok (m_iconst (q := 200) rfl rfl rfl) ?_
          exact ok (m_reti rfl rfl) (ok_iq r48 ⟨by decide, by decide⟩ hp)
        · replace hp := iq c47 hp
          refine ok (m_aload_n (q := 202) rfl rfl rfl rfl) ?_
          refine ok (m_gfc (q := 205) rfl rfl rfl r45 rfl rfl rfl) ?_
          refine ok (m_aload_n (q := 206) rfl rfl rfl rfl) ?_
          refine ok (m_gfs (z := 26) (q := 209) (w := D 70 26) rfl rfl rfl r45 rfl rfl rfl rfl rfl) ?_
          refine ok (m_aload_n (q := 210) rfl rfl rfl rfl) ?_
          refine ok (m_gfs (z := 0) (q := 213) (w := D 70 0) rfl rfl rfl r45 rfl rfl rfl rfl rfl) ?_
          obtain ⟨g52, hp⟩ := hp
          refine oke (e_ias (q := 214) rfl rfl rfl r45 rfl rfl g52 (show rg (D 70 0) from Rp_rg r45 70 0)) (fun s51 r50 => ?_)
          refine ok (m_aload_n (q := 215) rfl rfl rfl rfl) ?_
          refine ok (m_dup (q := 216) rfl rfl rfl rfl) ?_
          refine ok (m_gfs (z := 26) (q := 219) (w := D 70 26) rfl rfl rfl r50 rfl rfl rfl rfl rfl) ?_
          refine ok (m_iconst (q := 220) rfl rfl rfl) ?_
          refine ok (m_iadd (q := 221) rfl rfl rfl) ?_
          refine oke (e_pfs (q := 224) rfl rfl rfl r50 rfl rfl rfl rfl (rg_wr _)) (fun s54 r53 => ?_)
          refine ok (m_aload_n (q := 225) rfl rfl rfl rfl) ?_
          refine ok (m_gfs (z := 26) (q := 228) (w := wr ((D 70 26) + 1)) rfl rfl rfl r53 rfl rfl rfl rfl up_eq) ?_
          refine ok (m_iconst (q := 229) rfl rfl rfl) ?_
          refine ok (m_isub (q := 230) rfl rfl rfl) ?_
          exact ok (m_reti rfl rfl) (ok_iq r53 (rg_wr _) hp)
      · replace hp := iq c44 hp
        refine ok (m_iconst (q := 180) rfl rfl rfl) ?_
        refine ok (m_goto (q := 187) rfl rfl rfl) ?_
        refine oke (e_pfs (q := 190) rfl rfl rfl hr rfl rfl rfl rfl ⟨by decide, by decide⟩) (fun s56 r55 => ?_)
        refine ok (m_iload_n (q := 191) rfl rfl rfl rfl) ?_
        refine okc (m_ifne (qt := 201) (qf := 194) rfl rfl h3 rfl rfl) (fun c57 => ?_) (fun c57 => ?_)
        · replace hp := ip c57 hp
          refine ok (m_aload_n (q := 195) rfl rfl rfl rfl) ?_
          refine ok (m_iload_n (q := 196) rfl rfl rfl rfl) ?_
          refine oke (e_pfs (q := 199) rfl rfl rfl r55 rfl rfl rfl rfl h2) (fun s59 r58 => ?_)
          refine ok (m_iconst (q := 200) rfl rfl rfl) ?_
          exact ok (m_reti rfl rfl) (ok_iq r58 ⟨by decide, by decide⟩ hp)
        · replace hp := iq c57 hp
          refine ok (m_aload_n (q := 202) rfl rfl rfl rfl) ?_
          refine ok (m_gfc (q := 205) rfl rfl rfl r55 rfl rfl rfl) ?_
          refine ok (m_aload_n (q := 206) rfl rfl rfl rfl) ?_
          refine ok (m_gfs (z := 26) (q := 209) (w := D 70 26) rfl rfl rfl r55 rfl rfl rfl rfl rfl) ?_
          refine ok (m_aload_n (q := 210) rfl rfl rfl rfl) ?_
          refine ok (m_gfs (z := 0) (q := 213) (w := D 70 0) rfl rfl rfl r55 rfl rfl rfl rfl rfl) ?_
          obtain ⟨g62, hp⟩ := hp
          refine oke (e_ias (q := 214) rfl rfl rfl r55 rfl rfl g62 (show rg (D 70 0) from Rp_rg r55 70 0)) (fun s61 r60 => ?_)
          refine ok (m_aload_n (q := 215) rfl rfl rfl rfl) ?_
          refine ok (m_dup (q := 216) rfl rfl rfl rfl) ?_
          refine ok (m_gfs (z := 26) (q := 219) (w := D 70 26) rfl rfl rfl r60 rfl rfl rfl rfl rfl) ?_
          refine ok (m_iconst (q := 220) rfl rfl rfl) ?_
          refine ok (m_iadd (q := 221) rfl rfl rfl) ?_
          refine oke (e_pfs (q := 224) rfl rfl rfl r60 rfl rfl rfl rfl (rg_wr _)) (fun s64 r63 => ?_)
          refine ok (m_aload_n (q := 225) rfl rfl rfl rfl) ?_
          refine ok (m_gfs (z := 26) (q := 228) (w := wr ((D 70 26) + 1)) rfl rfl rfl r63 rfl rfl rfl rfl up_eq) ?_
          refine ok (m_iconst (q := 229) rfl rfl rfl) ?_
          refine ok (m_isub (q := 230) rfl rfl rfl) ?_
          exact ok (m_reti rfl rfl) (ok_iq r63 (rg_wr _) hp)
    · replace hp := iq c43 hp
      refine ok (m_aload_n (q := 104) rfl rfl rfl rfl) ?_
      refine ok (m_gfc (q := 107) rfl rfl rfl hr rfl rfl rfl) ?_
      refine ok (m_aload_n (q := 108) rfl rfl rfl rfl) ?_
      refine ok (m_gfs (z := 26) (q := 111) rfl rfl rfl hr rfl rfl rfl rfl rfl) ?_
      obtain ⟨g65, hp⟩ := hp
      refine ok (m_ials (q := 112) rfl rfl rfl hr rfl rfl g65 rfl) ?_
      refine ok (m_bipush (q := 114) rfl rfl rfl) ?_
      refine okc (m_cmpge (qt := 145) (qf := 117) rfl rfl (Rp_rg hr 92 (D 70 26)) ⟨by decide, by decide⟩ rfl rfl) (fun c66 => ?_) (fun c66 => ?_)
      · replace hp := ip c66 hp
        refine ok (m_iconst (q := 146) rfl rfl rfl) ?_
        refine ok (m_istore_n (q := 147) (lo' := [some (am_r (some 70)), none, some (am_i (wz a2)), some (am_i (wz 0))]) rfl rfl rfl rfl rfl) ?_
        refine ok (m_iload_n (q := 148) rfl rfl rfl rfl) ?_
        refine ok ((m_ifne (qt := 154) (qf := 151) rfl rfl ⟨by decide, by decide⟩ rfl rfl).trans (if_pos (by decide))) ?_
        refine ok (m_goto (q := 88) rfl rfl rfl) ?_
        exact hp d hd _ hr
      · replace hp := iq c66 hp
        refine ok (m_aload_n (q := 118) rfl rfl rfl rfl) ?_
        refine ok (m_bipush (q := 120) rfl rfl rfl) ?_
        refine ok (m_aload_n (q := 121) rfl rfl rfl rfl) ?_
        refine ok (m_gfs (z := 26) (q := 124) rfl rfl rfl hr rfl rfl rfl rfl rfl) ?_
        refine ok (m_imul (q := 125) rfl rfl rfl) ?_
        refine ok (m_aload_n (q := 126) rfl rfl rfl rfl) ?_
        refine ok (m_gfc (q := 129) rfl rfl rfl hr rfl rfl rfl) ?_
        refine ok (m_aload_n (q := 130) rfl rfl rfl rfl) ?_
        refine ok (m_gfs (z := 26) (q := 133) rfl rfl rfl hr rfl rfl rfl rfl rfl) ?_
        refine ok (m_ials (q := 134) rfl rfl rfl hr rfl rfl g65 rfl) ?_
        refine ok (m_iadd (q := 135) rfl rfl rfl) ?_
        obtain ⟨x69, D70, e71, hp⟩ := hp
        refine oke (e_ci (x_cv (q := 138) rfl rfl rfl rfl rfl rfl rfl rfl rfl rfl (is_st hr rfl rfl)) e71.1 hd hr) (fun s67 r68 => ?_)
        refine okc (m_ifeq (qt := 145) (qf := 141) rfl rfl (Ev_rg e71.1 hr) rfl rfl) (fun c72 => ?_) (fun c72 => ?_)
        · replace hp := ip c72 hp
          refine ok (m_iconst (q := 146) rfl rfl rfl) ?_
          refine ok (m_istore_n (q := 147) (lo' := [some (am_r (some 70)), none, some (am_i (wz a2)), some (am_i (wz 0))]) rfl rfl rfl rfl rfl) ?_
          refine ok (m_iload_n (q := 148) rfl rfl rfl rfl) ?_
          refine ok ((m_ifne (qt := 154) (qf := 151) rfl rfl ⟨by decide, by decide⟩ rfl rfl).trans (if_pos (by decide))) ?_
          refine ok (m_goto (q := 88) rfl rfl rfl) ?_
          exact hp d hd _ r68
        · replace hp := iq c72 hp
          refine ok (m_iconst (q := 142) rfl rfl rfl) ?_
          refine ok (m_goto (q := 146) rfl rfl rfl) ?_
          refine ok (m_istore_n (q := 147) (lo' := [some (am_r (some 70)), none, some (am_i (wz a2)), some (am_i (wz 1))]) rfl rfl rfl rfl rfl) ?_
          refine ok (m_iload_n (q := 148) rfl rfl rfl rfl) ?_
          refine ok ((m_ifne (qt := 154) (qf := 151) rfl rfl ⟨by decide, by decide⟩ rfl rfl).trans (if_neg (by decide))) ?_
          refine ok (m_aload_n (q := 155) rfl rfl rfl rfl) ?_
          refine ok (m_gfc (q := 158) rfl rfl rfl r68 rfl rfl rfl) ?_
          refine ok (m_aload_n (q := 159) rfl rfl rfl rfl) ?_
          refine ok (m_gfs (z := 26) (q := 162) rfl rfl rfl r68 rfl rfl rfl rfl rfl) ?_
          refine ok (m_dup2 (q := 163) rfl rfl rfl rfl rfl) ?_
          obtain ⟨g73, hp⟩ := hp
          refine ok (m_ials (q := 164) rfl rfl rfl r68 rfl rfl g73 rfl) ?_
          refine ok (m_iconst (q := 165) rfl rfl rfl) ?_
          refine ok (m_iadd (q := 166) rfl rfl rfl) ?_
          refine oke (e_ias (q := 167) rfl rfl rfl r68 rfl rfl g73 (rg_wr _)) (fun s75 r74 => ?_)
          refine ok (m_aload_n (q := 168) rfl rfl rfl rfl) ?_
          obtain ⟨g78, hp⟩ := hp
          refine oke (e_cvd (x_cv (q := 171) rfl rfl rfl rfl rfl rfl rfl rfl rfl rfl (is_st r74 rfl rfl)) (ev_X12_blanks (D := (up D70 92 (D70 70 26) (wr ((D70 92 (D70 70 26)) + 1)))) g78) (Nat.le_trans (by decide) (Nat.le_trans hc hd)) r74) (fun s76 r77 => ?_)
          refine ok (m_goto (q := 88) rfl rfl rfl) ?_
          exact hp d hd _ r77
/-- what the reference's reading of book r may change -/
def MF (r : Int) (D0 D : aD) : Prop := (∀ c, c ≠ 70 → c ≠ 92 → (c < 94 ∨ 104 < c) → D c = D0 c) ∧ (∀ i, i ≠ 27 → i ≠ 30 → i ≠ 31 → i ≠ 49 → i ≠ 50 → D 70 i = D0 70 i) ∧ (∀ c, 94 ≤ c → c ≤ 98 → ∀ i, i < 30 * r ∨ 30 * r + 30 ≤ i → D c i = D0 c i) ∧ (∀ c, 99 ≤ c → c ≤ 104 → ∀ i, i < D0 70 27 → D c i = D0 c i) ∧ ∀ i, i ≠ r → D 92 i = D0 92 i
theorem MF.refl (r : Int) (D : aD) : MF r D D := ⟨fun _ _ _ _ => rfl, fun _ _ _ _ _ _ => rfl, fun _ _ _ _ _ => rfl, fun _ _ _ _ _ => rfl, fun _ _ => rfl⟩
theorem MF.sfr {i : Int} (h : MF r D0 D) (hs : Sfr i (D 70 27) D D') (hi : 30 * r ≤ i ∧ i < 30 * r + 30) (h27 : D0 70 27 ≤ D 70 27) : MF r D0 D' := by
  obtain ⟨h1, h2, h3, h4, h5⟩ := h
  obtain ⟨s1, s2, s3, s4⟩ := hs
  exact ⟨fun c a1 a2 a3 => (s1 c a1 a3).trans (h1 c a1 a2 a3), fun j a1 a2 a3 a4 a5 => (s2 j a1 a2 a3 a4 a5).trans (h2 j a1 a2 a3 a4 a5), fun c a1 a2 j hj => (s3 c a1 a2 j (by omega)).trans (h3 c a1 a2 j hj), fun c a1 a2 j hj => (s4 c a1 a2 j (by omega)).trans (h4 c a1 a2 j hj), fun j hj => by rw [s1 92 (by decide) (by decide)]; exact h5 j hj⟩
theorem MF.up92 {v : Int} (h : MF r D0 D) : MF r D0 (up D 92 r v) := by
  obtain ⟨h1, h2, h3, h4, h5⟩ := h
  exact ⟨fun c a1 a2 a3 => by rw [up_cf a2]; exact h1 c a1 a2 a3, fun j a1 a2 a3 a4 a5 => by rw [up_c (by decide)]; exact h2 j a1 a2 a3 a4 a5, fun c a1 a2 j hj => by rw [up_c (by omega)]; exact h3 c a1 a2 j hj, fun c a1 a2 j hj => by rw [up_c (by omega)]; exact h4 c a1 a2 j hj, fun j hj => by rw [up_i hj]; exact h5 j hj⟩
theorem MF.mfl (h : MF r D0 D) (q : Mfl D D') : MF r D0 D' := by
  obtain ⟨h1, h2, h3, h4, h5⟩ := h
  obtain ⟨q1, q2⟩ := q
  exact ⟨fun c a1 a2 a3 => (q1 c a1).trans (h1 c a1 a2 a3), fun j a1 a2 a3 a4 a5 => (q2 j a2 a4 a5).trans (h2 j a1 a2 a3 a4 a5), fun c a1 a2 j hj => by rw [q1 c (by omega)]; exact h3 c a1 a2 j hj, fun c a1 a2 j hj => by rw [q1 c (by omega)]; exact h4 c a1 a2 j hj, fun j hj => by rw [q1 92 (by decide)]; exact h5 j hj⟩
/-- the condition of statement i, with nodes from B on -/
def Cm (B i : Int) (D : aD) : Option Itm → Prop
  | none => D 98 i = -1
  | some v => ∃ hi, D 98 i < hi ∧ B ≤ D 98 i ∧ hi ≤ D 70 27 ∧ HN D 23 (D 98 i) hi v.1
/-- j statements of book r stand -/
def ML (T : Int → Int) (N : Int) (s : Nat → Int) (w : Nat → Option Itm) (r : Int) (D0 : aD) (j : Nat) (D : aD) : Prop :=
  Mst T N (s j) D ∧ D 70 30 = s j ∧ D 92 r = j ∧ (D0 70 27 ≤ D 70 27 ∧ 25 * (D 70 27 - D0 70 27) ≤ 21 * (s j - s 0)) ∧ MF r D0 D ∧ ∀ p, p < j → Vm T N (30 * r + p) (kd T N (s p)) (tN T N (s p)) D ∧ (kd T N (s p) = 0 ∨ kd T N (s p) = 4 → Cm (D0 70 27) (30 * r + p) D (w p))
theorem Vm_cg {i : Int} (h : Vm T N k i b D) (h1 : ∀ c, 94 ≤ c → c ≤ 97 → E c k = D c k) : Vm T N k i b E := by
  unfold Vm
  rw [h1 94 (by decide) (by decide), h1 95 (by decide) (by decide), h1 96 (by decide) (by decide), h1 97 (by decide) (by decide)]
  exact h
theorem Cm_cg {B i : Int} {v : Option Itm} (h : Cm B i D v) (h98 : E 98 i = D 98 i) (h1 : ∀ c, 99 ≤ c → c ≤ 104 → ∀ j, j < D 70 27 → E c j = D c j) (h27 : D 70 27 ≤ E 70 27) : Cm B i E v := by
  cases v with
  | none => show E 98 i = -1; rw [h98]; exact h
  | some v =>
    obtain ⟨hi, y1, y2, y3, y4⟩ := h
    refine ⟨hi, by rw [h98]; exact y1, by rw [h98]; exact y2, by omega, ?_⟩
    rw [h98]
    exact HN_x y4 (fun c c1 c2 c3 j j1 j2 => h1 c c1 c2 j (by omega)) (fun j j1 j2 => h1 101 (by decide) (by decide) j (by omega))
theorem ml_step {j : Nat} (hj : j < 30) (hT : Txt T N) (hr : 0 ≤ r ∧ r < 8) (t0 : Tok T N (s 0)) (h26 : D0 70 26 = r) (h27 : 0 ≤ D0 70 27 ∧ 25 * D0 70 27 ≤ 103000) (h : ML T N s w r D0 j D) (hst : StOk T N (s j) (w j) (f j)) (hn : s (j + 1) = tN T N (f j)) : ∃ D1, Ev (n + 1) 39 169 [am_r (some 70), am_i (wz (30 * r + j))] A D (ri 1) A D1 ∧ D1 70 26 = r ∧ D1 92 r = j ∧ p_blk (up D1 92 r (j + 1)) ∧ ML T N s w r D0 (j + 1) (u_blk (up D1 92 r (j + 1))) := by
  obtain ⟨c1, c2, c3, ⟨c4, c5⟩, c6, c7⟩ := h
  have ta := Mst_tok hT c1
  have tz := t0.1
  have tm := ta.1
  obtain ⟨q1, q2, q3, q4⟩ := StOk_tok hT ta hst
  obtain ⟨D1, e1, e2, e3, e4, e5, e6, e7⟩ := mst_ok (n := n) (A := A) (k := 30 * r + j) hT (by omega) c1 (by omega) (by omega) hst
  have mf1 : MF r D0 D1 := c6.sfr e2 ⟨by omega, by omega⟩ c4
  have d26 : D1 70 26 = r := by rw [mf1.2.1 26 (by decide) (by decide) (by decide) (by decide) (by decide)]; exact h26
  have d92 : D1 92 r = j := by rw [e2.1 92 (by decide) (by decide)]; exact c3
  have m2 : Mst T N (tN T N (f j)) (up D1 92 r (j + 1)) := Mst_cg e3 (up_cf (by decide)) (up_c (by decide)) (up_c (by decide))
  obtain ⟨b1, b2, b3⟩ := blk_m hT m2
  have u27 : (u_blk (up D1 92 r (j + 1))) 70 27 = D1 70 27 := by rw [b2.2 27 (by decide) (by decide) (by decide), up_c (by decide)]
  have uc : ∀ c, c ≠ 70 → c ≠ 92 → (u_blk (up D1 92 r (j + 1))) c = D1 c := fun c a1 a2 => by rw [b2.1 c a1, up_cf a2]
  refine ⟨D1, e1, d26, d92, Mst_p hT m2, by rw [hn]; exact b1, by rw [hn]; exact b3, ?_, ⟨by omega, by rw [u27, hn]; omega⟩, mf1.up92.mfl b2, fun p hp => ?_⟩
  · rw [b2.1 92 (by decide), up_eq]; omega
  · by_cases z : p = j
    · subst z
      refine ⟨Vm_cg e4 (fun c a1 a2 => by rw [uc c (by omega) (by omega)]), fun hk => ?_⟩
      have := e7 hk
      cases hw : w p with
      | none =>
        rw [hw] at this
        show (u_blk (up D1 92 r (p + 1))) 98 (30 * r + p) = -1
        rw [uc 98 (by decide) (by decide)]; exact this
      | some v =>
        rw [hw] at this
        obtain ⟨y1, y2⟩ := this
        have ey : (u_blk (up D1 92 r (p + 1))) 98 (30 * r + p) = D 70 27 := by rw [uc 98 (by decide) (by decide)]; exact y1
        refine ⟨D1 70 27, ?_, by rw [ey]; omega, by rw [u27]; exact Int.le_refl _, ?_⟩
        · rw [ey]; exact (HN_b y2).2
        · rw [ey]
          exact HN_x y2 (fun c a1 a2 a3 j j1 j2 => by rw [uc c (by omega) (by omega)]) (fun j j1 j2 => by rw [uc 101 (by decide) (by decide)])
    · obtain ⟨y1, y2⟩ := c7 p (by omega)
      have hne : (30 * r + p : Int) ≠ 30 * r + j := by omega
      refine ⟨Vm_cg y1 (fun c a1 a2 => by rw [uc c (by omega) (by omega)]; exact e2.2.2.1 c (by omega) (by omega) _ hne), fun hk => Cm_cg (y2 hk) (by rw [uc 98 (by decide) (by decide)]; exact e2.2.2.1 98 (by decide) (by decide) _ hne) (fun c a1 a2 i hi => by rw [uc c (by omega) (by omega)]; exact e2.2.2.2 c a1 a2 i hi) (by rw [u27]; exact e5)⟩
end Mlp
