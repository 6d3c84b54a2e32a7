/-! A thing gets a new row. -/
section Rw
variable {n : Nat} {A A' : aA} {D D' : aD} {d : Nat} {s : am_S}
theorem mkT_upu {u t : Nat} {i j : Int} {L : Nat} (hu : 20 ≤ u ∧ u ≤ 22) (h : (t = 10 → u = 20 → j ≠ i) ∧ (t = 11 → u = 21 → j ≠ i) ∧ (t = 16 → u = 22 → j ≠ i)) : mkT (upA A u i L) D t j = mkT A D t j := by
  have o : ∀ w z, w ≠ u → upA A u i L w z = A w z := fun w z q => upA_t q
  have o2 : ∀ w, (w = u → j ≠ i) → upA A u i L w j = A w j := fun w q => by
    by_cases e : w = u
    · exact upA_i (q e)
    · exact upA_t e
  by_cases e : t = 0
  · subst e; unfold mkT; simp only [tfs, tvs, tv1, tvr]; rw [o 1 _ (by omega)]
  by_cases e : t = 10
  · subst e; unfold mkT; simp only [tfs, tvs, tv1, tvr]; rw [o2 20 (fun q => h.1 rfl q.symm)]
  by_cases e : t = 11
  · subst e; unfold mkT; simp only [tfs, tvs, tv1, tvr]; rw [o2 21 (fun q => h.2.1 rfl q.symm)]
  by_cases e : t = 12
  · subst e; unfold mkT; simp only [tfs, tvs, tv1, tvr]
  by_cases e : t = 13
  · subst e; unfold mkT; simp only [tfs, tvs, tv1, tvr]; rw [o 10 _ (by omega), o 11 _ (by omega)]
  by_cases e : t = 14
  · subst e; unfold mkT; simp only [tfs, tvs, tv1, tvr]; rw [o 0 _ (by omega), o 23 _ (by omega), o 24 _ (by omega), o 25 _ (by omega)]
  by_cases e : t = 15
  · subst e; unfold mkT; simp only [tfs, tvs, tv1, tvr]; rw [o 10 _ (by omega), o 11 _ (by omega)]
  by_cases e : t = 16
  · subst e; unfold mkT; simp only [tfs, tvs, tv1, tvr]; rw [o2 22 (fun q => h.2.2 rfl q.symm)]
  by_cases e : t = 1
  · subst e
    rw [mkT1, mkT1]
    have := ety_r j
    simp only [o (ety j) _ (by omega)]
  have ht : tfs t = none := by
    unfold tfs
    split <;> first | rfl | contradiction
  unfold mkT
  rw [ht]
  simp only
  rw [if_neg e, if_neg e]
  by_cases e2 : t = 2
  · rw [if_pos e2, if_pos e2]
    simp only [o 11 _ (show (11 : Nat) ≠ u by omega), o 10 _ (show (10 : Nat) ≠ u by omega)]
  · rw [if_neg e2, if_neg e2]
theorem mkT_r {u : Nat} {i : Int} (hu : 20 ≤ u ∧ u ≤ 25) : mkT A D u i = .inr (.inl (0, (D (1000 + 100 * u) i).toNat, fun k => if k < 1024 then wz (D (1001 + 100 * u) (1024 * i + k)) else 0)) := by
  have ht : tfs u = none := by
    unfold tfs
    split <;> first | rfl | omega
  unfold mkT
  rw [ht]
  simp only
  rw [if_neg (by omega), if_neg (by omega)]
theorem Rp0_row {t u : Nat} {i : Int} {k : Nat} {g : Nat → Int32} (H : Rp0 A D s) (htu : (t = 10 ∧ u = 20) ∨ (t = 11 ∧ u = 21) ∨ (t = 16 ∧ u = 22)) (hf : D (900 + t) i = 1)
    (hD : ∀ c j, D' c j ≠ D c j → c = 950 ∨ c = 951 ∨ blg (u, i) c j ∨ (t = 16 ∧ c = 2605 ∧ j = i))
    (hu : D' (900 + u) i = 1) (hk : D' (1000 + 100 * u) i = k) (hkb : k ≤ 1024)
    (hg : ∀ q : Nat, g q = if q < 1024 then wz (D' (1001 + 100 * u) (1024 * i + q)) else 0)
    (hL : D' 950 0 = s.1.length + 1 ∧ D' 951 0 = s.2 + k) :
    Rp0 (upA A u i s.1.length) D' ((s.1 ++ ([.inr (.inl (0, k, g))] : List am_Ce)).set (A t i) (mkT (upA A u i s.1.length) D' t i), s.2 + k) := by
  have h135 := Rp0_135 H
  obtain ⟨⟨q1, q1b⟩, q2, q3, q4, ⟨q5, q5b⟩, q6⟩ := H
  have hE : ∀ c j, c ≠ 950 → c ≠ 951 → ¬ blg (u, i) c j → ¬ (t = 16 ∧ c = 2605 ∧ j = i) → D' c j = D c j := fun c j a1 a2 a3 a4 => by
    by_cases e : D' c j = D c j
    · exact e
    · rcases hD c j e with r | r | r | r
      · exact absurd r a1
      · exact absurd r a2
      · exact absurd r a3
      · exact absurd r a4
  have hut : 20 ≤ u ∧ u ≤ 22 ∧ (t = 10 ∨ t = 11 ∨ t = 16) := by omega
  have hF : ∀ c, c < 900 → D' c = D c := fun c hc => funext fun j => hE c j (by omega) (by omega) (by unfold blg; omega) (by omega)
  have hfe : ∀ w j, w < 50 → ¬ (w = u ∧ j = i) → D' (900 + w) j = D (900 + w) j := fun w j hw a => hE _ j (by omega) (by omega) (by unfold blg; simp only; omega) (by omega)
  obtain ⟨r0, r32, rs⟩ := q3 t i (by omega) hf
  have rl : A t i < s.1.length := (List.getElem?_eq_some_iff.mp r0).1
  have hkeep : ∀ {a : Nat} {c : am_Ce}, s.1[a]? = some c → a ≠ A t i → ((s.1 ++ ([.inr (.inl (0, k, g))] : List am_Ce)).set (A t i) (mkT (upA A u i s.1.length) D' t i))[a]? = some c := fun {a c} h hn => by
    rw [List.getElem?_set_ne (Ne.symm hn)]; exact ap_lt h
  have hnew : ((s.1 ++ ([.inr (.inl (0, k, g))] : List am_Ce)).set (A t i) (mkT (upA A u i s.1.length) D' t i))[s.1.length]? = some (.inr (.inl (0, k, g))) := by
    rw [List.getElem?_set_ne (by omega)]; exact ap_at
  have hmk : ∀ w j, w < 50 → D (900 + w) j = 1 → ¬ (w = t ∧ j = i) → ¬ (w = u ∧ j = i) → mkT (upA A u i s.1.length) D' w j = mkT A D w j := fun w j hw hx n1 n2 => by
    rw [mkT_upu ⟨hut.1, hut.2.1⟩ ⟨fun a b c => n1 ⟨by omega, c⟩, fun a b c => n1 ⟨by omega, c⟩, fun a b c => n1 ⟨by omega, c⟩⟩]
    refine mkT_cg ?_ ?_ ?_ ?_ ?_
    · intro hz c c1 c2
      have := tfs_nle hz
      exact hE c j (by omega) (by omega) (by unfold blg; simp only; omega) (by omega)
    · intro hz
      by_cases e5 : w ≤ 16
      · exact hE _ j (by omega) (by omega) (by unfold blg; simp only; omega) (by omega)
      · exact hE _ j (by omega) (by omega) (by unfold blg; simp only; omega) (by omega)
    · intro _; exact hE _ j (by omega) (by omega) (by unfold blg; simp only; omega) (by omega)
    · intro _ z; exact ⟨hE _ z (by omega) (by omega) (by unfold blg; simp only; omega) (by omega), hE _ z (by omega) (by omega) (by unfold blg; simp only; omega) (by omega)⟩
    · intro h3 _ z hz
      refine hE _ _ (by omega) (by omega) ?_ (by omega)
      unfold blg; simp only
      by_cases ew : w = u
      · have : j ≠ i := fun e => n2 ⟨ew, e⟩
        omega
      · omega
  refine ⟨⟨?_, ?_⟩, ?_, ?_, ?_, ?_, ?_⟩
  · rw [hF 0 (by decide), hF 1 (by decide)]; exact hkeep q1 (by omega)
  · intro a c ha hc
    have : a < 32 := (List.getElem?_eq_some_iff.mp hc).1
    exact hkeep (q1b a c ha hc) (by omega)
  · intro a sh ha
    have hg9 := shp_ge ha
    rw [hF a (by omega), mkS_A (A := A) ha]
    · exact hkeep (q2 a sh ha) (fun e => by rw [e, rs] at ha; cases ha)
    · intro w z hx
      refine upA_t ?_
      intro e; unfold fxt at hx; simp at hx; omega
  · intro w j hw hx
    by_cases e1 : w = u ∧ j = i
    · obtain ⟨rfl, rfl⟩ := e1
      rw [upA_eq]
      refine ⟨?_, by omega, shp_135 h135⟩
      show ((s.1 ++ _).set _ _)[s.1.length]? = _
      rw [hnew, mkT_r (by omega), hk, Int.toNat_natCast]
      congr 5
      funext q
      exact hg q
    · rw [hfe w j hw e1] at hx
      rw [show upA A u i s.1.length w j = A w j from if_neg e1]
      by_cases e2 : w = t ∧ j = i
      · obtain ⟨rfl, rfl⟩ := e2
        refine ⟨?_, r32, rs⟩
        exact List.getElem?_set_self (by rw [List.length_append]; omega)
      · obtain ⟨w1, w2, w3⟩ := q3 w j hw hx
        refine ⟨?_, w2, w3⟩
        rw [hmk w j hw hx e2 e1]
        exact hkeep w1 (fun e => e2 (q4 w j t i hw (by omega) hx hf e))
  · intro w j w' j' hw hw' hx hx' e
    by_cases e1 : w = u ∧ j = i
    · by_cases e2 : w' = u ∧ j' = i
      · exact ⟨e1.1.trans e2.1.symm, e1.2.trans e2.2.symm⟩
      · rw [hfe w' j' hw' e2] at hx'
        rw [show upA A u i s.1.length w j = s.1.length from if_pos e1, show upA A u i s.1.length w' j' = A w' j' from if_neg e2] at e
        have := (List.getElem?_eq_some_iff.mp (q3 w' j' hw' hx').1).1
        omega
    · rw [hfe w j hw e1] at hx
      by_cases e2 : w' = u ∧ j' = i
      · rw [show upA A u i s.1.length w j = A w j from if_neg e1, show upA A u i s.1.length w' j' = s.1.length from if_pos e2] at e
        have := (List.getElem?_eq_some_iff.mp (q3 w j hw hx).1).1
        omega
      · rw [hfe w' j' hw' e2] at hx'
        rw [show upA A u i s.1.length w j = A w j from if_neg e1, show upA A u i s.1.length w' j' = A w' j' from if_neg e2] at e
        exact q4 w j w' j' hw hw' hx hx' e
  · show D' 950 0 = ((List.set _ _ _).length : Int) ∧ D' 951 0 = ((s.2 + k : Nat) : Int)
    rw [List.length_set, List.length_append]
    exact ⟨hL.1, hL.2⟩
  · obtain ⟨c1, c2, c3, c4, c5, c6, c7, c8, c9, c10, c11, c12⟩ := q6
    have lo : ∀ c j, (c < 900 ∨ (900 ≤ c ∧ c < 920) ∨ (960 ≤ c ∧ c < 2600) ∨ (923 ≤ c ∧ c ≤ 930)) → D' c j = D c j := fun c j hc => hE c j (by omega) (by omega) (by unfold blg; simp only; omega) (by omega)
    have hfl : ∀ w j, w < 50 → D (900 + w) j = 1 → D' (900 + w) j = 1 := fun w j hw hx => by
      by_cases e : w = u ∧ j = i
      · rw [e.1, e.2]; exact hu
      · rw [hfe w j hw e]; exact hx
    refine ⟨?_, ?_, ?_, ?_, ?_, ?_, ?_, ?_, ?_, ?_, ?_, ?_⟩
    · intro l q
      rw [lo 900 l (by omega)] at q
      rw [lo 1002 l (by omega), lo 901 l (by omega), lo 1100 l (by omega), upA_t (by omega)]
      exact c1 l q
    · intro l j q a b
      rw [lo 900 l (by omega)] at q
      rw [lo 1002 l (by omega)] at b
      have := ety_r l
      exact hfl _ _ (by omega) (c2 l j q a b)
    · intro j q
      rw [lo 910 j (by omega)] at q
      exact hfl 20 j (by decide) (c3 j q)
    · intro j q
      rw [lo 911 j (by omega)] at q
      exact hfl 21 j (by decide) (c4 j q)
    · intro j q
      rw [lo 913 j (by omega)] at q
      rw [lo 2300 j (by omega), lo 2301 j (by omega), lo 910 _ (by omega), lo 911 _ (by omega)]
      exact c5 j q
    · intro j q
      rw [lo 914 j (by omega)] at q
      rw [lo 900 _ (by omega), lo 923 _ (by omega), lo 924 _ (by omega), lo 925 _ (by omega)]
      exact c6 j q
    · intro j q
      rw [lo 915 j (by omega)] at q
      rw [lo 2501 j (by omega), lo 2502 j (by omega), lo 910 _ (by omega), lo 911 _ (by omega)]
      exact c7 j q
    · intro j q
      rw [lo 916 j (by omega)] at q
      by_cases e : t = 16 ∧ j = i
      · refine Or.inr ?_
        have e3 : u = 22 := by omega
        rw [e.2]; rw [e3] at hu; exact hu
      · rw [hE 2605 j (by omega) (by omega) (by unfold blg; simp only; omega) (fun z => e ⟨z.1, z.2.2⟩)]
        rcases c8 j q with r | r
        · exact Or.inl r
        · exact Or.inr (hfl 22 j (by decide) r)
    · intro z
      rw [lo 1200 z (by omega), lo 911 _ (by omega)]; exact c9 z
    · intro z
      rw [lo 1201 z (by omega), lo 910 _ (by omega)]; exact c10 z
    · intro w j a b q
      by_cases e : w = u ∧ j = i
      · rw [e.1, e.2, hk]; omega
      · rw [hfe w j (by omega) e] at q
        rw [hE (1000 + 100 * w) j (by omega) (by omega) (by unfold blg; simp only; omega) (by omega)]
        exact c11 w j a b q
    · rw [lo 900 0 (by omega), lo 900 1 (by omega), lo 900 2 (by omega), lo 900 3 (by omega), lo 900 4 (by omega), lo 900 5 (by omega), lo 900 16 (by omega), lo 902 0 (by omega), lo 902 1 (by omega), lo 914 8 (by omega), lo 923 8 (by omega), lo 924 8 (by omega), lo 925 8 (by omega)]
      exact c12
/-- Arrays.copyOf of a row of ints -/
abbrev P_cpi : Nat → Option am_E := am_fy tb_J7_copyOf_59c91
theorem lenI_of {h : List am_Ce} {a t m : Nat} {f : Nat → Int32} (h1 : h[a]? = some (.inr (.inl (t, m, f)))) : am_len h (some a) = some m := by
  unfold am_len; simp only [h1]
theorem va_cpyi {f : Nat → Int32} {on : Nat} : va_cpy f (fun _ => 0) 0 0 on = fun k => if k < on then f k else 0 := by
  funext k
  unfold va_cpy
  by_cases c : k < on
  · simp [c]
  · simp [c]
theorem x_cln {m nn j : Nat} {z : Int} {r : Option Nat} {s' : am_S} {P : Nat → Option am_E} {pc q : Nat} {lo : am_L} {st : List am_V} {ks : List Nat} {ln : Nat} (h : P pc = some (ks, .invokevirtual j, ln, (m, nn, z))) (hk : am_kill ks lo = lo) (hq : pc + 3 = q) (hz : z.toNat % 16 = 9) (hs : Nat.ble ((st.map am_cat).sum) 8 = true) (hc : am_cln s r = some s') : mr d P pc lo (am_r r :: st) s = mr d P q lo (am_r (some s.1.length) :: st) s' := by
  subst hq; rw [mx h hk]
  show am_cal (dn d) (mr d P (pc + 3)) lo _ s (m, nn, z) = _
  unfold am_cal
  simp only [hz]
  show (if (st.map am_cat).sum ≤ 8 then (am_cln s r).bind _ else none) = _
  rw [if_pos (Nat.le_of_ble_eq_true hs), hc]; rfl
theorem rw_cpi {ea on m : Nat} {f : Nat → Int32} (he : s.1[ea]? = some (.inr (.inl (0, on, f)))) (h32 : 32 ≤ ea) (hon : m ≤ on) (hm : on ≤ 10000) (hL : 32 ≤ s.1.length) : dn (d + 1) 237 [am_r (some ea), am_i (wz (m : Int))] s = some (some (am_r (some s.1.length)), (s.1 ++ ([.inr (.inl (0, m, fun k => if k < m then f k else 0))] : List am_Ce), s.2 + m)) := by
  have hr : rg (m : Int) := rgb (by omega) (by omega)
  have hro : rg (on : Int) := rgb (by omega) (by omega)
  have e : (wz (m : Int)).toNatClampNeg = m := by rw [wz_clamp hr]; omega
  have e0 : (wz 0).toNatClampNeg = 0 := by decide
  have hlt := (List.getElem?_eq_some_iff.mp he).1
  rw [dn_s (P := P_cpi) (n := 3) (lo := [some (am_r (some ea)), some (am_i (wz (m : Int))), none]) rfl rfl rfl]
  refine (m_iload_n (q := 1) rfl rfl rfl rfl).trans ?_
  refine (m_aload_n (q := 2) rfl rfl rfl rfl).trans ?_
  refine (x_len (q := 3) (z := (on : Int)) rfl rfl rfl (lenI_of he) rfl).trans ?_
  by_cases cm : m = on
  · subst cm
    refine ((m_cmpne (qt := 14) (qf := 6) rfl rfl hr hr rfl rfl).trans (if_pos rfl)).trans ?_
    refine (m_aload_n (q := 7) rfl rfl rfl rfl).trans ?_
    have hc : am_cln s (some ea) = some (s.1 ++ ([.inr (.inl (0, m, fun k => if k < m then f k else 0))] : List am_Ce), s.2 + m) := by
      unfold am_cln
      simp only [he]
      rw [if_pos ⟨h32, trivial, by omega⟩]
    refine (x_cln (q := 10) rfl rfl rfl rfl rfl hc).trans ?_
    refine (m_cast (q := 13) rfl rfl rfl ?_).trans ?_
    · unfold am_isN am_isC
      simp only [ap_at]
      rw [Nat.ble_eq_true_of_le (show am_K ≤ s.1.length from hL)]; rfl
    exact m_retr rfl rfl
  refine ((m_cmpne (qt := 14) (qf := 6) rfl rfl hr hro rfl rfl).trans (if_neg (by omega))).trans ?_
  refine (m_iload_n (q := 15) rfl rfl rfl rfl).trans ?_
  refine (x_na (q := 17) rfl rfl rfl ⟨by omega, by omega⟩).trans ?_
  rw [Int.toNat_natCast]
  refine (m_astore_n (q := 18) (lo' := [some (am_r (some ea)), some (am_i (wz (m : Int))), some (am_r (some s.1.length))]) rfl rfl rfl rfl rfl).trans ?_
  refine (m_aload_n (q := 19) rfl rfl rfl rfl).trans ?_
  refine (m_iconst (q := 20) rfl rfl rfl).trans ?_
  refine (m_aload_n (q := 21) rfl rfl rfl rfl).trans ?_
  refine (m_iconst (q := 22) rfl rfl rfl).trans ?_
  refine (m_aload_n (q := 23) rfl rfl rfl rfl).trans ?_
  refine (x_len (q := 24) (z := (on : Int)) rfl rfl rfl (lenI_of (ap_lt he)) rfl).trans ?_
  refine (m_iload_n (q := 25) rfl rfl rfl rfl).trans ?_
  refine (m_min (q := 28) rfl rfl rfl hro hr rfl).trans ?_
  rw [Int.min_eq_right (by omega)]
  have hc : am_cpy (s.1 ++ ([.inr (.inl (0, m, fun _ => 0))] : List am_Ce), s.2 + m) (some ea) (wz 0) (some s.1.length) (wz 0) (wz (m : Int)) = some (s.1 ++ ([.inr (.inl (0, m, fun k => if k < m then f k else 0))] : List am_Ce), s.2 + m) := by
    unfold am_cpy
    simp only [ap_lt he, ap_at]
    rw [if_pos ⟨h32, hL, by omega, by decide, by decide, by rw [← wz0, wz_lt hr rg0]; omega⟩, e, e0, if_pos ⟨trivial, trivial, by omega, by omega⟩, ap_set, va_cpyi]
  refine (x_cpy (q := 31) rfl rfl rfl rfl rfl hc).trans ?_
  refine (m_aload_n (q := 32) rfl rfl rfl rfl).trans ?_
  exact m_retr rfl rfl
end Rw
