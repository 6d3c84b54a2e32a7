/-! The start: what is shown, what holds, and the law's whole run. -/
section St2
variable {xs : Int → Int} {L : Nat}
theorem sD_fl {t : Nat} {i : Int} (ht : t < 50) (h : sD xs L (900 + t) i = 1) : (t = 0 ∧ ((0 ≤ i ∧ i ≤ 5) ∨ i = 16)) ∨ (t = 2 ∧ (i = 0 ∨ i = 1)) ∨ ((t = 14 ∨ t = 23 ∨ t = 24 ∨ t = 25) ∧ i = 8) := by
  by_cases q0 : t = 0
  · subst q0
    have e : sD xs L (900 + 0) i = if (0 ≤ i ∧ i ≤ 5) ∨ i = 16 then 1 else 0 := rfl
    rw [e] at h
    by_cases z : (0 ≤ i ∧ i ≤ 5) ∨ i = 16
    · exact Or.inl ⟨rfl, z⟩
    · rw [if_neg z] at h; omega
  by_cases q2 : t = 2
  · subst q2
    have e : sD xs L (900 + 2) i = if i = 0 ∨ i = 1 then 1 else 0 := rfl
    rw [e] at h
    by_cases z : i = 0 ∨ i = 1
    · exact Or.inr (Or.inl ⟨rfl, z⟩)
    · rw [if_neg z] at h; omega
  by_cases q3 : t = 14 ∨ t = 23 ∨ t = 24 ∨ t = 25
  · have e : sD xs L (900 + t) i = if i = 8 then 1 else 0 := by
      rcases q3 with rfl | rfl | rfl | rfl <;> rfl
    rw [e] at h
    by_cases z : i = 8
    · exact Or.inr (Or.inr ⟨q3, z⟩)
    · rw [if_neg z] at h; omega
  · rw [sD_0 (by omega)] at h; omega
theorem sD_rg (hx : ∀ i, rg (xs i)) (hL : L ≤ 3584) : ∀ c i, rg (sD xs L c i) := by
  intro c i
  have := hx i
  unfold rg at *
  unfold sD
  (repeat' split) <;> omega
theorem q_fl {t : Nat} {i : Int} (h : (t = 0 ∧ ((0 ≤ i ∧ i ≤ 5) ∨ i = 16)) ∨ (t = 2 ∧ (i = 0 ∨ i = 1)) ∨ ((t = 14 ∨ t = 23 ∨ t = 24 ∨ t = 25) ∧ i = 8)) : (t = 0 ∧ i = 0) ∨ (t = 0 ∧ i = 1) ∨ (t = 0 ∧ i = 2) ∨ (t = 0 ∧ i = 3) ∨ (t = 0 ∧ i = 4) ∨ (t = 0 ∧ i = 5) ∨ (t = 0 ∧ i = 16) ∨ (t = 2 ∧ i = 0) ∨ (t = 2 ∧ i = 1) ∨ (t = 14 ∧ i = 8) ∨ (t = 23 ∧ i = 8) ∨ (t = 24 ∧ i = 8) ∨ (t = 25 ∧ i = 8) := by
  rcases h with ⟨h1, h2⟩ | ⟨h1, h2⟩ | ⟨h1, h2⟩
  · have h3 : i = 0 ∨ i = 1 ∨ i = 2 ∨ i = 3 ∨ i = 4 ∨ i = 5 ∨ i = 16 := by omega
    rcases h3 with h3 | h3 | h3 | h3 | h3 | h3 | h3
    · exact Or.inl ⟨h1, h3⟩
    · exact Or.inr (Or.inl ⟨h1, h3⟩)
    · exact Or.inr (Or.inr (Or.inl ⟨h1, h3⟩))
    · exact Or.inr (Or.inr (Or.inr (Or.inl ⟨h1, h3⟩)))
    · exact Or.inr (Or.inr (Or.inr (Or.inr (Or.inl ⟨h1, h3⟩))))
    · exact Or.inr (Or.inr (Or.inr (Or.inr (Or.inr (Or.inl ⟨h1, h3⟩)))))
    · exact Or.inr (Or.inr (Or.inr (Or.inr (Or.inr (Or.inr (Or.inl ⟨h1, h3⟩))))))
  · rcases h2 with h2 | h2
    · exact Or.inr (Or.inr (Or.inr (Or.inr (Or.inr (Or.inr (Or.inr (Or.inl ⟨h1, h2⟩)))))))
    · exact Or.inr (Or.inr (Or.inr (Or.inr (Or.inr (Or.inr (Or.inr (Or.inr (Or.inl ⟨h1, h2⟩))))))))
  · rcases h1 with h1 | h1 | h1 | h1
    · exact Or.inr (Or.inr (Or.inr (Or.inr (Or.inr (Or.inr (Or.inr (Or.inr (Or.inr (Or.inl ⟨h1, h2⟩)))))))))
    · exact Or.inr (Or.inr (Or.inr (Or.inr (Or.inr (Or.inr (Or.inr (Or.inr (Or.inr (Or.inr (Or.inl ⟨h1, h2⟩))))))))))
    · exact Or.inr (Or.inr (Or.inr (Or.inr (Or.inr (Or.inr (Or.inr (Or.inr (Or.inr (Or.inr (Or.inr (Or.inl ⟨h1, h2⟩)))))))))))
    · exact Or.inr (Or.inr (Or.inr (Or.inr (Or.inr (Or.inr (Or.inr (Or.inr (Or.inr (Or.inr (Or.inr (Or.inr (⟨h1, h2⟩))))))))))))
def sInvA (a : Nat) : Nat × Int := if a = 37 then (0, 0) else if a = 38 then (0, 1) else if a = 39 then (0, 2) else if a = 40 then (0, 3) else if a = 41 then (0, 4) else if a = 51 then (0, 5) else if a = 43 then (0, 16) else if a = 63 then (2, 0) else if a = 65 then (2, 1) else if a = 42 then (14, 8) else if a = 44 then (23, 8) else if a = 45 then (24, 8) else if a = 46 then (25, 8) else (0, 0)
theorem sInvA_eq {t : Nat} {i : Int} (h : (t = 0 ∧ i = 0) ∨ (t = 0 ∧ i = 1) ∨ (t = 0 ∧ i = 2) ∨ (t = 0 ∧ i = 3) ∨ (t = 0 ∧ i = 4) ∨ (t = 0 ∧ i = 5) ∨ (t = 0 ∧ i = 16) ∨ (t = 2 ∧ i = 0) ∨ (t = 2 ∧ i = 1) ∨ (t = 14 ∧ i = 8) ∨ (t = 23 ∧ i = 8) ∨ (t = 24 ∧ i = 8) ∨ (t = 25 ∧ i = 8)) : sInvA (sA t i) = (t, i) := by
  rcases h with ⟨rfl, rfl⟩ | ⟨rfl, rfl⟩ | ⟨rfl, rfl⟩ | ⟨rfl, rfl⟩ | ⟨rfl, rfl⟩ | ⟨rfl, rfl⟩ | ⟨rfl, rfl⟩ | ⟨rfl, rfl⟩ | ⟨rfl, rfl⟩ | ⟨rfl, rfl⟩ | ⟨rfl, rfl⟩ | ⟨rfl, rfl⟩ | ⟨rfl, rfl⟩ <;> rfl
theorem mq_0 {A : aA} : mkT A (sD xs L) 2 0 = zQ 5 6 := by
  show (Sum.inr (Sum.inr (5, 6, fun k => if sD xs L 1200 k < 0 then none else some (A 11 (sD xs L 1200 k)))) : am_Ce) = _
  rfl
theorem mq_1 {A : aA} : mkT A (sD xs L) 2 1 = zQ 9 6 := by
  show (Sum.inr (Sum.inr (9, 6, fun k => if sD xs L 1201 k < 0 then none else some (A 10 (sD xs L 1201 k)))) : am_Ce) = _
  rfl
theorem mr_6 {t : Nat} (ht : t = 23 ∨ t = 24 ∨ t = 25) : mkT sA (sD xs L) t 8 = r6 := by
  rw [mkT_r (by omega)]
  have e : sD xs L (1000 + 100 * t) 8 = 6 := by rcases ht with rfl | rfl | rfl <;> rfl
  have e2 : (fun q : Nat => if q < 1024 then wz (sD xs L (1001 + 100 * t) (1024 * 8 + q)) else 0) = fun _ => (0 : Int32) := by
    funext q
    split
    · rw [sD_0 (by omega)]; rfl
    · rfl
  rw [e, e2]; rfl
theorem sCl : Cl sA (sD xs L) := by
  have z : ∀ c i, (c ≠ 0 ∧ c ≠ 1 ∧ c ≠ 36 ∧ c ≠ 47 ∧ c ≠ 70 ∧ c ≠ 900 ∧ c ≠ 902 ∧ c ≠ 914 ∧ c ≠ 923 ∧ c ≠ 924 ∧ c ≠ 925 ∧ c ≠ 950 ∧ c ≠ 951 ∧ c ≠ 1200 ∧ c ≠ 1201 ∧ c ≠ 2400 ∧ c ≠ 2406 ∧ c ≠ 2410 ∧ c ≠ 3300 ∧ c ≠ 3400 ∧ c ≠ 3500) → sD xs L c i = 0 := fun c i h => sD_0 h
  refine ⟨?_, ?_, ?_, ?_, ?_, ?_, ?_, ?_, ?_, ?_, ?_, ?_⟩
  · intro l _
    rw [z 1002 l (by decide), z 901 l (by decide)]
    exact ⟨by decide, by decide, Or.inr ⟨rfl, by decide, rfl⟩⟩
  · intro l i _ h0 h1
    rw [z 1002 l (by decide)] at h1; omega
  · intro i h; rw [z 910 i (by decide)] at h; omega
  · intro i h; rw [z 911 i (by decide)] at h; omega
  · intro i h; rw [z 913 i (by decide)] at h; omega
  · intro i h
    have : i = 8 := by
      have := sD_fl (t := 14) (by decide) h
      omega
    subst this
    exact ⟨rfl, rfl, rfl, rfl⟩
  · intro i h; rw [z 915 i (by decide)] at h; omega
  · intro i h; rw [z 916 i (by decide)] at h; omega
  · intro i
    have e : sD xs L 1200 i = -1 := rfl
    rw [e]; exact Or.inl (by decide)
  · intro i
    have e : sD xs L 1201 i = -1 := rfl
    rw [e]; exact Or.inl (by decide)
  · intro t i t1 t2 h
    have := sD_fl (by omega) h
    by_cases q : t = 23 ∨ t = 24 ∨ t = 25
    · have hi : i = 8 := by omega
      subst hi
      have e : sD xs L (1000 + 100 * t) 8 = 6 := by rcases q with rfl | rfl | rfl <;> rfl
      rw [e]; decide
    · omega
  · exact ⟨rfl, rfl, rfl, rfl, rfl, rfl, rfl, rfl, rfl, rfl, rfl, rfl, rfl⟩
set_option maxRecDepth 100000 in
theorem sRp0 : Rp0 sA (sD xs L) (hp0 xs L, 41124) := by
  refine ⟨⟨?_, ?_⟩, ?_, ?_, ?_, ⟨?_, rfl⟩, sCl⟩
  · show (hp0 xs L)[0]? = some (Sum.inr (Sum.inl (0, ((L : Nat) : Int).toNat, fun i : Nat => wz (xs i))))
    rw [Int.toNat_natCast]; rfl
  · intro a c ha hc
    have hlt : a < 32 := (List.getElem?_eq_some_iff.mp hc).1
    show (hp0 xs L)[a]? = some c
    unfold hp0
    rw [List.append_assoc, List.getElem?_append_left (show a < (old xs L).length from hlt)]
    unfold old
    obtain ⟨b, rfl⟩ : ∃ b, a = b + 1 := ⟨a - 1, by omega⟩
    rw [List.getElem?_cons_succ, List.getElem?_tail]
    exact hc
  · intro a sh h
    have hj : shl[a]? = some (some sh) := by
      unfold shp at h
      cases hq : shl[a]? with
      | none => rw [hq] at h; cases h
      | some o => rw [hq] at h; exact congrArg some h
    have := All2_at shl (hp0 xs L) 0 st_all a sh hj
    rw [Nat.zero_add] at this
    exact this
  · intro t i ht h
    rcases q_fl (sD_fl ht h) with ⟨rfl, rfl⟩ | ⟨rfl, rfl⟩ | ⟨rfl, rfl⟩ | ⟨rfl, rfl⟩ | ⟨rfl, rfl⟩ | ⟨rfl, rfl⟩ | ⟨rfl, rfl⟩ | ⟨rfl, rfl⟩ | ⟨rfl, rfl⟩ | ⟨rfl, rfl⟩ | ⟨rfl, rfl⟩ | ⟨rfl, rfl⟩ | ⟨rfl, rfl⟩
    · exact ⟨rfl, by decide, rfl⟩
    · exact ⟨rfl, by decide, rfl⟩
    · exact ⟨rfl, by decide, rfl⟩
    · exact ⟨rfl, by decide, rfl⟩
    · exact ⟨rfl, by decide, rfl⟩
    · exact ⟨rfl, by decide, rfl⟩
    · exact ⟨rfl, by decide, rfl⟩
    · exact ⟨by rw [mq_0]; rfl, by decide, rfl⟩
    · exact ⟨by rw [mq_1]; rfl, by decide, rfl⟩
    · exact ⟨rfl, by decide, rfl⟩
    · exact ⟨by rw [mr_6 (by decide)]; rfl, by decide, rfl⟩
    · exact ⟨by rw [mr_6 (by decide)]; rfl, by decide, rfl⟩
    · exact ⟨by rw [mr_6 (by decide)]; rfl, by decide, rfl⟩
  · intro t i t' i' ht ht' h h' e
    have q := q_fl (sD_fl ht h)
    have q' := q_fl (sD_fl ht' h')
    have k1 := sInvA_eq q
    have k2 := sInvA_eq q'
    rw [e, k2] at k1
    exact ⟨(congrArg Prod.fst k1).symm, (congrArg Prod.snd k1).symm⟩
  · rw [hp0_len]; rfl
theorem sInv : Inv (sD xs L) := by
  have z : ∀ c i, (c ≠ 0 ∧ c ≠ 1 ∧ c ≠ 36 ∧ c ≠ 47 ∧ c ≠ 70 ∧ c ≠ 900 ∧ c ≠ 902 ∧ c ≠ 914 ∧ c ≠ 923 ∧ c ≠ 924 ∧ c ≠ 925 ∧ c ≠ 950 ∧ c ≠ 951 ∧ c ≠ 1200 ∧ c ≠ 1201 ∧ c ≠ 2400 ∧ c ≠ 2406 ∧ c ≠ 2410 ∧ c ≠ 3300 ∧ c ≠ 3400 ∧ c ≠ 3500) → sD xs L c i = 0 := fun c i h => sD_0 h
  have s70 : ∀ i, i ≠ 32 → sD xs L 70 i = 0 := fun i h => by
    have e : sD xs L 70 i = if i = 32 then -1 else 0 := rfl
    rw [e, if_neg h]
  refine ⟨⟨?_, ?_, ?_, ?_, ?_, ?_, ?_, ?_, ?_, ?_, ?_, ?_, ?_, ?_, ?_⟩, ⟨?_, ?_, ?_, ?_, rfl, ?_⟩⟩
  · unfold I_ct
    rw [z 32 14 (by decide), z 32 15 (by decide), s70 0 (by decide), s70 1 (by decide), s70 2 (by decide), s70 3 (by decide), s70 4 (by decide), z 1002 0 (by decide), z 1002 1 (by decide), z 1002 5 (by decide)]
    decide
  · unfold I_cu
    rw [z 32 16 (by decide), z 32 17 (by decide), s70 51 (by decide), s70 78 (by decide), s70 83 (by decide), s70 84 (by decide), z 1002 2 (by decide), z 1002 3 (by decide)]
    decide
  · unfold I_tp
    rw [s70 28 (by decide)]
    exact ⟨⟨rfl, by decide, by decide⟩, rfl, fun i i0 i1 => absurd i1 (by omega)⟩
  · intro i _ _
    rw [z 33 i (by decide), z 76 i (by decide)]; decide
  · intro i i0 i1; rw [s70 2 (by decide)] at i1; omega
  · intro i i0 i1; rw [s70 1 (by decide)] at i1; omega
  · intro i i0 i1; rw [s70 3 (by decide)] at i1; omega
  · intro i i0 i1; rw [s70 4 (by decide)] at i1; omega
  · refine ⟨fun i i0 i1 => ?_, fun i i0 i1 => ?_⟩
    · rw [s70 4 (by decide)] at i1; omega
    · rw [s70 83 (by decide)] at i1; omega
  · intro i i0 i1; rw [s70 51 (by decide)] at i1; omega
  · intro i i0 i1; rw [s70 78 (by decide)] at i1; omega
  · refine ⟨fun i i0 i1 => ?_, fun i i0 i1 => ?_⟩
    · rw [s70 1 (by decide)] at i1; omega
    · rw [s70 3 (by decide)] at i1; omega
  · exact ⟨fun i _ _ => z 114 i (by decide), fun i _ _ => z 115 i (by decide)⟩
  · intro i i0 i1
    have e : sD xs L 36 i = if 0 ≤ i ∧ i < 24 then -1 else 0 := rfl
    rw [e, if_pos ⟨i0, i1⟩, z 116 i (by decide), s70 3 (by decide)]
    exact ⟨by decide, by decide, by decide, fun _ => rfl⟩
  · unfold I_cn
    rw [z 62 7 (by decide), z 62 8 (by decide), s70 68 (by decide), s70 69 (by decide)]
    refine ⟨by decide, by decide, fun i i0 i1 => absurd i1 (by omega), fun i i0 i1 => absurd i1 (by omega), fun i i0 i1 => absurd i1 (by omega), fun i j i0 i1 i2 => absurd i2 (by omega), fun i j i0 i1 i2 => absurd i2 (by omega), fun i j i0 i1 i2 => absurd i2 (by omega)⟩
  · rw [z 1002 4 (by decide), s70 26 (by decide)]; decide
  · rw [s70 26 (by decide), s70 27 (by decide)]; decide
  · intro r r0 r1; rw [s70 26 (by decide)] at r1; omega
  · have wl : ∀ (Q : aD) a b, w_last Q (-1) a b = -1 := fun Q a b => if_pos rfl
    have tle : ∀ (Q : aD) a b z, tl Q (-1) a b z = z := fun Q a b z => by unfold tl; rw [wl, if_pos rfl]
    unfold Hdr
    simp only [tle, wl, if_true]
    exact ⟨⟨rfl, z 2407 8 (by decide), z 2408 8 (by decide), z 2409 8 (by decide), rfl, z 2411 8 (by decide)⟩, fun p _ _ => z 3301 _ (by decide), rfl, rfl, rfl⟩
  · exact z 1002 16 (by decide)
theorem sHp : Hp (sD xs L) := by
  have z : ∀ c i, (c ≠ 0 ∧ c ≠ 1 ∧ c ≠ 36 ∧ c ≠ 47 ∧ c ≠ 70 ∧ c ≠ 900 ∧ c ≠ 902 ∧ c ≠ 914 ∧ c ≠ 923 ∧ c ≠ 924 ∧ c ≠ 925 ∧ c ≠ 950 ∧ c ≠ 951 ∧ c ≠ 1200 ∧ c ≠ 1201 ∧ c ≠ 2400 ∧ c ≠ 2406 ∧ c ≠ 2410 ∧ c ≠ 3300 ∧ c ≠ 3400 ∧ c ≠ 3500) → sD xs L c i = 0 := fun c i h => sD_0 h
  refine ⟨?_, ?_, ?_, ?_, ?_, ?_, ?_, ?_, ?_⟩
  · intro l h; rw [z 901 l (by decide)] at h; omega
  · intro i h; rw [z 910 i (by decide), z 920 i (by decide)] at h; omega
  · intro i h; rw [z 911 i (by decide), z 921 i (by decide)] at h; omega
  · intro i h; rw [z 912 i (by decide)] at h; omega
  · intro i h; rw [z 913 i (by decide)] at h; omega
  · intro i h; rw [z 915 i (by decide)] at h; omega
  · intro i h
    refine Or.inl ?_
    rcases h with h | h | h | h
    · have := sD_fl (t := 14) (by decide) h; omega
    · have := sD_fl (t := 23) (by decide) h; omega
    · have := sD_fl (t := 24) (by decide) h; omega
    · have := sD_fl (t := 25) (by decide) h; omega
  · intro l h
    have := sD_fl (t := 0) (by decide) h
    omega
  · intro i h; rw [z 916 i (by decide), z 922 i (by decide)] at h; omega
/-- the law, run -/
theorem law_run (hx : ∀ i, rg (xs i)) (hL : L ≤ 3584) : ∃ s', dn 201 0 [am_r (some 0)] (old xs L, 0) = some (some (am_i (wz 1)), s') ∧ s'.1.length ≤ 51335 ∧ s'.2 ≤ 1577124 := by
  have hR : Rp 0 sA (sD xs L) (hp0 xs L, 41124) := Rp_dn (m := 2) (by decide) (fun _ _ => rfl) (sD_rg hx hL) (Rp2.mpr ⟨sD_rg hx hL, sRp0⟩)
  obtain ⟨s', A', D', e1, e2, e3, e4⟩ := law_loop (L := L) (xs := xs) (U := 41124) hL ⟨by decide, by decide⟩ 512 0 sA (sD xs L) (hp0 xs L, 41124) (by omega) (by omega) hR sInv sHp rfl rfl (by show (135 : Int) ≤ _; omega) (by show (41124 : Int) ≤ _; omega)
  have hl := Rp_len e2
  have h951 : D' 951 0 = (s'.2 : Int) := by
    obtain ⟨_, F, H⟩ := e2
    have := H.2.2.2.2.1.2
    rw [mxx_v rfl] at this; exact this
  have h950 : D' 950 0 = (s'.1.length : Int) := by
    obtain ⟨_, F, H⟩ := e2
    have := H.2.2.2.2.1.1
    rw [mxx_v rfl] at this; exact this
  refine ⟨s', ?_, by omega, by omega⟩
  rw [dn_s (P := P_L_law) (n := 4) (lo := [some (am_r (some 0)), none, none, none]) rfl rfl rfl]
  refine (x_new (q := 3) (fs := am_dfl 12) rfl rfl rfl rfl).trans ?_
  refine (m_dup (q := 4) rfl rfl rfl rfl).trans ?_
  refine (x_cp (rk := 0) (r := some 32) (as := []) (rest := [am_r (some 32)]) (q := 7) rfl rfl rfl rfl rfl rfl rfl rfl rfl rfl (is_of (fs := am_dfl 12) rfl)).trans ?_
  refine (congrArg (fun z => am_ans 0 z (fun st s => mr 200 P_L_law 7 [some (am_r (some 0)), none, none, none] st s) [am_r (some 32)]) (q70 (d := 194) (g := old xs L) (u := 18) rfl)).trans ?_
  refine (m_astore_n (P := P_L_law) (q := 8) (lo' := [some (am_r (some 0)), some (am_r (some 32)), none, none]) rfl rfl rfl rfl rfl).trans ?_
  refine (x_new (q := 11) (fs := am_dfl 13) rfl rfl rfl rfl).trans ?_
  refine (m_dup (q := 12) rfl rfl rfl rfl).trans ?_
  refine (x_cp (rk := 0) (r := some 70) (as := []) (rest := [am_r (some 70)]) (q := 15) rfl rfl rfl rfl rfl rfl rfl rfl rfl rfl (is_of (fs := am_dfl 13) rfl)).trans ?_
  refine (congrArg (fun z => am_ans 0 z (fun st s => mr 200 P_L_law 15 [some (am_r (some 0)), some (am_r (some 32)), none, none] st s) [am_r (some 70)]) (q120 (d := 199) (u := 4043) rfl)).trans ?_
  refine (m_astore_n (P := P_L_law) (q := 16) (lo' := [some (am_r (some 0)), some (am_r (some 32)), some (am_r (some 70)), none]) rfl rfl rfl rfl rfl).trans ?_
  refine (m_iconst (q := 17) rfl rfl rfl).trans ?_
  refine (m_istore_n (q := 18) (lo' := LOl 0) rfl rfl rfl rfl rfl).trans ?_
  exact e1
end St2
