/-! The reference reads a statement: its end. -/
section Mse
variable {n : Nat} {A : aA} {D D' : aD} {T : Int → Int} {N a : Int}
abbrev P_X12_statement : Nat → Option am_E := am_fy tb_X12_statement
def K_X12_statement_377 (n : Nat) (c : Nat) (A : aA) (D : aD) (a2 : Int) (x : Int) (D' : aD) : Prop := Lp n c P_X12_statement 377 [some (am_r (some 70)), none, some (am_i (wz a2))] [] A D (ri x) A D'
def K_X12_statement_394 (n : Nat) (c : Nat) (A : aA) (D : aD) (x : Int) (D' : aD) : Prop := Lp n c P_X12_statement 394 [none, none, none] [] A D (ri x) A D'
def K_X12_statement_395 (n : Nat) (c : Nat) (A : aA) (D : aD) (ta0 : Int) (x : Int) (D' : aD) : Prop := Lp n c P_X12_statement 395 [none, none, none] [am_i (wz ta0)] A D (ri x) A D'
set_option maxRecDepth 100000 in
theorem rl_X12_statement {n : Nat} {A : aA} {D D' : aD} {c : Nat} (hc : 5 ≤ c) (a1 : Int) (h1 : rg a1) {x : Int} (hp : (0 ≤ a1 ∧ a1 < 270) ∧ (p_X12_takes (up D 95 a1 0) (6710629 : Int64)) ∧ (if w_tk (up D 95 a1 0) (6710629 : Int64) = 0 then (p_X12_takes (u_tk (up D 95 a1 0) (6710629 : Int64)) (121424973488997 : Int64)) ∧ (if w_tk (u_tk (up D 95 a1 0) (6710629 : Int64)) (121424973488997 : Int64) = 0 then (p_X12_takes (u_tk (u_tk (up D 95 a1 0) (6710629 : Int64)) (121424973488997 : Int64)) (1650549611 : Int64)) ∧ (if w_tk (u_tk (u_tk (up D 95 a1 0) (6710629 : Int64)) (121424973488997 : Int64)) (1650549611 : Int64) = 0 then (p_X12_takes (u_tk (u_tk (u_tk (up D 95 a1 0) (6710629 : Int64)) (121424973488997 : Int64)) (1650549611 : Int64)) (6383461 : Int64)) ∧ (if w_tk (u_tk (u_tk (u_tk (up D 95 a1 0) (6710629 : Int64)) (121424973488997 : Int64)) (1650549611 : Int64)) (6383461 : Int64) = 0 then (p_X12_takes (u_tk (u_tk (u_tk (u_tk (up D 95 a1 0) (6710629 : Int64)) (121424973488997 : Int64)) (1650549611 : Int64)) (6383461 : Int64)) (465557353332 : Int64)) ∧ (if w_tk (u_tk (u_tk (u_tk (u_tk (up D 95 a1 0) (6710629 : Int64)) (121424973488997 : Int64)) (1650549611 : Int64)) (6383461 : Int64)) (465557353332 : Int64) = 0 then (p_X12_takes (u_tk (u_tk (u_tk (u_tk (u_tk (up D 95 a1 0) (6710629 : Int64)) (121424973488997 : Int64)) (1650549611 : Int64)) (6383461 : Int64)) (465557353332 : Int64)) (6447474 : Int64)) ∧ (if w_tk (u_tk (u_tk (u_tk (u_tk (u_tk (up D 95 a1 0) (6710629 : Int64)) (121424973488997 : Int64)) (1650549611 : Int64)) (6383461 : Int64)) (465557353332 : Int64)) (6447474 : Int64) = 0 then (p_X12_takes (u_tk (u_tk (u_tk (u_tk (u_tk (u_tk (up D 95 a1 0) (6710629 : Int64)) (121424973488997 : Int64)) (1650549611 : Int64)) (6383461 : Int64)) (465557353332 : Int64)) (6447474 : Int64)) (1937007984 : Int64)) ∧ (if w_tk (u_tk (u_tk (u_tk (u_tk (u_tk (u_tk (up D 95 a1 0) (6710629 : Int64)) (121424973488997 : Int64)) (1650549611 : Int64)) (6383461 : Int64)) (465557353332 : Int64)) (6447474 : Int64)) (1937007984 : Int64) = 0 then (p_X12_takes (u_tk (u_tk (u_tk (u_tk (u_tk (u_tk (u_tk (up D 95 a1 0) (6710629 : Int64)) (121424973488997 : Int64)) (1650549611 : Int64)) (6383461 : Int64)) (465557353332 : Int64)) (6447474 : Int64)) (1937007984 : Int64)) (6451064 : Int64)) ∧ (if w_tk (u_tk (u_tk (u_tk (u_tk (u_tk (u_tk (u_tk (up D 95 a1 0) (6710629 : Int64)) (121424973488997 : Int64)) (1650549611 : Int64)) (6383461 : Int64)) (465557353332 : Int64)) (6447474 : Int64)) (1937007984 : Int64)) (6451064 : Int64) = 0 then (p_X12_takes (up (u_tk (u_tk (u_tk (u_tk (u_tk (u_tk (u_tk (u_tk (up D 95 a1 0) (6710629 : Int64)) (121424973488997 : Int64)) (1650549611 : Int64)) (6383461 : Int64)) (465557353332 : Int64)) (6447474 : Int64)) (1937007984 : Int64)) (6451064 : Int64)) 94 a1 8) (448310438260 : Int64)) ∧ (if w_tk (up (u_tk (u_tk (u_tk (u_tk (u_tk (u_tk (u_tk (u_tk (up D 95 a1 0) (6710629 : Int64)) (121424973488997 : Int64)) (1650549611 : Int64)) (6383461 : Int64)) (465557353332 : Int64)) (6447474 : Int64)) (1937007984 : Int64)) (6451064 : Int64)) 94 a1 8) (448310438260 : Int64) = 0 then K_X12_statement_377 (n + 1) c A (u_tk (up (u_tk (u_tk (u_tk (u_tk (u_tk (u_tk (u_tk (u_tk (up D 95 a1 0) (6710629 : Int64)) (121424973488997 : Int64)) (1650549611 : Int64)) (6383461 : Int64)) (465557353332 : Int64)) (6447474 : Int64)) (1937007984 : Int64)) (6451064 : Int64)) 94 a1 8) (448310438260 : Int64)) 0 x D' else (p_X12_plain (u_tk (up (u_tk (u_tk (u_tk (u_tk (u_tk (u_tk (u_tk (u_tk (up D 95 a1 0) (6710629 : Int64)) (121424973488997 : Int64)) (1650549611 : Int64)) (6383461 : Int64)) (465557353332 : Int64)) (6447474 : Int64)) (1937007984 : Int64)) (6451064 : Int64)) 94 a1 8) (448310438260 : Int64)) a1) ∧ (if v_X12_plain (u_tk (up (u_tk (u_tk (u_tk (u_tk (u_tk (u_tk (u_tk (u_tk (up D 95 a1 0) (6710629 : Int64)) (121424973488997 : Int64)) (1650549611 : Int64)) (6383461 : Int64)) (465557353332 : Int64)) (6447474 : Int64)) (1937007984 : Int64)) (6451064 : Int64)) 94 a1 8) (448310438260 : Int64)) a1 = 0 then K_X12_statement_377 (n + 1) c A (u_X12_plain (u_tk (up (u_tk (u_tk (u_tk (u_tk (u_tk (u_tk (u_tk (u_tk (up D 95 a1 0) (6710629 : Int64)) (121424973488997 : Int64)) (1650549611 : Int64)) (6383461 : Int64)) (465557353332 : Int64)) (6447474 : Int64)) (1937007984 : Int64)) (6451064 : Int64)) 94 a1 8) (448310438260 : Int64)) a1) 0 x D' else K_X12_statement_377 (n + 1) c A (u_X12_plain (u_tk (up (u_tk (u_tk (u_tk (u_tk (u_tk (u_tk (u_tk (u_tk (up D 95 a1 0) (6710629 : Int64)) (121424973488997 : Int64)) (1650549611 : Int64)) (6383461 : Int64)) (465557353332 : Int64)) (6447474 : Int64)) (1937007984 : Int64)) (6451064 : Int64)) 94 a1 8) (448310438260 : Int64)) a1) 1 x D')) else (p_X12_plain (up (u_tk (u_tk (u_tk (u_tk (u_tk (u_tk (u_tk (u_tk (up D 95 a1 0) (6710629 : Int64)) (121424973488997 : Int64)) (1650549611 : Int64)) (6383461 : Int64)) (465557353332 : Int64)) (6447474 : Int64)) (1937007984 : Int64)) (6451064 : Int64)) 94 a1 7) a1) ∧ K_X12_statement_377 (n + 1) c A (u_X12_plain (up (u_tk (u_tk (u_tk (u_tk (u_tk (u_tk (u_tk (u_tk (up D 95 a1 0) (6710629 : Int64)) (121424973488997 : Int64)) (1650549611 : Int64)) (6383461 : Int64)) (465557353332 : Int64)) (6447474 : Int64)) (1937007984 : Int64)) (6451064 : Int64)) 94 a1 7) a1) (v_X12_plain (up (u_tk (u_tk (u_tk (u_tk (u_tk (u_tk (u_tk (u_tk (up D 95 a1 0) (6710629 : Int64)) (121424973488997 : Int64)) (1650549611 : Int64)) (6383461 : Int64)) (465557353332 : Int64)) (6447474 : Int64)) (1937007984 : Int64)) (6451064 : Int64)) 94 a1 7) a1) x D') else (p_X12_postHere (up (u_tk (u_tk (u_tk (u_tk (u_tk (u_tk (u_tk (up D 95 a1 0) (6710629 : Int64)) (121424973488997 : Int64)) (1650549611 : Int64)) (6383461 : Int64)) (465557353332 : Int64)) (6447474 : Int64)) (1937007984 : Int64)) 94 a1 6)) ∧ (if v_X12_postHere (up (u_tk (u_tk (u_tk (u_tk (u_tk (u_tk (u_tk (up D 95 a1 0) (6710629 : Int64)) (121424973488997 : Int64)) (1650549611 : Int64)) (6383461 : Int64)) (465557353332 : Int64)) (6447474 : Int64)) (1937007984 : Int64)) 94 a1 6) = (-1) then K_X12_statement_377 (n + 1) c A (up (up (u_X12_postHere (up (u_tk (u_tk (u_tk (u_tk (u_tk (u_tk (u_tk (up D 95 a1 0) (6710629 : Int64)) (121424973488997 : Int64)) (1650549611 : Int64)) (6383461 : Int64)) (465557353332 : Int64)) (6447474 : Int64)) (1937007984 : Int64)) 94 a1 6)) 95 a1 (v_X12_postHere (up (u_tk (u_tk (u_tk (u_tk (u_tk (u_tk (u_tk (up D 95 a1 0) (6710629 : Int64)) (121424973488997 : Int64)) (1650549611 : Int64)) (6383461 : Int64)) (465557353332 : Int64)) (6447474 : Int64)) (1937007984 : Int64)) 94 a1 6))) 97 a1 (-1)) 0 x D' else (p_X12_postHere (up (u_X12_postHere (up (u_tk (u_tk (u_tk (u_tk (u_tk (u_tk (u_tk (up D 95 a1 0) (6710629 : Int64)) (121424973488997 : Int64)) (1650549611 : Int64)) (6383461 : Int64)) (465557353332 : Int64)) (6447474 : Int64)) (1937007984 : Int64)) 94 a1 6)) 95 a1 (v_X12_postHere (up (u_tk (u_tk (u_tk (u_tk (u_tk (u_tk (u_tk (up D 95 a1 0) (6710629 : Int64)) (121424973488997 : Int64)) (1650549611 : Int64)) (6383461 : Int64)) (465557353332 : Int64)) (6447474 : Int64)) (1937007984 : Int64)) 94 a1 6)))) ∧ (if v_X12_postHere (up (u_X12_postHere (up (u_tk (u_tk (u_tk (u_tk (u_tk (u_tk (u_tk (up D 95 a1 0) (6710629 : Int64)) (121424973488997 : Int64)) (1650549611 : Int64)) (6383461 : Int64)) (465557353332 : Int64)) (6447474 : Int64)) (1937007984 : Int64)) 94 a1 6)) 95 a1 (v_X12_postHere (up (u_tk (u_tk (u_tk (u_tk (u_tk (u_tk (u_tk (up D 95 a1 0) (6710629 : Int64)) (121424973488997 : Int64)) (1650549611 : Int64)) (6383461 : Int64)) (465557353332 : Int64)) (6447474 : Int64)) (1937007984 : Int64)) 94 a1 6))) = (-1) then K_X12_statement_377 (n + 1) c A (up (u_X12_postHere (up (u_X12_postHere (up (u_tk (u_tk (u_tk (u_tk (u_tk (u_tk (u_tk (up D 95 a1 0) (6710629 : Int64)) (121424973488997 : Int64)) (1650549611 : Int64)) (6383461 : Int64)) (465557353332 : Int64)) (6447474 : Int64)) (1937007984 : Int64)) 94 a1 6)) 95 a1 (v_X12_postHere (up (u_tk (u_tk (u_tk (u_tk (u_tk (u_tk (u_tk (up D 95 a1 0) (6710629 : Int64)) (121424973488997 : Int64)) (1650549611 : Int64)) (6383461 : Int64)) (465557353332 : Int64)) (6447474 : Int64)) (1937007984 : Int64)) 94 a1 6)))) 97 a1 (v_X12_postHere (up (u_X12_postHere (up (u_tk (u_tk (u_tk (u_tk (u_tk (u_tk (u_tk (up D 95 a1 0) (6710629 : Int64)) (121424973488997 : Int64)) (1650549611 : Int64)) (6383461 : Int64)) (465557353332 : Int64)) (6447474 : Int64)) (1937007984 : Int64)) 94 a1 6)) 95 a1 (v_X12_postHere (up (u_tk (u_tk (u_tk (u_tk (u_tk (u_tk (u_tk (up D 95 a1 0) (6710629 : Int64)) (121424973488997 : Int64)) (1650549611 : Int64)) (6383461 : Int64)) (465557353332 : Int64)) (6447474 : Int64)) (1937007984 : Int64)) 94 a1 6))))) 0 x D' else (p_X12_takes (up (u_X12_postHere (up (u_X12_postHere (up (u_tk (u_tk (u_tk (u_tk (u_tk (u_tk (u_tk (up D 95 a1 0) (6710629 : Int64)) (121424973488997 : Int64)) (1650549611 : Int64)) (6383461 : Int64)) (465557353332 : Int64)) (6447474 : Int64)) (1937007984 : Int64)) 94 a1 6)) 95 a1 (v_X12_postHere (up (u_tk (u_tk (u_tk (u_tk (u_tk (u_tk (u_tk (up D 95 a1 0) (6710629 : Int64)) (121424973488997 : Int64)) (1650549611 : Int64)) (6383461 : Int64)) (465557353332 : Int64)) (6447474 : Int64)) (1937007984 : Int64)) 94 a1 6)))) 97 a1 (v_X12_postHere (up (u_X12_postHere (up (u_tk (u_tk (u_tk (u_tk (u_tk (u_tk (u_tk (up D 95 a1 0) (6710629 : Int64)) (121424973488997 : Int64)) (1650549611 : Int64)) (6383461 : Int64)) (465557353332 : Int64)) (6447474 : Int64)) (1937007984 : Int64)) 94 a1 6)) 95 a1 (v_X12_postHere (up (u_tk (u_tk (u_tk (u_tk (u_tk (u_tk (u_tk (up D 95 a1 0) (6710629 : Int64)) (121424973488997 : Int64)) (1650549611 : Int64)) (6383461 : Int64)) (465557353332 : Int64)) (6447474 : Int64)) (1937007984 : Int64)) 94 a1 6))))) (418330731890 : Int64)) ∧ (if w_tk (up (u_X12_postHere (up (u_X12_postHere (up (u_tk (u_tk (u_tk (u_tk (u_tk (u_tk (u_tk (up D 95 a1 0) (6710629 : Int64)) (121424973488997 : Int64)) (1650549611 : Int64)) (6383461 : Int64)) (465557353332 : Int64)) (6447474 : Int64)) (1937007984 : Int64)) 94 a1 6)) 95 a1 (v_X12_postHere (up (u_tk (u_tk (u_tk (u_tk (u_tk (u_tk (u_tk (up D 95 a1 0) (6710629 : Int64)) (121424973488997 : Int64)) (1650549611 : Int64)) (6383461 : Int64)) (465557353332 : Int64)) (6447474 : Int64)) (1937007984 : Int64)) 94 a1 6)))) 97 a1 (v_X12_postHere (up (u_X12_postHere (up (u_tk (u_tk (u_tk (u_tk (u_tk (u_tk (u_tk (up D 95 a1 0) (6710629 : Int64)) (121424973488997 : Int64)) (1650549611 : Int64)) (6383461 : Int64)) (465557353332 : Int64)) (6447474 : Int64)) (1937007984 : Int64)) 94 a1 6)) 95 a1 (v_X12_postHere (up (u_tk (u_tk (u_tk (u_tk (u_tk (u_tk (u_tk (up D 95 a1 0) (6710629 : Int64)) (121424973488997 : Int64)) (1650549611 : Int64)) (6383461 : Int64)) (465557353332 : Int64)) (6447474 : Int64)) (1937007984 : Int64)) 94 a1 6))))) (418330731890 : Int64) = 0 then K_X12_statement_377 (n + 1) c A (u_tk (up (u_X12_postHere (up (u_X12_postHere (up (u_tk (u_tk (u_tk (u_tk (u_tk (u_tk (u_tk (up D 95 a1 0) (6710629 : Int64)) (121424973488997 : Int64)) (1650549611 : Int64)) (6383461 : Int64)) (465557353332 : Int64)) (6447474 : Int64)) (1937007984 : Int64)) 94 a1 6)) 95 a1 (v_X12_postHere (up (u_tk (u_tk (u_tk (u_tk (u_tk (u_tk (u_tk (up D 95 a1 0) (6710629 : Int64)) (121424973488997 : Int64)) (1650549611 : Int64)) (6383461 : Int64)) (465557353332 : Int64)) (6447474 : Int64)) (1937007984 : Int64)) 94 a1 6)))) 97 a1 (v_X12_postHere (up (u_X12_postHere (up (u_tk (u_tk (u_tk (u_tk (u_tk (u_tk (u_tk (up D 95 a1 0) (6710629 : Int64)) (121424973488997 : Int64)) (1650549611 : Int64)) (6383461 : Int64)) (465557353332 : Int64)) (6447474 : Int64)) (1937007984 : Int64)) 94 a1 6)) 95 a1 (v_X12_postHere (up (u_tk (u_tk (u_tk (u_tk (u_tk (u_tk (u_tk (up D 95 a1 0) (6710629 : Int64)) (121424973488997 : Int64)) (1650549611 : Int64)) (6383461 : Int64)) (465557353332 : Int64)) (6447474 : Int64)) (1937007984 : Int64)) 94 a1 6))))) (418330731890 : Int64)) 0 x D' else (p_X12_plain (u_tk (up (u_X12_postHere (up (u_X12_postHere (up (u_tk (u_tk (u_tk (u_tk (u_tk (u_tk (u_tk (up D 95 a1 0) (6710629 : Int64)) (121424973488997 : Int64)) (1650549611 : Int64)) (6383461 : Int64)) (465557353332 : Int64)) (6447474 : Int64)) (1937007984 : Int64)) 94 a1 6)) 95 a1 (v_X12_postHere (up (u_tk (u_tk (u_tk (u_tk (u_tk (u_tk (u_tk (up D 95 a1 0) (6710629 : Int64)) (121424973488997 : Int64)) (1650549611 : Int64)) (6383461 : Int64)) (465557353332 : Int64)) (6447474 : Int64)) (1937007984 : Int64)) 94 a1 6)))) 97 a1 (v_X12_postHere (up (u_X12_postHere (up (u_tk (u_tk (u_tk (u_tk (u_tk (u_tk (u_tk (up D 95 a1 0) (6710629 : Int64)) (121424973488997 : Int64)) (1650549611 : Int64)) (6383461 : Int64)) (465557353332 : Int64)) (6447474 : Int64)) (1937007984 : Int64)) 94 a1 6)) 95 a1 (v_X12_postHere (up (u_tk (u_tk (u_tk (u_tk (u_tk (u_tk (u_tk (up D 95 a1 0) (6710629 : Int64)) (121424973488997 : Int64)) (1650549611 : Int64)) (6383461 : Int64)) (465557353332 : Int64)) (6447474 : Int64)) (1937007984 : Int64)) 94 a1 6))))) (418330731890 : Int64)) a1) ∧ (if v_X12_plain (u_tk (up (u_X12_postHere (up (u_X12_postHere (up (u_tk (u_tk (u_tk (u_tk (u_tk (u_tk (u_tk (up D 95 a1 0) (6710629 : Int64)) (121424973488997 : Int64)) (1650549611 : Int64)) (6383461 : Int64)) (465557353332 : Int64)) (6447474 : Int64)) (1937007984 : Int64)) 94 a1 6)) 95 a1 (v_X12_postHere (up (u_tk (u_tk (u_tk (u_tk (u_tk (u_tk (u_tk (up D 95 a1 0) (6710629 : Int64)) (121424973488997 : Int64)) (1650549611 : Int64)) (6383461 : Int64)) (465557353332 : Int64)) (6447474 : Int64)) (1937007984 : Int64)) 94 a1 6)))) 97 a1 (v_X12_postHere (up (u_X12_postHere (up (u_tk (u_tk (u_tk (u_tk (u_tk (u_tk (u_tk (up D 95 a1 0) (6710629 : Int64)) (121424973488997 : Int64)) (1650549611 : Int64)) (6383461 : Int64)) (465557353332 : Int64)) (6447474 : Int64)) (1937007984 : Int64)) 94 a1 6)) 95 a1 (v_X12_postHere (up (u_tk (u_tk (u_tk (u_tk (u_tk (u_tk (u_tk (up D 95 a1 0) (6710629 : Int64)) (121424973488997 : Int64)) (1650549611 : Int64)) (6383461 : Int64)) (465557353332 : Int64)) (6447474 : Int64)) (1937007984 : Int64)) 94 a1 6))))) (418330731890 : Int64)) a1 = 0 then K_X12_statement_377 (n + 1) c A (u_X12_plain (u_tk (up (u_X12_postHere (up (u_X12_postHere (up (u_tk (u_tk (u_tk (u_tk (u_tk (u_tk (u_tk (up D 95 a1 0) (6710629 : Int64)) (121424973488997 : Int64)) (1650549611 : Int64)) (6383461 : Int64)) (465557353332 : Int64)) (6447474 : Int64)) (1937007984 : Int64)) 94 a1 6)) 95 a1 (v_X12_postHere (up (u_tk (u_tk (u_tk (u_tk (u_tk (u_tk (u_tk (up D 95 a1 0) (6710629 : Int64)) (121424973488997 : Int64)) (1650549611 : Int64)) (6383461 : Int64)) (465557353332 : Int64)) (6447474 : Int64)) (1937007984 : Int64)) 94 a1 6)))) 97 a1 (v_X12_postHere (up (u_X12_postHere (up (u_tk (u_tk (u_tk (u_tk (u_tk (u_tk (u_tk (up D 95 a1 0) (6710629 : Int64)) (121424973488997 : Int64)) (1650549611 : Int64)) (6383461 : Int64)) (465557353332 : Int64)) (6447474 : Int64)) (1937007984 : Int64)) 94 a1 6)) 95 a1 (v_X12_postHere (up (u_tk (u_tk (u_tk (u_tk (u_tk (u_tk (u_tk (up D 95 a1 0) (6710629 : Int64)) (121424973488997 : Int64)) (1650549611 : Int64)) (6383461 : Int64)) (465557353332 : Int64)) (6447474 : Int64)) (1937007984 : Int64)) 94 a1 6))))) (418330731890 : Int64)) a1) 0 x D' else K_X12_statement_377 (n + 1) c A (u_X12_plain (u_tk (up (u_X12_postHere (up (u_X12_postHere (up (u_tk (u_tk (u_tk (u_tk (u_tk (u_tk (u_tk (up D 95 a1 0) (6710629 : Int64)) (121424973488997 : Int64)) (1650549611 : Int64)) (6383461 : Int64)) (465557353332 : Int64)) (6447474 : Int64)) (1937007984 : Int64)) 94 a1 6)) 95 a1 (v_X12_postHere (up (u_tk (u_tk (u_tk (u_tk (u_tk (u_tk (u_tk (up D 95 a1 0) (6710629 : Int64)) (121424973488997 : Int64)) (1650549611 : Int64)) (6383461 : Int64)) (465557353332 : Int64)) (6447474 : Int64)) (1937007984 : Int64)) 94 a1 6)))) 97 a1 (v_X12_postHere (up (u_X12_postHere (up (u_tk (u_tk (u_tk (u_tk (u_tk (u_tk (u_tk (up D 95 a1 0) (6710629 : Int64)) (121424973488997 : Int64)) (1650549611 : Int64)) (6383461 : Int64)) (465557353332 : Int64)) (6447474 : Int64)) (1937007984 : Int64)) 94 a1 6)) 95 a1 (v_X12_postHere (up (u_tk (u_tk (u_tk (u_tk (u_tk (u_tk (u_tk (up D 95 a1 0) (6710629 : Int64)) (121424973488997 : Int64)) (1650549611 : Int64)) (6383461 : Int64)) (465557353332 : Int64)) (6447474 : Int64)) (1937007984 : Int64)) 94 a1 6))))) (418330731890 : Int64)) a1) 1 x D'))))) else (p_X12_takes (up (u_tk (u_tk (u_tk (u_tk (u_tk (u_tk (up D 95 a1 0) (6710629 : Int64)) (121424973488997 : Int64)) (1650549611 : Int64)) (6383461 : Int64)) (465557353332 : Int64)) (6447474 : Int64)) 94 a1 5) (109300298179432 : Int64)) ∧ K_X12_statement_377 (n + 1) c A (u_tk (up (u_tk (u_tk (u_tk (u_tk (u_tk (u_tk (up D 95 a1 0) (6710629 : Int64)) (121424973488997 : Int64)) (1650549611 : Int64)) (6383461 : Int64)) (465557353332 : Int64)) (6447474 : Int64)) 94 a1 5) (109300298179432 : Int64)) (w_tk (up (u_tk (u_tk (u_tk (u_tk (u_tk (u_tk (up D 95 a1 0) (6710629 : Int64)) (121424973488997 : Int64)) (1650549611 : Int64)) (6383461 : Int64)) (465557353332 : Int64)) (6447474 : Int64)) 94 a1 5) (109300298179432 : Int64)) x D') else (p_X12_ofPost (up (u_tk (u_tk (u_tk (u_tk (u_tk (up D 95 a1 0) (6710629 : Int64)) (121424973488997 : Int64)) (1650549611 : Int64)) (6383461 : Int64)) (465557353332 : Int64)) 94 a1 4) a1) ∧ (if v_X12_ofPost (up (u_tk (u_tk (u_tk (u_tk (u_tk (up D 95 a1 0) (6710629 : Int64)) (121424973488997 : Int64)) (1650549611 : Int64)) (6383461 : Int64)) (465557353332 : Int64)) 94 a1 4) a1 = 0 then K_X12_statement_377 (n + 1) c A (u_X12_ofPost (up (u_tk (u_tk (u_tk (u_tk (u_tk (up D 95 a1 0) (6710629 : Int64)) (121424973488997 : Int64)) (1650549611 : Int64)) (6383461 : Int64)) (465557353332 : Int64)) 94 a1 4) a1) 0 x D' else (∃ x88 : Int, ∃ D89 : aD, (Ev (n + 1) c 165 [am_r (some 70), am_i (wz a1)] A (u_X12_ofPost (up (u_tk (u_tk (u_tk (u_tk (u_tk (up D 95 a1 0) (6710629 : Int64)) (121424973488997 : Int64)) (1650549611 : Int64)) (6383461 : Int64)) (465557353332 : Int64)) 94 a1 4) a1) (ri x88) A D89 ∧ 0 ≤ x88 ∧ x88 ≤ 1) ∧ (if x88 = 0 then K_X12_statement_377 (n + 1) c A D89 0 x D' else K_X12_statement_377 (n + 1) c A D89 1 x D')))) else (p_X12_ofPost (up (u_tk (u_tk (u_tk (u_tk (up D 95 a1 0) (6710629 : Int64)) (121424973488997 : Int64)) (1650549611 : Int64)) (6383461 : Int64)) 94 a1 3) a1) ∧ K_X12_statement_377 (n + 1) c A (u_X12_ofPost (up (u_tk (u_tk (u_tk (u_tk (up D 95 a1 0) (6710629 : Int64)) (121424973488997 : Int64)) (1650549611 : Int64)) (6383461 : Int64)) 94 a1 3) a1) (v_X12_ofPost (up (u_tk (u_tk (u_tk (u_tk (up D 95 a1 0) (6710629 : Int64)) (121424973488997 : Int64)) (1650549611 : Int64)) (6383461 : Int64)) 94 a1 3) a1) x D') else (p_mnum (up (u_tk (u_tk (u_tk (up D 95 a1 0) (6710629 : Int64)) (121424973488997 : Int64)) (1650549611 : Int64)) 94 a1 2) 100) ∧ (if w_mn (up (u_tk (u_tk (u_tk (up D 95 a1 0) (6710629 : Int64)) (121424973488997 : Int64)) (1650549611 : Int64)) 94 a1 2) 100 = 0 then K_X12_statement_377 (n + 1) c A (up (up (u_mn (up (u_tk (u_tk (u_tk (up D 95 a1 0) (6710629 : Int64)) (121424973488997 : Int64)) (1650549611 : Int64)) 94 a1 2) 100) 96 a1 ((u_mn (up (u_tk (u_tk (u_tk (up D 95 a1 0) (6710629 : Int64)) (121424973488997 : Int64)) (1650549611 : Int64)) 94 a1 2) 100) 70 50)) 97 a1 ((u_mn (up (u_tk (u_tk (u_tk (up D 95 a1 0) (6710629 : Int64)) (121424973488997 : Int64)) (1650549611 : Int64)) 94 a1 2) 100) 70 50)) 0 x D' else (p_X12_takes (up (u_mn (up (u_tk (u_tk (u_tk (up D 95 a1 0) (6710629 : Int64)) (121424973488997 : Int64)) (1650549611 : Int64)) 94 a1 2) 100) 96 a1 ((u_mn (up (u_tk (u_tk (u_tk (up D 95 a1 0) (6710629 : Int64)) (121424973488997 : Int64)) (1650549611 : Int64)) 94 a1 2) 100) 70 50)) (131294808271214 : Int64)) ∧ (if w_tk (up (u_mn (up (u_tk (u_tk (u_tk (up D 95 a1 0) (6710629 : Int64)) (121424973488997 : Int64)) (1650549611 : Int64)) 94 a1 2) 100) 96 a1 ((u_mn (up (u_tk (u_tk (u_tk (up D 95 a1 0) (6710629 : Int64)) (121424973488997 : Int64)) (1650549611 : Int64)) 94 a1 2) 100) 70 50)) (131294808271214 : Int64) = 0 then K_X12_statement_377 (n + 1) c A (up (u_tk (up (u_mn (up (u_tk (u_tk (u_tk (up D 95 a1 0) (6710629 : Int64)) (121424973488997 : Int64)) (1650549611 : Int64)) 94 a1 2) 100) 96 a1 ((u_mn (up (u_tk (u_tk (u_tk (up D 95 a1 0) (6710629 : Int64)) (121424973488997 : Int64)) (1650549611 : Int64)) 94 a1 2) 100) 70 50)) (131294808271214 : Int64)) 97 a1 ((u_tk (up (u_mn (up (u_tk (u_tk (u_tk (up D 95 a1 0) (6710629 : Int64)) (121424973488997 : Int64)) (1650549611 : Int64)) 94 a1 2) 100) 96 a1 ((u_mn (up (u_tk (u_tk (u_tk (up D 95 a1 0) (6710629 : Int64)) (121424973488997 : Int64)) (1650549611 : Int64)) 94 a1 2) 100) 70 50)) (131294808271214 : Int64)) 70 50)) 0 x D' else (p_X12_takesPlain (u_tk (up (u_mn (up (u_tk (u_tk (u_tk (up D 95 a1 0) (6710629 : Int64)) (121424973488997 : Int64)) (1650549611 : Int64)) 94 a1 2) 100) 96 a1 ((u_mn (up (u_tk (u_tk (u_tk (up D 95 a1 0) (6710629 : Int64)) (121424973488997 : Int64)) (1650549611 : Int64)) 94 a1 2) 100) 70 50)) (131294808271214 : Int64))) ∧ (if v_X12_takesPlain (u_tk (up (u_mn (up (u_tk (u_tk (u_tk (up D 95 a1 0) (6710629 : Int64)) (121424973488997 : Int64)) (1650549611 : Int64)) 94 a1 2) 100) 96 a1 ((u_mn (up (u_tk (u_tk (u_tk (up D 95 a1 0) (6710629 : Int64)) (121424973488997 : Int64)) (1650549611 : Int64)) 94 a1 2) 100) 70 50)) (131294808271214 : Int64)) = 0 then K_X12_statement_377 (n + 1) c A (up (u_X12_takesPlain (u_tk (up (u_mn (up (u_tk (u_tk (u_tk (up D 95 a1 0) (6710629 : Int64)) (121424973488997 : Int64)) (1650549611 : Int64)) 94 a1 2) 100) 96 a1 ((u_mn (up (u_tk (u_tk (u_tk (up D 95 a1 0) (6710629 : Int64)) (121424973488997 : Int64)) (1650549611 : Int64)) 94 a1 2) 100) 70 50)) (131294808271214 : Int64))) 97 a1 ((u_X12_takesPlain (u_tk (up (u_mn (up (u_tk (u_tk (u_tk (up D 95 a1 0) (6710629 : Int64)) (121424973488997 : Int64)) (1650549611 : Int64)) 94 a1 2) 100) 96 a1 ((u_mn (up (u_tk (u_tk (u_tk (up D 95 a1 0) (6710629 : Int64)) (121424973488997 : Int64)) (1650549611 : Int64)) 94 a1 2) 100) 70 50)) (131294808271214 : Int64))) 70 50)) 0 x D' else K_X12_statement_377 (n + 1) c A (up (u_X12_takesPlain (u_tk (up (u_mn (up (u_tk (u_tk (u_tk (up D 95 a1 0) (6710629 : Int64)) (121424973488997 : Int64)) (1650549611 : Int64)) 94 a1 2) 100) 96 a1 ((u_mn (up (u_tk (u_tk (u_tk (up D 95 a1 0) (6710629 : Int64)) (121424973488997 : Int64)) (1650549611 : Int64)) 94 a1 2) 100) 70 50)) (131294808271214 : Int64))) 97 a1 ((u_X12_takesPlain (u_tk (up (u_mn (up (u_tk (u_tk (u_tk (up D 95 a1 0) (6710629 : Int64)) (121424973488997 : Int64)) (1650549611 : Int64)) 94 a1 2) 100) 96 a1 ((u_mn (up (u_tk (u_tk (u_tk (up D 95 a1 0) (6710629 : Int64)) (121424973488997 : Int64)) (1650549611 : Int64)) 94 a1 2) 100) 70 50)) (131294808271214 : Int64))) 70 50)) 1 x D')))) else (p_X12_plain (up (u_tk (u_tk (up D 95 a1 0) (6710629 : Int64)) (121424973488997 : Int64)) 94 a1 1) a1) ∧ K_X12_statement_377 (n + 1) c A (u_X12_plain (up (u_tk (u_tk (up D 95 a1 0) (6710629 : Int64)) (121424973488997 : Int64)) 94 a1 1) a1) (v_X12_plain (up (u_tk (u_tk (up D 95 a1 0) (6710629 : Int64)) (121424973488997 : Int64)) 94 a1 1) a1) x D') else (∃ x130 : Int, ∃ D131 : aD, (Ev (n + 1) c 166 [am_r (some 70), am_i (wz a1)] A (up (u_tk (up D 95 a1 0) (6710629 : Int64)) 94 a1 0) (ri x130) A D131 ∧ 0 ≤ x130 ∧ x130 ≤ 1) ∧ K_X12_statement_377 (n + 1) c A D131 x130 x D'))) : Ev (n + 1) (c + 1) 169 [am_r (some 70), am_i (wz a1)] A D (ri x) A D' := by
  refine Ev_of (c := c) (P := P_X12_statement) (lo := [some (am_r (some 70)), some (am_i (wz a1)), none]) rfl rfl rfl (fun d hd s hr => ?_)
  refine ok (m_aload_n (q := 1) rfl rfl rfl rfl) ?_
  refine ok (m_gfc (q := 4) rfl rfl rfl hr rfl rfl rfl) ?_
  refine ok (m_iload_n (q := 5) rfl rfl rfl rfl) ?_
  refine ok (m_iconst (q := 6) rfl rfl rfl) ?_
  obtain ⟨g3, hp⟩ := hp
  refine oke (e_ias (q := 7) rfl rfl rfl hr rfl rfl g3 ⟨by decide, by decide⟩) (fun s2 r1 => ?_)
  refine ok (m_aload_n (q := 8) rfl rfl rfl rfl) ?_
  refine ok (m_ldc2_w (q := 11) rfl rfl rfl) ?_
  obtain ⟨g6, hp⟩ := hp
  refine oke (e_ci (x_cv (q := 14) rfl rfl rfl rfl rfl rfl rfl rfl rfl rfl (is_st r1 rfl rfl)) (ev_tk (D := (up D 95 a1 0)) (6710629 : Int64) g6) (Nat.le_trans (by decide) (Nat.le_trans hc hd)) r1) (fun s4 r5 => ?_)
  refine okc (m_ifeq (qt := 33) (qf := 17) rfl rfl (Ev_rg (ev_tk (D := (up D 95 a1 0)) (6710629 : Int64) g6) r1) rfl rfl) (fun c7 => ?_) (fun c7 => ?_)
  · replace hp := ip c7 hp
    refine ok (m_aload_n (q := 34) rfl rfl rfl rfl) ?_
    refine ok (m_ldc2_w (q := 37) rfl rfl rfl) ?_
    obtain ⟨g10, hp⟩ := hp
    refine oke (e_ci (x_cv (q := 40) rfl rfl rfl rfl rfl rfl rfl rfl rfl rfl (is_st r5 rfl rfl)) (ev_tk (D := (u_tk (up D 95 a1 0) (6710629 : Int64))) (121424973488997 : Int64) g10) (Nat.le_trans (by decide) (Nat.le_trans hc hd)) r5) (fun s8 r9 => ?_)
    refine okc (m_ifeq (qt := 59) (qf := 43) rfl rfl (Ev_rg (ev_tk (D := (u_tk (up D 95 a1 0) (6710629 : Int64))) (121424973488997 : Int64) g10) r5) rfl rfl) (fun c11 => ?_) (fun c11 => ?_)
    · replace hp := ip c11 hp
      refine ok (m_aload_n (q := 60) rfl rfl rfl rfl) ?_
      refine ok (m_ldc2_w (q := 63) rfl rfl rfl) ?_
      obtain ⟨g14, hp⟩ := hp
      refine oke (e_ci (x_cv (q := 66) rfl rfl rfl rfl rfl rfl rfl rfl rfl rfl (is_st r9 rfl rfl)) (ev_tk (D := (u_tk (u_tk (up D 95 a1 0) (6710629 : Int64)) (121424973488997 : Int64))) (1650549611 : Int64) g14) (Nat.le_trans (by decide) (Nat.le_trans hc hd)) r9) (fun s12 r13 => ?_)
      refine okc (m_ifeq (qt := 133) (qf := 69) rfl rfl (Ev_rg (ev_tk (D := (u_tk (u_tk (up D 95 a1 0) (6710629 : Int64)) (121424973488997 : Int64))) (1650549611 : Int64) g14) r9) rfl rfl) (fun c15 => ?_) (fun c15 => ?_)
      · replace hp := ip c15 hp
        refine ok (m_aload_n (q := 134) rfl rfl rfl rfl) ?_
        refine ok (m_ldc2_w (q := 137) rfl rfl rfl) ?_
        obtain ⟨g18, hp⟩ := hp
        refine oke (e_ci (x_cv (q := 140) rfl rfl rfl rfl rfl rfl rfl rfl rfl rfl (is_st r13 rfl rfl)) (ev_tk (D := (u_tk (u_tk (u_tk (up D 95 a1 0) (6710629 : Int64)) (121424973488997 : Int64)) (1650549611 : Int64))) (6383461 : Int64) g18) (Nat.le_trans (by decide) (Nat.le_trans hc hd)) r13) (fun s16 r17 => ?_)
        refine okc (m_ifeq (qt := 159) (qf := 143) rfl rfl (Ev_rg (ev_tk (D := (u_tk (u_tk (u_tk (up D 95 a1 0) (6710629 : Int64)) (121424973488997 : Int64)) (1650549611 : Int64))) (6383461 : Int64) g18) r13) rfl rfl) (fun c19 => ?_) (fun c19 => ?_)
        · replace hp := ip c19 hp
          refine ok (m_aload_n (q := 160) rfl rfl rfl rfl) ?_
          refine ok (m_ldc2_w (q := 163) rfl rfl rfl) ?_
          obtain ⟨g22, hp⟩ := hp
          refine oke (e_ci (x_cv (q := 166) rfl rfl rfl rfl rfl rfl rfl rfl rfl rfl (is_st r17 rfl rfl)) (ev_tk (D := (u_tk (u_tk (u_tk (u_tk (up D 95 a1 0) (6710629 : Int64)) (121424973488997 : Int64)) (1650549611 : Int64)) (6383461 : Int64))) (465557353332 : Int64) g22) (Nat.le_trans (by decide) (Nat.le_trans hc hd)) r17) (fun s20 r21 => ?_)
          refine okc (m_ifeq (qt := 201) (qf := 169) rfl rfl (Ev_rg (ev_tk (D := (u_tk (u_tk (u_tk (u_tk (up D 95 a1 0) (6710629 : Int64)) (121424973488997 : Int64)) (1650549611 : Int64)) (6383461 : Int64))) (465557353332 : Int64) g22) r17) rfl rfl) (fun c23 => ?_) (fun c23 => ?_)
          · replace hp := ip c23 hp
            refine ok (m_aload_n (q := 202) rfl rfl rfl rfl) ?_
            refine ok (m_ldc2_w (q := 205) rfl rfl rfl) ?_
            obtain ⟨g26, hp⟩ := hp
            refine oke (e_ci (x_cv (q := 208) rfl rfl rfl rfl rfl rfl rfl rfl rfl rfl (is_st r21 rfl rfl)) (ev_tk (D := (u_tk (u_tk (u_tk (u_tk (u_tk (up D 95 a1 0) (6710629 : Int64)) (121424973488997 : Int64)) (1650549611 : Int64)) (6383461 : Int64)) (465557353332 : Int64))) (6447474 : Int64) g26) (Nat.le_trans (by decide) (Nat.le_trans hc hd)) r21) (fun s24 r25 => ?_)
            refine okc (m_ifeq (qt := 229) (qf := 211) rfl rfl (Ev_rg (ev_tk (D := (u_tk (u_tk (u_tk (u_tk (u_tk (up D 95 a1 0) (6710629 : Int64)) (121424973488997 : Int64)) (1650549611 : Int64)) (6383461 : Int64)) (465557353332 : Int64))) (6447474 : Int64) g26) r21) rfl rfl) (fun c27 => ?_) (fun c27 => ?_)
            · replace hp := ip c27 hp
              refine ok (m_aload_n (q := 230) rfl rfl rfl rfl) ?_
              refine ok (m_ldc2_w (q := 233) rfl rfl rfl) ?_
              obtain ⟨g30, hp⟩ := hp
              refine oke (e_ci (x_cv (q := 236) rfl rfl rfl rfl rfl rfl rfl rfl rfl rfl (is_st r25 rfl rfl)) (ev_tk (D := (u_tk (u_tk (u_tk (u_tk (u_tk (u_tk (up D 95 a1 0) (6710629 : Int64)) (121424973488997 : Int64)) (1650549611 : Int64)) (6383461 : Int64)) (465557353332 : Int64)) (6447474 : Int64))) (1937007984 : Int64) g30) (Nat.le_trans (by decide) (Nat.le_trans hc hd)) r25) (fun s28 r29 => ?_)
              refine okc (m_ifeq (qt := 318) (qf := 239) rfl rfl (Ev_rg (ev_tk (D := (u_tk (u_tk (u_tk (u_tk (u_tk (u_tk (up D 95 a1 0) (6710629 : Int64)) (121424973488997 : Int64)) (1650549611 : Int64)) (6383461 : Int64)) (465557353332 : Int64)) (6447474 : Int64))) (1937007984 : Int64) g30) r25) rfl rfl) (fun c31 => ?_) (fun c31 => ?_)
              · replace hp := ip c31 hp
                refine ok (m_aload_n (q := 319) rfl rfl rfl rfl) ?_
                refine ok (m_ldc2_w (q := 322) rfl rfl rfl) ?_
                obtain ⟨g34, hp⟩ := hp
                refine oke (e_ci (x_cv (q := 325) rfl rfl rfl rfl rfl rfl rfl rfl rfl rfl (is_st r29 rfl rfl)) (ev_tk (D := (u_tk (u_tk (u_tk (u_tk (u_tk (u_tk (u_tk (up D 95 a1 0) (6710629 : Int64)) (121424973488997 : Int64)) (1650549611 : Int64)) (6383461 : Int64)) (465557353332 : Int64)) (6447474 : Int64)) (1937007984 : Int64))) (6451064 : Int64) g34) (Nat.le_trans (by decide) (Nat.le_trans hc hd)) r29) (fun s32 r33 => ?_)
                refine okc (m_ifeq (qt := 345) (qf := 328) rfl rfl (Ev_rg (ev_tk (D := (u_tk (u_tk (u_tk (u_tk (u_tk (u_tk (u_tk (up D 95 a1 0) (6710629 : Int64)) (121424973488997 : Int64)) (1650549611 : Int64)) (6383461 : Int64)) (465557353332 : Int64)) (6447474 : Int64)) (1937007984 : Int64))) (6451064 : Int64) g34) r29) rfl rfl) (fun c35 => ?_) (fun c35 => ?_)
                · replace hp := ip c35 hp
                  refine ok (m_aload_n (q := 346) rfl rfl rfl rfl) ?_
                  refine ok (m_gfc (q := 349) rfl rfl rfl r33 rfl rfl rfl) ?_
                  refine ok (m_iload_n (q := 350) rfl rfl rfl rfl) ?_
                  refine ok (m_bipush (q := 352) rfl rfl rfl) ?_
                  refine oke (e_ias (q := 353) rfl rfl rfl r33 rfl rfl g3 ⟨by decide, by decide⟩) (fun s37 r36 => ?_)
                  refine ok (m_aload_n (q := 354) rfl rfl rfl rfl) ?_
                  refine ok (m_ldc2_w (q := 357) rfl rfl rfl) ?_
                  obtain ⟨g40, hp⟩ := hp
                  refine oke (e_ci (x_cv (q := 360) rfl rfl rfl rfl rfl rfl rfl rfl rfl rfl (is_st r36 rfl rfl)) (ev_tk (D := (up (u_tk (u_tk (u_tk (u_tk (u_tk (u_tk (u_tk (u_tk (up D 95 a1 0) (6710629 : Int64)) (121424973488997 : Int64)) (1650549611 : Int64)) (6383461 : Int64)) (465557353332 : Int64)) (6447474 : Int64)) (1937007984 : Int64)) (6451064 : Int64)) 94 a1 8)) (448310438260 : Int64) g40) (Nat.le_trans (by decide) (Nat.le_trans hc hd)) r36) (fun s38 r39 => ?_)
                  refine okc (m_ifeq (qt := 375) (qf := 363) rfl rfl (Ev_rg (ev_tk (D := (up (u_tk (u_tk (u_tk (u_tk (u_tk (u_tk (u_tk (u_tk (up D 95 a1 0) (6710629 : Int64)) (121424973488997 : Int64)) (1650549611 : Int64)) (6383461 : Int64)) (465557353332 : Int64)) (6447474 : Int64)) (1937007984 : Int64)) (6451064 : Int64)) 94 a1 8)) (448310438260 : Int64) g40) r36) rfl rfl) (fun c41 => ?_) (fun c41 => ?_)
                  · replace hp := ip c41 hp
                    refine ok (m_iconst (q := 376) rfl rfl rfl) ?_
                    refine ok (m_istore_n (q := 377) (lo' := [some (am_r (some 70)), some (am_i (wz a1)), some (am_i (wz 0))]) rfl rfl rfl rfl rfl) ?_
                    refine ok (mk rfl (lo' := [some (am_r (some 70)), none, some (am_i (wz 0))]) rfl) ?_
                    exact hp d hd _ r39
                  · replace hp := iq c41 hp
                    refine ok (m_aload_n (q := 364) rfl rfl rfl rfl) ?_
                    refine ok (m_iload_n (q := 365) rfl rfl rfl rfl) ?_
                    obtain ⟨g44, hp⟩ := hp
                    refine oke (e_ci (x_cv (q := 368) rfl rfl rfl rfl rfl rfl rfl rfl rfl rfl (is_st r39 rfl rfl)) (ev_X12_plain (D := (u_tk (up (u_tk (u_tk (u_tk (u_tk (u_tk (u_tk (u_tk (u_tk (up D 95 a1 0) (6710629 : Int64)) (121424973488997 : Int64)) (1650549611 : Int64)) (6383461 : Int64)) (465557353332 : Int64)) (6447474 : Int64)) (1937007984 : Int64)) (6451064 : Int64)) 94 a1 8) (448310438260 : Int64))) a1 h1 g44) (Nat.le_trans (by decide) (Nat.le_trans hc hd)) r39) (fun s42 r43 => ?_)
                    refine okc (m_ifeq (qt := 375) (qf := 371) rfl rfl (Ev_rg (ev_X12_plain (D := (u_tk (up (u_tk (u_tk (u_tk (u_tk (u_tk (u_tk (u_tk (u_tk (up D 95 a1 0) (6710629 : Int64)) (121424973488997 : Int64)) (1650549611 : Int64)) (6383461 : Int64)) (465557353332 : Int64)) (6447474 : Int64)) (1937007984 : Int64)) (6451064 : Int64)) 94 a1 8) (448310438260 : Int64))) a1 h1 g44) r39) rfl rfl) (fun c45 => ?_) (fun c45 => ?_)
                    · replace hp := ip c45 hp
                      refine ok (m_iconst (q := 376) rfl rfl rfl) ?_
                      refine ok (m_istore_n (q := 377) (lo' := [some (am_r (some 70)), some (am_i (wz a1)), some (am_i (wz 0))]) rfl rfl rfl rfl rfl) ?_
                      refine ok (mk rfl (lo' := [some (am_r (some 70)), none, some (am_i (wz 0))]) rfl) ?_
                      exact hp d hd _ r43
                    · replace hp := iq c45 hp
                      refine ok (m_iconst (q := 372) rfl rfl rfl) ?_
                      refine ok (m_goto (q := 376) rfl rfl rfl) ?_
                      refine ok (m_istore_n (q := 377) (lo' := [some (am_r (some 70)), some (am_i (wz a1)), some (am_i (wz 1))]) rfl rfl rfl rfl rfl) ?_
                      refine ok (mk rfl (lo' := [some (am_r (some 70)), none, some (am_i (wz 1))]) rfl) ?_
                      exact hp d hd _ r43
                · replace hp := iq c35 hp
                  refine ok (m_aload_n (q := 329) rfl rfl rfl rfl) ?_
                  refine ok (m_gfc (q := 332) rfl rfl rfl r33 rfl rfl rfl) ?_
                  refine ok (m_iload_n (q := 333) rfl rfl rfl rfl) ?_
                  refine ok (m_bipush (q := 335) rfl rfl rfl) ?_
                  refine oke (e_ias (q := 336) rfl rfl rfl r33 rfl rfl g3 ⟨by decide, by decide⟩) (fun s47 r46 => ?_)
                  refine ok (m_aload_n (q := 337) rfl rfl rfl rfl) ?_
                  refine ok (m_iload_n (q := 338) rfl rfl rfl rfl) ?_
                  obtain ⟨g50, hp⟩ := hp
                  refine oke (e_ci (x_cv (q := 341) rfl rfl rfl rfl rfl rfl rfl rfl rfl rfl (is_st r46 rfl rfl)) (ev_X12_plain (D := (up (u_tk (u_tk (u_tk (u_tk (u_tk (u_tk (u_tk (u_tk (up D 95 a1 0) (6710629 : Int64)) (121424973488997 : Int64)) (1650549611 : Int64)) (6383461 : Int64)) (465557353332 : Int64)) (6447474 : Int64)) (1937007984 : Int64)) (6451064 : Int64)) 94 a1 7)) a1 h1 g50) (Nat.le_trans (by decide) (Nat.le_trans hc hd)) r46) (fun s48 r49 => ?_)
                  refine ok (m_istore_n (q := 342) (lo' := [some (am_r (some 70)), some (am_i (wz a1)), some (am_i (wz (v_X12_plain (up (u_tk (u_tk (u_tk (u_tk (u_tk (u_tk (u_tk (u_tk (up D 95 a1 0) (6710629 : Int64)) (121424973488997 : Int64)) (1650549611 : Int64)) (6383461 : Int64)) (465557353332 : Int64)) (6447474 : Int64)) (1937007984 : Int64)) (6451064 : Int64)) 94 a1 7) a1)))]) rfl rfl rfl rfl rfl) ?_
                  refine ok (m_goto (q := 377) rfl rfl rfl) ?_
                  refine ok (mk rfl (lo' := [some (am_r (some 70)), none, some (am_i (wz (v_X12_plain (up (u_tk (u_tk (u_tk (u_tk (u_tk (u_tk (u_tk (u_tk (up D 95 a1 0) (6710629 : Int64)) (121424973488997 : Int64)) (1650549611 : Int64)) (6383461 : Int64)) (465557353332 : Int64)) (6447474 : Int64)) (1937007984 : Int64)) (6451064 : Int64)) 94 a1 7) a1)))]) rfl) ?_
                  exact hp d hd _ r49
              · replace hp := iq c31 hp
                refine ok (m_aload_n (q := 240) rfl rfl rfl rfl) ?_
                refine ok (m_gfc (q := 243) rfl rfl rfl r29 rfl rfl rfl) ?_
                refine ok (m_iload_n (q := 244) rfl rfl rfl rfl) ?_
                refine ok (m_bipush (q := 246) rfl rfl rfl) ?_
                refine oke (e_ias (q := 247) rfl rfl rfl r29 rfl rfl g3 ⟨by decide, by decide⟩) (fun s52 r51 => ?_)
                refine ok (m_aload_n (q := 248) rfl rfl rfl rfl) ?_
                refine ok (m_gfc (q := 251) rfl rfl rfl r51 rfl rfl rfl) ?_
                refine ok (m_iload_n (q := 252) rfl rfl rfl rfl) ?_
                refine ok (m_aload_n (q := 253) rfl rfl rfl rfl) ?_
                obtain ⟨g55, hp⟩ := hp
                refine oke (e_ci (x_cv (q := 256) rfl rfl rfl rfl rfl rfl rfl rfl rfl rfl (is_st r51 rfl rfl)) (ev_X12_postHere (D := (up (u_tk (u_tk (u_tk (u_tk (u_tk (u_tk (u_tk (up D 95 a1 0) (6710629 : Int64)) (121424973488997 : Int64)) (1650549611 : Int64)) (6383461 : Int64)) (465557353332 : Int64)) (6447474 : Int64)) (1937007984 : Int64)) 94 a1 6)) g55) (Nat.le_trans (by decide) (Nat.le_trans hc hd)) r51) (fun s53 r54 => ?_)
                refine oke (e_ias (q := 257) rfl rfl rfl r54 rfl rfl g3 (Ev_rg (ev_X12_postHere (D := (up (u_tk (u_tk (u_tk (u_tk (u_tk (u_tk (u_tk (up D 95 a1 0) (6710629 : Int64)) (121424973488997 : Int64)) (1650549611 : Int64)) (6383461 : Int64)) (465557353332 : Int64)) (6447474 : Int64)) (1937007984 : Int64)) 94 a1 6)) g55) r51)) (fun s57 r56 => ?_)
                refine ok (m_aload_n (q := 258) rfl rfl rfl rfl) ?_
                refine ok (m_gfc (q := 261) rfl rfl rfl r56 rfl rfl rfl) ?_
                refine ok (m_iload_n (q := 262) rfl rfl rfl rfl) ?_
                refine ok (m_aload_n (q := 263) rfl rfl rfl rfl) ?_
                refine ok (m_gfc (q := 266) rfl rfl rfl r56 rfl rfl rfl) ?_
                refine ok (m_iload_n (q := 267) rfl rfl rfl rfl) ?_
                refine ok (m_ials (q := 268) (w := v_X12_postHere (up (u_tk (u_tk (u_tk (u_tk (u_tk (u_tk (u_tk (up D 95 a1 0) (6710629 : Int64)) (121424973488997 : Int64)) (1650549611 : Int64)) (6383461 : Int64)) (465557353332 : Int64)) (6447474 : Int64)) (1937007984 : Int64)) 94 a1 6)) rfl rfl rfl r56 rfl rfl g3 up_eq) ?_
                refine ok (m_iconst (q := 269) rfl rfl rfl) ?_
                refine okc (m_cmpne (qt := 276) (qf := 272) rfl rfl (rg_c (Rp_rg r56 95 a1) up_eq) ⟨by decide, by decide⟩ rfl rfl) (fun c58 => ?_) (fun c58 => ?_)
                · replace hp := ip c58 hp
                  refine ok (m_iconst (q := 273) rfl rfl rfl) ?_
                  refine ok (m_goto (q := 280) rfl rfl rfl) ?_
                  refine oke (e_ias (q := 281) rfl rfl rfl r56 rfl rfl g3 ⟨by decide, by decide⟩) (fun s60 r59 => ?_)
                  refine ok (m_aload_n (q := 282) rfl rfl rfl rfl) ?_
                  refine ok (m_gfc (q := 285) rfl rfl rfl r59 rfl rfl rfl) ?_
                  refine ok (m_iload_n (q := 286) rfl rfl rfl rfl) ?_
                  refine ok (m_ials (q := 287) (w := (-1)) rfl rfl rfl r59 rfl rfl g3 up_eq) ?_
                  refine ok (m_iconst (q := 288) rfl rfl rfl) ?_
                  refine ok ((m_cmpeq (qt := 313) (qf := 291) rfl rfl (rg_c (Rp_rg r59 97 a1) up_eq) ⟨by decide, by decide⟩ rfl rfl).trans (if_pos (by decide))) ?_
                  refine ok (m_iconst (q := 314) rfl rfl rfl) ?_
                  refine ok (m_istore_n (q := 315) (lo' := [some (am_r (some 70)), some (am_i (wz a1)), some (am_i (wz 0))]) rfl rfl rfl rfl rfl) ?_
                  refine ok (m_goto (q := 377) rfl rfl rfl) ?_
                  refine ok (mk rfl (lo' := [some (am_r (some 70)), none, some (am_i (wz 0))]) rfl) ?_
                  exact hp d hd _ r59
                · replace hp := iq c58 hp
                  refine ok (m_aload_n (q := 277) rfl rfl rfl rfl) ?_
                  obtain ⟨g63, hp⟩ := hp
                  refine oke (e_ci (x_cv (q := 280) rfl rfl rfl rfl rfl rfl rfl rfl rfl rfl (is_st r56 rfl rfl)) (ev_X12_postHere (D := (up (u_X12_postHere (up (u_tk (u_tk (u_tk (u_tk (u_tk (u_tk (u_tk (up D 95 a1 0) (6710629 : Int64)) (121424973488997 : Int64)) (1650549611 : Int64)) (6383461 : Int64)) (465557353332 : Int64)) (6447474 : Int64)) (1937007984 : Int64)) 94 a1 6)) 95 a1 (v_X12_postHere (up (u_tk (u_tk (u_tk (u_tk (u_tk (u_tk (u_tk (up D 95 a1 0) (6710629 : Int64)) (121424973488997 : Int64)) (1650549611 : Int64)) (6383461 : Int64)) (465557353332 : Int64)) (6447474 : Int64)) (1937007984 : Int64)) 94 a1 6)))) g63) (Nat.le_trans (by decide) (Nat.le_trans hc hd)) r56) (fun s61 r62 => ?_)
                  refine oke (e_ias (q := 281) rfl rfl rfl r62 rfl rfl g3 (Ev_rg (ev_X12_postHere (D := (up (u_X12_postHere (up (u_tk (u_tk (u_tk (u_tk (u_tk (u_tk (u_tk (up D 95 a1 0) (6710629 : Int64)) (121424973488997 : Int64)) (1650549611 : Int64)) (6383461 : Int64)) (465557353332 : Int64)) (6447474 : Int64)) (1937007984 : Int64)) 94 a1 6)) 95 a1 (v_X12_postHere (up (u_tk (u_tk (u_tk (u_tk (u_tk (u_tk (u_tk (up D 95 a1 0) (6710629 : Int64)) (121424973488997 : Int64)) (1650549611 : Int64)) (6383461 : Int64)) (465557353332 : Int64)) (6447474 : Int64)) (1937007984 : Int64)) 94 a1 6)))) g63) r56)) (fun s65 r64 => ?_)
                  refine ok (m_aload_n (q := 282) rfl rfl rfl rfl) ?_
                  refine ok (m_gfc (q := 285) rfl rfl rfl r64 rfl rfl rfl) ?_
                  refine ok (m_iload_n (q := 286) rfl rfl rfl rfl) ?_
                  refine ok (m_ials (q := 287) (w := v_X12_postHere (up (u_X12_postHere (up (u_tk (u_tk (u_tk (u_tk (u_tk (u_tk (u_tk (up D 95 a1 0) (6710629 : Int64)) (121424973488997 : Int64)) (1650549611 : Int64)) (6383461 : Int64)) (465557353332 : Int64)) (6447474 : Int64)) (1937007984 : Int64)) 94 a1 6)) 95 a1 (v_X12_postHere (up (u_tk (u_tk (u_tk (u_tk (u_tk (u_tk (u_tk (up D 95 a1 0) (6710629 : Int64)) (121424973488997 : Int64)) (1650549611 : Int64)) (6383461 : Int64)) (465557353332 : Int64)) (6447474 : Int64)) (1937007984 : Int64)) 94 a1 6)))) rfl rfl rfl r64 rfl rfl g3 up_eq) ?_
                  refine ok (m_iconst (q := 288) rfl rfl rfl) ?_
                  refine okc (m_cmpeq (qt := 313) (qf := 291) rfl rfl (rg_c (Rp_rg r64 97 a1) up_eq) ⟨by decide, by decide⟩ rfl rfl) (fun c66 => ?_) (fun c66 => ?_)
                  · replace hp := ip c66 hp
                    refine ok (m_iconst (q := 314) rfl rfl rfl) ?_
                    refine ok (m_istore_n (q := 315) (lo' := [some (am_r (some 70)), some (am_i (wz a1)), some (am_i (wz 0))]) rfl rfl rfl rfl rfl) ?_
                    refine ok (m_goto (q := 377) rfl rfl rfl) ?_
                    refine ok (mk rfl (lo' := [some (am_r (some 70)), none, some (am_i (wz 0))]) rfl) ?_
                    exact hp d hd _ r64
                  · replace hp := iq c66 hp
                    refine ok (m_aload_n (q := 292) rfl rfl rfl rfl) ?_
                    refine ok (m_ldc2_w (q := 295) rfl rfl rfl) ?_
                    obtain ⟨g69, hp⟩ := hp
                    refine oke (e_ci (x_cv (q := 298) rfl rfl rfl rfl rfl rfl rfl rfl rfl rfl (is_st r64 rfl rfl)) (ev_tk (D := (up (u_X12_postHere (up (u_X12_postHere (up (u_tk (u_tk (u_tk (u_tk (u_tk (u_tk (u_tk (up D 95 a1 0) (6710629 : Int64)) (121424973488997 : Int64)) (1650549611 : Int64)) (6383461 : Int64)) (465557353332 : Int64)) (6447474 : Int64)) (1937007984 : Int64)) 94 a1 6)) 95 a1 (v_X12_postHere (up (u_tk (u_tk (u_tk (u_tk (u_tk (u_tk (u_tk (up D 95 a1 0) (6710629 : Int64)) (121424973488997 : Int64)) (1650549611 : Int64)) (6383461 : Int64)) (465557353332 : Int64)) (6447474 : Int64)) (1937007984 : Int64)) 94 a1 6)))) 97 a1 (v_X12_postHere (up (u_X12_postHere (up (u_tk (u_tk (u_tk (u_tk (u_tk (u_tk (u_tk (up D 95 a1 0) (6710629 : Int64)) (121424973488997 : Int64)) (1650549611 : Int64)) (6383461 : Int64)) (465557353332 : Int64)) (6447474 : Int64)) (1937007984 : Int64)) 94 a1 6)) 95 a1 (v_X12_postHere (up (u_tk (u_tk (u_tk (u_tk (u_tk (u_tk (u_tk (up D 95 a1 0) (6710629 : Int64)) (121424973488997 : Int64)) (1650549611 : Int64)) (6383461 : Int64)) (465557353332 : Int64)) (6447474 : Int64)) (1937007984 : Int64)) 94 a1 6)))))) (418330731890 : Int64) g69) (Nat.le_trans (by decide) (Nat.le_trans hc hd)) r64) (fun s67 r68 => ?_)
                    refine okc (m_ifeq (qt := 313) (qf := 301) rfl rfl (Ev_rg (ev_tk (D := (up (u_X12_postHere (up (u_X12_postHere (up (u_tk (u_tk (u_tk (u_tk (u_tk (u_tk (u_tk (up D 95 a1 0) (6710629 : Int64)) (121424973488997 : Int64)) (1650549611 : Int64)) (6383461 : Int64)) (465557353332 : Int64)) (6447474 : Int64)) (1937007984 : Int64)) 94 a1 6)) 95 a1 (v_X12_postHere (up (u_tk (u_tk (u_tk (u_tk (u_tk (u_tk (u_tk (up D 95 a1 0) (6710629 : Int64)) (121424973488997 : Int64)) (1650549611 : Int64)) (6383461 : Int64)) (465557353332 : Int64)) (6447474 : Int64)) (1937007984 : Int64)) 94 a1 6)))) 97 a1 (v_X12_postHere (up (u_X12_postHere (up (u_tk (u_tk (u_tk (u_tk (u_tk (u_tk (u_tk (up D 95 a1 0) (6710629 : Int64)) (121424973488997 : Int64)) (1650549611 : Int64)) (6383461 : Int64)) (465557353332 : Int64)) (6447474 : Int64)) (1937007984 : Int64)) 94 a1 6)) 95 a1 (v_X12_postHere (up (u_tk (u_tk (u_tk (u_tk (u_tk (u_tk (u_tk (up D 95 a1 0) (6710629 : Int64)) (121424973488997 : Int64)) (1650549611 : Int64)) (6383461 : Int64)) (465557353332 : Int64)) (6447474 : Int64)) (1937007984 : Int64)) 94 a1 6)))))) (418330731890 : Int64) g69) r64) rfl rfl) (fun c70 => ?_) (fun c70 => ?_)
                    · replace hp := ip c70 hp
                      refine ok (m_iconst (q := 314) rfl rfl rfl) ?_
                      refine ok (m_istore_n (q := 315) (lo' := [some (am_r (some 70)), some (am_i (wz a1)), some (am_i (wz 0))]) rfl rfl rfl rfl rfl) ?_
                      refine ok (m_goto (q := 377) rfl rfl rfl) ?_
                      refine ok (mk rfl (lo' := [some (am_r (some 70)), none, some (am_i (wz 0))]) rfl) ?_
                      exact hp d hd _ r68
                    · replace hp := iq c70 hp
                      refine ok (m_aload_n (q := 302) rfl rfl rfl rfl) ?_
                      refine ok (m_iload_n (q := 303) rfl rfl rfl rfl) ?_
                      obtain ⟨g73, hp⟩ := hp
                      refine oke (e_ci (x_cv (q := 306) rfl rfl rfl rfl rfl rfl rfl rfl rfl rfl (is_st r68 rfl rfl)) (ev_X12_plain (D := (u_tk (up (u_X12_postHere (up (u_X12_postHere (up (u_tk (u_tk (u_tk (u_tk (u_tk (u_tk (u_tk (up D 95 a1 0) (6710629 : Int64)) (121424973488997 : Int64)) (1650549611 : Int64)) (6383461 : Int64)) (465557353332 : Int64)) (6447474 : Int64)) (1937007984 : Int64)) 94 a1 6)) 95 a1 (v_X12_postHere (up (u_tk (u_tk (u_tk (u_tk (u_tk (u_tk (u_tk (up D 95 a1 0) (6710629 : Int64)) (121424973488997 : Int64)) (1650549611 : Int64)) (6383461 : Int64)) (465557353332 : Int64)) (6447474 : Int64)) (1937007984 : Int64)) 94 a1 6)))) 97 a1 (v_X12_postHere (up (u_X12_postHere (up (u_tk (u_tk (u_tk (u_tk (u_tk (u_tk (u_tk (up D 95 a1 0) (6710629 : Int64)) (121424973488997 : Int64)) (1650549611 : Int64)) (6383461 : Int64)) (465557353332 : Int64)) (6447474 : Int64)) (1937007984 : Int64)) 94 a1 6)) 95 a1 (v_X12_postHere (up (u_tk (u_tk (u_tk (u_tk (u_tk (u_tk (u_tk (up D 95 a1 0) (6710629 : Int64)) (121424973488997 : Int64)) (1650549611 : Int64)) (6383461 : Int64)) (465557353332 : Int64)) (6447474 : Int64)) (1937007984 : Int64)) 94 a1 6))))) (418330731890 : Int64))) a1 h1 g73) (Nat.le_trans (by decide) (Nat.le_trans hc hd)) r68) (fun s71 r72 => ?_)
                      refine okc (m_ifeq (qt := 313) (qf := 309) rfl rfl (Ev_rg (ev_X12_plain (D := (u_tk (up (u_X12_postHere (up (u_X12_postHere (up (u_tk (u_tk (u_tk (u_tk (u_tk (u_tk (u_tk (up D 95 a1 0) (6710629 : Int64)) (121424973488997 : Int64)) (1650549611 : Int64)) (6383461 : Int64)) (465557353332 : Int64)) (6447474 : Int64)) (1937007984 : Int64)) 94 a1 6)) 95 a1 (v_X12_postHere (up (u_tk (u_tk (u_tk (u_tk (u_tk (u_tk (u_tk (up D 95 a1 0) (6710629 : Int64)) (121424973488997 : Int64)) (1650549611 : Int64)) (6383461 : Int64)) (465557353332 : Int64)) (6447474 : Int64)) (1937007984 : Int64)) 94 a1 6)))) 97 a1 (v_X12_postHere (up (u_X12_postHere (up (u_tk (u_tk (u_tk (u_tk (u_tk (u_tk (u_tk (up D 95 a1 0) (6710629 : Int64)) (121424973488997 : Int64)) (1650549611 : Int64)) (6383461 : Int64)) (465557353332 : Int64)) (6447474 : Int64)) (1937007984 : Int64)) 94 a1 6)) 95 a1 (v_X12_postHere (up (u_tk (u_tk (u_tk (u_tk (u_tk (u_tk (u_tk (up D 95 a1 0) (6710629 : Int64)) (121424973488997 : Int64)) (1650549611 : Int64)) (6383461 : Int64)) (465557353332 : Int64)) (6447474 : Int64)) (1937007984 : Int64)) 94 a1 6))))) (418330731890 : Int64))) a1 h1 g73) r68) rfl rfl) (fun c74 => ?_) (fun c74 => ?_)
                      · replace hp := ip c74 hp
                        refine ok (m_iconst (q := 314) rfl rfl rfl) ?_
                        refine ok (m_istore_n (q := 315) (lo' := [some (am_r (some 70)), some (am_i (wz a1)), some (am_i (wz 0))]) rfl rfl rfl rfl rfl) ?_
                        refine ok (m_goto (q := 377) rfl rfl rfl) ?_
                        refine ok (mk rfl (lo' := [some (am_r (some 70)), none, some (am_i (wz 0))]) rfl) ?_
                        exact hp d hd _ r72
                      · replace hp := iq c74 hp
                        refine ok (m_iconst (q := 310) rfl rfl rfl) ?_
                        refine ok (m_goto (q := 314) rfl rfl rfl) ?_
                        refine ok (m_istore_n (q := 315) (lo' := [some (am_r (some 70)), some (am_i (wz a1)), some (am_i (wz 1))]) rfl rfl rfl rfl rfl) ?_
                        refine ok (m_goto (q := 377) rfl rfl rfl) ?_
                        refine ok (mk rfl (lo' := [some (am_r (some 70)), none, some (am_i (wz 1))]) rfl) ?_
                        exact hp d hd _ r72
            · replace hp := iq c27 hp
              refine ok (m_aload_n (q := 212) rfl rfl rfl rfl) ?_
              refine ok (m_gfc (q := 215) rfl rfl rfl r25 rfl rfl rfl) ?_
              refine ok (m_iload_n (q := 216) rfl rfl rfl rfl) ?_
              refine ok (m_iconst (q := 217) rfl rfl rfl) ?_
              refine oke (e_ias (q := 218) rfl rfl rfl r25 rfl rfl g3 ⟨by decide, by decide⟩) (fun s76 r75 => ?_)
              refine ok (m_aload_n (q := 219) rfl rfl rfl rfl) ?_
              refine ok (m_ldc2_w (q := 222) rfl rfl rfl) ?_
              obtain ⟨g79, hp⟩ := hp
              refine oke (e_ci (x_cv (q := 225) rfl rfl rfl rfl rfl rfl rfl rfl rfl rfl (is_st r75 rfl rfl)) (ev_tk (D := (up (u_tk (u_tk (u_tk (u_tk (u_tk (u_tk (up D 95 a1 0) (6710629 : Int64)) (121424973488997 : Int64)) (1650549611 : Int64)) (6383461 : Int64)) (465557353332 : Int64)) (6447474 : Int64)) 94 a1 5)) (109300298179432 : Int64) g79) (Nat.le_trans (by decide) (Nat.le_trans hc hd)) r75) (fun s77 r78 => ?_)
              refine ok (m_istore_n (q := 226) (lo' := [some (am_r (some 70)), some (am_i (wz a1)), some (am_i (wz (w_tk (up (u_tk (u_tk (u_tk (u_tk (u_tk (u_tk (up D 95 a1 0) (6710629 : Int64)) (121424973488997 : Int64)) (1650549611 : Int64)) (6383461 : Int64)) (465557353332 : Int64)) (6447474 : Int64)) 94 a1 5) (109300298179432 : Int64))))]) rfl rfl rfl rfl rfl) ?_
              refine ok (m_goto (q := 377) rfl rfl rfl) ?_
              refine ok (mk rfl (lo' := [some (am_r (some 70)), none, some (am_i (wz (w_tk (up (u_tk (u_tk (u_tk (u_tk (u_tk (u_tk (up D 95 a1 0) (6710629 : Int64)) (121424973488997 : Int64)) (1650549611 : Int64)) (6383461 : Int64)) (465557353332 : Int64)) (6447474 : Int64)) 94 a1 5) (109300298179432 : Int64))))]) rfl) ?_
              exact hp d hd _ r78
          · replace hp := iq c23 hp
            refine ok (m_aload_n (q := 170) rfl rfl rfl rfl) ?_
            refine ok (m_gfc (q := 173) rfl rfl rfl r21 rfl rfl rfl) ?_
            refine ok (m_iload_n (q := 174) rfl rfl rfl rfl) ?_
            refine ok (m_iconst (q := 175) rfl rfl rfl) ?_
            refine oke (e_ias (q := 176) rfl rfl rfl r21 rfl rfl g3 ⟨by decide, by decide⟩) (fun s81 r80 => ?_)
            refine ok (m_aload_n (q := 177) rfl rfl rfl rfl) ?_
            refine ok (m_iload_n (q := 178) rfl rfl rfl rfl) ?_
            obtain ⟨g84, hp⟩ := hp
            refine oke (e_ci (x_cv (q := 181) rfl rfl rfl rfl rfl rfl rfl rfl rfl rfl (is_st r80 rfl rfl)) (ev_X12_ofPost (D := (up (u_tk (u_tk (u_tk (u_tk (u_tk (up D 95 a1 0) (6710629 : Int64)) (121424973488997 : Int64)) (1650549611 : Int64)) (6383461 : Int64)) (465557353332 : Int64)) 94 a1 4)) a1 h1 g84) (Nat.le_trans (by decide) (Nat.le_trans hc hd)) r80) (fun s82 r83 => ?_)
            refine okc (m_ifeq (qt := 196) (qf := 184) rfl rfl (Ev_rg (ev_X12_ofPost (D := (up (u_tk (u_tk (u_tk (u_tk (u_tk (up D 95 a1 0) (6710629 : Int64)) (121424973488997 : Int64)) (1650549611 : Int64)) (6383461 : Int64)) (465557353332 : Int64)) 94 a1 4)) a1 h1 g84) r80) rfl rfl) (fun c85 => ?_) (fun c85 => ?_)
            · replace hp := ip c85 hp
              refine ok (m_iconst (q := 197) rfl rfl rfl) ?_
              refine ok (m_istore_n (q := 198) (lo' := [some (am_r (some 70)), some (am_i (wz a1)), some (am_i (wz 0))]) rfl rfl rfl rfl rfl) ?_
              refine ok (m_goto (q := 377) rfl rfl rfl) ?_
              refine ok (mk rfl (lo' := [some (am_r (some 70)), none, some (am_i (wz 0))]) rfl) ?_
              exact hp d hd _ r83
            · replace hp := iq c85 hp
              refine ok (m_aload_n (q := 185) rfl rfl rfl rfl) ?_
              refine ok (m_iload_n (q := 186) rfl rfl rfl rfl) ?_
              obtain ⟨x88, D89, e90, hp⟩ := hp
              refine oke (e_ci (x_cv (q := 189) rfl rfl rfl rfl rfl rfl rfl rfl rfl rfl (is_st r83 rfl rfl)) e90.1 hd r83) (fun s86 r87 => ?_)
              refine okc (m_ifeq (qt := 196) (qf := 192) rfl rfl (Ev_rg e90.1 r83) rfl rfl) (fun c91 => ?_) (fun c91 => ?_)
              · replace hp := ip c91 hp
                refine ok (m_iconst (q := 197) rfl rfl rfl) ?_
                refine ok (m_istore_n (q := 198) (lo' := [some (am_r (some 70)), some (am_i (wz a1)), some (am_i (wz 0))]) rfl rfl rfl rfl rfl) ?_
                refine ok (m_goto (q := 377) rfl rfl rfl) ?_
                refine ok (mk rfl (lo' := [some (am_r (some 70)), none, some (am_i (wz 0))]) rfl) ?_
                exact hp d hd _ r87
              · replace hp := iq c91 hp
                refine ok (m_iconst (q := 193) rfl rfl rfl) ?_
                refine ok (m_goto (q := 197) rfl rfl rfl) ?_
                refine ok (m_istore_n (q := 198) (lo' := [some (am_r (some 70)), some (am_i (wz a1)), some (am_i (wz 1))]) rfl rfl rfl rfl rfl) ?_
                refine ok (m_goto (q := 377) rfl rfl rfl) ?_
                refine ok (mk rfl (lo' := [some (am_r (some 70)), none, some (am_i (wz 1))]) rfl) ?_
                exact hp d hd _ r87
        · replace hp := iq c19 hp
          refine ok (m_aload_n (q := 144) rfl rfl rfl rfl) ?_
          refine ok (m_gfc (q := 147) rfl rfl rfl r17 rfl rfl rfl) ?_
          refine ok (m_iload_n (q := 148) rfl rfl rfl rfl) ?_
          refine ok (m_iconst (q := 149) rfl rfl rfl) ?_
          refine oke (e_ias (q := 150) rfl rfl rfl r17 rfl rfl g3 ⟨by decide, by decide⟩) (fun s93 r92 => ?_)
          refine ok (m_aload_n (q := 151) rfl rfl rfl rfl) ?_
          refine ok (m_iload_n (q := 152) rfl rfl rfl rfl) ?_
          obtain ⟨g96, hp⟩ := hp
          refine oke (e_ci (x_cv (q := 155) rfl rfl rfl rfl rfl rfl rfl rfl rfl rfl (is_st r92 rfl rfl)) (ev_X12_ofPost (D := (up (u_tk (u_tk (u_tk (u_tk (up D 95 a1 0) (6710629 : Int64)) (121424973488997 : Int64)) (1650549611 : Int64)) (6383461 : Int64)) 94 a1 3)) a1 h1 g96) (Nat.le_trans (by decide) (Nat.le_trans hc hd)) r92) (fun s94 r95 => ?_)
          refine ok (m_istore_n (q := 156) (lo' := [some (am_r (some 70)), some (am_i (wz a1)), some (am_i (wz (v_X12_ofPost (up (u_tk (u_tk (u_tk (u_tk (up D 95 a1 0) (6710629 : Int64)) (121424973488997 : Int64)) (1650549611 : Int64)) (6383461 : Int64)) 94 a1 3) a1)))]) rfl rfl rfl rfl rfl) ?_
          refine ok (m_goto (q := 377) rfl rfl rfl) ?_
          refine ok (mk rfl (lo' := [some (am_r (some 70)), none, some (am_i (wz (v_X12_ofPost (up (u_tk (u_tk (u_tk (u_tk (up D 95 a1 0) (6710629 : Int64)) (121424973488997 : Int64)) (1650549611 : Int64)) (6383461 : Int64)) 94 a1 3) a1)))]) rfl) ?_
          exact hp d hd _ r95
      · replace hp := iq c15 hp
        refine ok (m_aload_n (q := 70) rfl rfl rfl rfl) ?_
        refine ok (m_gfc (q := 73) rfl rfl rfl r13 rfl rfl rfl) ?_
        refine ok (m_iload_n (q := 74) rfl rfl rfl rfl) ?_
        refine ok (m_iconst (q := 75) rfl rfl rfl) ?_
        refine oke (e_ias (q := 76) rfl rfl rfl r13 rfl rfl g3 ⟨by decide, by decide⟩) (fun s98 r97 => ?_)
        refine ok (m_aload_n (q := 77) rfl rfl rfl rfl) ?_
        refine ok (m_bipush (q := 79) rfl rfl rfl) ?_
        obtain ⟨g101, hp⟩ := hp
        refine oke (e_ci (x_cv (q := 82) rfl rfl rfl rfl rfl rfl rfl rfl rfl rfl (is_st r97 rfl rfl)) (ev_mn (D := (up (u_tk (u_tk (u_tk (up D 95 a1 0) (6710629 : Int64)) (121424973488997 : Int64)) (1650549611 : Int64)) 94 a1 2)) 100 ⟨by decide, by decide⟩ g101) (Nat.le_trans (by decide) (Nat.le_trans hc hd)) r97) (fun s99 r100 => ?_)
        refine ok (m_istore_n (q := 83) (lo' := [some (am_r (some 70)), some (am_i (wz a1)), some (am_i (wz (w_mn (up (u_tk (u_tk (u_tk (up D 95 a1 0) (6710629 : Int64)) (121424973488997 : Int64)) (1650549611 : Int64)) 94 a1 2) 100)))]) rfl rfl rfl rfl rfl) ?_
        refine ok (m_aload_n (q := 84) rfl rfl rfl rfl) ?_
        refine ok (m_gfc (q := 87) rfl rfl rfl r100 rfl rfl rfl) ?_
        refine ok (m_iload_n (q := 88) rfl rfl rfl rfl) ?_
        refine ok (m_aload_n (q := 89) rfl rfl rfl rfl) ?_
        refine ok (m_gfs (z := 50) (q := 92) rfl rfl rfl r100 rfl rfl rfl rfl rfl) ?_
        refine oke (e_ias (q := 93) rfl rfl rfl r100 rfl rfl g3 (Rp_rg r100 70 50)) (fun s103 r102 => ?_)
        refine ok (m_iload_n (q := 94) rfl rfl rfl rfl) ?_
        refine okc (m_ifeq (qt := 118) (qf := 97) rfl rfl (Ev_rg (ev_mn (D := (up (u_tk (u_tk (u_tk (up D 95 a1 0) (6710629 : Int64)) (121424973488997 : Int64)) (1650549611 : Int64)) 94 a1 2)) 100 ⟨by decide, by decide⟩ g101) r97) rfl rfl) (fun c104 => ?_) (fun c104 => ?_)
        · replace hp := ip c104 hp
          refine ok (m_iconst (q := 119) rfl rfl rfl) ?_
          refine ok (m_istore_n (q := 120) (lo' := [some (am_r (some 70)), some (am_i (wz a1)), some (am_i (wz 0))]) rfl rfl rfl rfl rfl) ?_
          refine ok (m_aload_n (q := 121) rfl rfl rfl rfl) ?_
          refine ok (m_gfc (q := 124) rfl rfl rfl r102 rfl rfl rfl) ?_
          refine ok (m_iload_n (q := 125) rfl rfl rfl rfl) ?_
          refine ok (m_aload_n (q := 126) rfl rfl rfl rfl) ?_
          refine ok (m_gfs (z := 50) (q := 129) (w := (u_mn (up (u_tk (u_tk (u_tk (up D 95 a1 0) (6710629 : Int64)) (121424973488997 : Int64)) (1650549611 : Int64)) 94 a1 2) 100) 70 50) rfl rfl rfl r102 rfl rfl rfl rfl rfl) ?_
          refine oke (e_ias (q := 130) rfl rfl rfl r102 rfl rfl g3 (show rg ((u_mn (up (u_tk (u_tk (u_tk (up D 95 a1 0) (6710629 : Int64)) (121424973488997 : Int64)) (1650549611 : Int64)) 94 a1 2) 100) 70 50) from Rp_rg r102 70 50)) (fun s106 r105 => ?_)
          refine ok (m_goto (q := 377) rfl rfl rfl) ?_
          refine ok (mk rfl (lo' := [some (am_r (some 70)), none, some (am_i (wz 0))]) rfl) ?_
          exact hp d hd _ r105
        · replace hp := iq c104 hp
          refine ok (m_aload_n (q := 98) rfl rfl rfl rfl) ?_
          refine ok (m_ldc2_w (q := 101) rfl rfl rfl) ?_
          obtain ⟨g109, hp⟩ := hp
          refine oke (e_ci (x_cv (q := 104) rfl rfl rfl rfl rfl rfl rfl rfl rfl rfl (is_st r102 rfl rfl)) (ev_tk (D := (up (u_mn (up (u_tk (u_tk (u_tk (up D 95 a1 0) (6710629 : Int64)) (121424973488997 : Int64)) (1650549611 : Int64)) 94 a1 2) 100) 96 a1 ((u_mn (up (u_tk (u_tk (u_tk (up D 95 a1 0) (6710629 : Int64)) (121424973488997 : Int64)) (1650549611 : Int64)) 94 a1 2) 100) 70 50))) (131294808271214 : Int64) g109) (Nat.le_trans (by decide) (Nat.le_trans hc hd)) r102) (fun s107 r108 => ?_)
          refine okc (m_ifeq (qt := 118) (qf := 107) rfl rfl (Ev_rg (ev_tk (D := (up (u_mn (up (u_tk (u_tk (u_tk (up D 95 a1 0) (6710629 : Int64)) (121424973488997 : Int64)) (1650549611 : Int64)) 94 a1 2) 100) 96 a1 ((u_mn (up (u_tk (u_tk (u_tk (up D 95 a1 0) (6710629 : Int64)) (121424973488997 : Int64)) (1650549611 : Int64)) 94 a1 2) 100) 70 50))) (131294808271214 : Int64) g109) r102) rfl rfl) (fun c110 => ?_) (fun c110 => ?_)
          · replace hp := ip c110 hp
            refine ok (m_iconst (q := 119) rfl rfl rfl) ?_
            refine ok (m_istore_n (q := 120) (lo' := [some (am_r (some 70)), some (am_i (wz a1)), some (am_i (wz 0))]) rfl rfl rfl rfl rfl) ?_
            refine ok (m_aload_n (q := 121) rfl rfl rfl rfl) ?_
            refine ok (m_gfc (q := 124) rfl rfl rfl r108 rfl rfl rfl) ?_
            refine ok (m_iload_n (q := 125) rfl rfl rfl rfl) ?_
            refine ok (m_aload_n (q := 126) rfl rfl rfl rfl) ?_
            refine ok (m_gfs (z := 50) (q := 129) rfl rfl rfl r108 rfl rfl rfl rfl rfl) ?_
            refine oke (e_ias (q := 130) rfl rfl rfl r108 rfl rfl g3 (Rp_rg r108 70 50)) (fun s112 r111 => ?_)
            refine ok (m_goto (q := 377) rfl rfl rfl) ?_
            refine ok (mk rfl (lo' := [some (am_r (some 70)), none, some (am_i (wz 0))]) rfl) ?_
            exact hp d hd _ r111
          · replace hp := iq c110 hp
            refine ok (m_aload_n (q := 108) rfl rfl rfl rfl) ?_
            obtain ⟨g115, hp⟩ := hp
            refine oke (e_ci (x_cv (q := 111) rfl rfl rfl rfl rfl rfl rfl rfl rfl rfl (is_st r108 rfl rfl)) (ev_X12_takesPlain (D := (u_tk (up (u_mn (up (u_tk (u_tk (u_tk (up D 95 a1 0) (6710629 : Int64)) (121424973488997 : Int64)) (1650549611 : Int64)) 94 a1 2) 100) 96 a1 ((u_mn (up (u_tk (u_tk (u_tk (up D 95 a1 0) (6710629 : Int64)) (121424973488997 : Int64)) (1650549611 : Int64)) 94 a1 2) 100) 70 50)) (131294808271214 : Int64))) g115) (Nat.le_trans (by decide) (Nat.le_trans hc hd)) r108) (fun s113 r114 => ?_)
            refine okc (m_ifeq (qt := 118) (qf := 114) rfl rfl (Ev_rg (ev_X12_takesPlain (D := (u_tk (up (u_mn (up (u_tk (u_tk (u_tk (up D 95 a1 0) (6710629 : Int64)) (121424973488997 : Int64)) (1650549611 : Int64)) 94 a1 2) 100) 96 a1 ((u_mn (up (u_tk (u_tk (u_tk (up D 95 a1 0) (6710629 : Int64)) (121424973488997 : Int64)) (1650549611 : Int64)) 94 a1 2) 100) 70 50)) (131294808271214 : Int64))) g115) r108) rfl rfl) (fun c116 => ?_) (fun c116 => ?_)
            · replace hp := ip c116 hp
              refine ok (m_iconst (q := 119) rfl rfl rfl) ?_
              refine ok (m_istore_n (q := 120) (lo' := [some (am_r (some 70)), some (am_i (wz a1)), some (am_i (wz 0))]) rfl rfl rfl rfl rfl) ?_
              refine ok (m_aload_n (q := 121) rfl rfl rfl rfl) ?_
              refine ok (m_gfc (q := 124) rfl rfl rfl r114 rfl rfl rfl) ?_
              refine ok (m_iload_n (q := 125) rfl rfl rfl rfl) ?_
              refine ok (m_aload_n (q := 126) rfl rfl rfl rfl) ?_
              refine ok (m_gfs (z := 50) (q := 129) rfl rfl rfl r114 rfl rfl rfl rfl rfl) ?_
              refine oke (e_ias (q := 130) rfl rfl rfl r114 rfl rfl g3 (Rp_rg r114 70 50)) (fun s118 r117 => ?_)
              refine ok (m_goto (q := 377) rfl rfl rfl) ?_
              refine ok (mk rfl (lo' := [some (am_r (some 70)), none, some (am_i (wz 0))]) rfl) ?_
              exact hp d hd _ r117
            · replace hp := iq c116 hp
              refine ok (m_iconst (q := 115) rfl rfl rfl) ?_
              refine ok (m_goto (q := 119) rfl rfl rfl) ?_
              refine ok (m_istore_n (q := 120) (lo' := [some (am_r (some 70)), some (am_i (wz a1)), some (am_i (wz 1))]) rfl rfl rfl rfl rfl) ?_
              refine ok (m_aload_n (q := 121) rfl rfl rfl rfl) ?_
              refine ok (m_gfc (q := 124) rfl rfl rfl r114 rfl rfl rfl) ?_
              refine ok (m_iload_n (q := 125) rfl rfl rfl rfl) ?_
              refine ok (m_aload_n (q := 126) rfl rfl rfl rfl) ?_
              refine ok (m_gfs (z := 50) (q := 129) rfl rfl rfl r114 rfl rfl rfl rfl rfl) ?_
              refine oke (e_ias (q := 130) rfl rfl rfl r114 rfl rfl g3 (Rp_rg r114 70 50)) (fun s120 r119 => ?_)
              refine ok (m_goto (q := 377) rfl rfl rfl) ?_
              refine ok (mk rfl (lo' := [some (am_r (some 70)), none, some (am_i (wz 1))]) rfl) ?_
              exact hp d hd _ r119
    · replace hp := iq c11 hp
      refine ok (m_aload_n (q := 44) rfl rfl rfl rfl) ?_
      refine ok (m_gfc (q := 47) rfl rfl rfl r9 rfl rfl rfl) ?_
      refine ok (m_iload_n (q := 48) rfl rfl rfl rfl) ?_
      refine ok (m_iconst (q := 49) rfl rfl rfl) ?_
      refine oke (e_ias (q := 50) rfl rfl rfl r9 rfl rfl g3 ⟨by decide, by decide⟩) (fun s122 r121 => ?_)
      refine ok (m_aload_n (q := 51) rfl rfl rfl rfl) ?_
      refine ok (m_iload_n (q := 52) rfl rfl rfl rfl) ?_
      obtain ⟨g125, hp⟩ := hp
      refine oke (e_ci (x_cv (q := 55) rfl rfl rfl rfl rfl rfl rfl rfl rfl rfl (is_st r121 rfl rfl)) (ev_X12_plain (D := (up (u_tk (u_tk (up D 95 a1 0) (6710629 : Int64)) (121424973488997 : Int64)) 94 a1 1)) a1 h1 g125) (Nat.le_trans (by decide) (Nat.le_trans hc hd)) r121) (fun s123 r124 => ?_)
      refine ok (m_istore_n (q := 56) (lo' := [some (am_r (some 70)), some (am_i (wz a1)), some (am_i (wz (v_X12_plain (up (u_tk (u_tk (up D 95 a1 0) (6710629 : Int64)) (121424973488997 : Int64)) 94 a1 1) a1)))]) rfl rfl rfl rfl rfl) ?_
      refine ok (m_goto (q := 377) rfl rfl rfl) ?_
      refine ok (mk rfl (lo' := [some (am_r (some 70)), none, some (am_i (wz (v_X12_plain (up (u_tk (u_tk (up D 95 a1 0) (6710629 : Int64)) (121424973488997 : Int64)) 94 a1 1) a1)))]) rfl) ?_
      exact hp d hd _ r124
  · replace hp := iq c7 hp
    refine ok (m_aload_n (q := 18) rfl rfl rfl rfl) ?_
    refine ok (m_gfc (q := 21) rfl rfl rfl r5 rfl rfl rfl) ?_
    refine ok (m_iload_n (q := 22) rfl rfl rfl rfl) ?_
    refine ok (m_iconst (q := 23) rfl rfl rfl) ?_
    refine oke (e_ias (q := 24) rfl rfl rfl r5 rfl rfl g3 ⟨by decide, by decide⟩) (fun s127 r126 => ?_)
    refine ok (m_aload_n (q := 25) rfl rfl rfl rfl) ?_
    refine ok (m_iload_n (q := 26) rfl rfl rfl rfl) ?_
    obtain ⟨x130, D131, e132, hp⟩ := hp
    refine oke (e_ci (x_cv (q := 29) rfl rfl rfl rfl rfl rfl rfl rfl rfl rfl (is_st r126 rfl rfl)) e132.1 hd r126) (fun s128 r129 => ?_)
    refine ok (m_istore_n (q := 30) (lo' := [some (am_r (some 70)), some (am_i (wz a1)), some (am_i (wz x130))]) rfl rfl rfl rfl rfl) ?_
    refine ok (m_goto (q := 377) rfl rfl rfl) ?_
    refine ok (mk rfl (lo' := [some (am_r (some 70)), none, some (am_i (wz x130))]) rfl) ?_
    exact hp d hd _ r129
set_option maxRecDepth 100000 in
theorem rl_X12_statement_377 {n : Nat} {A : aA} {D D' : aD} {c : Nat} (hc : 5 ≤ c) (a2 : Int) (h2 : rg a2) (b2 : 0 ≤ a2 ∧ a2 ≤ 1) {x : Int} (hp : (if a2 = 0 then K_X12_statement_394 (n + 1) c A D x D' else (p_X12_takesSign D 59) ∧ (if w_sg D 59 = 0 then K_X12_statement_394 (n + 1) c A (u_sg D 59) x D' else K_X12_statement_395 (n + 1) c A (u_sg D 59) 1 x D'))) : K_X12_statement_377 (n + 1) c A D a2 x D' := by
  unfold K_X12_statement_377
  refine fun d hd s hr => ?_
  refine ok (m_iload_n (q := 378) rfl rfl rfl rfl) ?_
  refine okc (m_ifeq (qt := 394) (qf := 381) rfl rfl h2 rfl rfl) (fun c133 => ?_) (fun c133 => ?_)
  · replace hp := ip c133 hp
    refine ok (mk rfl (lo' := [none, none, none]) rfl) ?_
    exact hp d hd _ hr
  · replace hp := iq c133 hp
    refine ok (m_aload_n (q := 382) rfl rfl rfl rfl) ?_
    refine ok (m_bipush (q := 384) rfl rfl rfl) ?_
    obtain ⟨g136, hp⟩ := hp
    refine oke (e_ci (x_cv (q := 387) rfl rfl rfl rfl rfl rfl rfl rfl rfl rfl (is_st hr rfl rfl)) (ev_sg (D := D) 59 ⟨by decide, by decide⟩ g136) (Nat.le_trans (by decide) (Nat.le_trans hc hd)) hr) (fun s134 r135 => ?_)
    refine okc (m_ifeq (qt := 394) (qf := 390) rfl rfl (Ev_rg (ev_sg (D := D) 59 ⟨by decide, by decide⟩ g136) hr) rfl rfl) (fun c137 => ?_) (fun c137 => ?_)
    · replace hp := ip c137 hp
      refine ok (mk rfl (lo' := [none, none, none]) rfl) ?_
      exact hp d hd _ r135
    · replace hp := iq c137 hp
      refine ok (m_iconst (q := 391) rfl rfl rfl) ?_
      refine ok (m_goto (q := 395) rfl rfl rfl) ?_
      refine ok (mk rfl (lo' := [none, none, none]) rfl) ?_
      exact hp d hd _ r135
set_option maxRecDepth 100000 in
theorem rl_X12_statement_394 {n : Nat} {A : aA} {D D' : aD} {c : Nat} (hc : 5 ≤ c) {x : Int} (hp : K_X12_statement_395 (n + 1) c A D 0 x D') : K_X12_statement_394 (n + 1) c A D x D' := by
  unfold K_X12_statement_394
  refine fun d hd s hr => ?_
  refine ok (m_iconst (q := 395) rfl rfl rfl) ?_
  exact hp d hd _ hr
set_option maxRecDepth 100000 in
theorem rl_X12_statement_395 {n : Nat} {A : aA} {D D' : aD} {c : Nat} (hc : 5 ≤ c) (ta0 : Int) (th0 : rg ta0) (tb0 : 0 ≤ ta0 ∧ ta0 ≤ 1) {x : Int} (hp : (x = ta0 ∧ D' = D)) : K_X12_statement_395 (n + 1) c A D ta0 x D' := by
  unfold K_X12_statement_395
  refine fun d hd s hr => ?_
  exact ok (m_retb rfl rfl tb0) (ok_iq hr th0 hp)
theorem stm_0 {c : Nat} (hc : 5 ≤ c) : K_X12_statement_377 (n + 1) c A D 0 0 D :=
  rl_X12_statement_377 hc 0 (rgb (by omega) (by omega)) ⟨by decide, by decide⟩ (by rw [if_pos rfl]; exact rl_X12_statement_394 hc (rl_X12_statement_395 hc 0 (rgb (by omega) (by omega)) ⟨by decide, by decide⟩ ⟨rfl, rfl⟩))
theorem stm_1 {c : Nat} (hc : 5 ≤ c) (hT : Txt T N) (hm : Mst T N a D) : ∃ x D', K_X12_statement_377 (n + 1) c A D 1 x D' ∧ (0 ≤ x ∧ x ≤ 1) ∧ Mfl D D' ∧ (Sgn T N a 59 → x = 1 ∧ Mst T N (tN T N a) D') ∧ (¬ Sgn T N a 59 → x = 0 ∧ D' 70 30 = a) := by
  obtain ⟨p, y, z⟩ := sg_m hT hm (c := 59) (by decide)
  by_cases q : Sgn T N a 59
  · obtain ⟨y1, y2, y3⟩ := y q
    refine ⟨1, u_sg D 59, rl_X12_statement_377 hc 1 (rgb (by omega) (by omega)) ⟨by decide, by decide⟩ ?_, ⟨by decide, by decide⟩, y3, fun _ => ⟨rfl, y2⟩, fun g => absurd q g⟩
    rw [if_neg (by decide)]
    refine ⟨p, ?_⟩
    rw [y1, if_neg (by decide)]
    exact rl_X12_statement_395 hc 1 (rgb (by omega) (by omega)) ⟨by decide, by decide⟩ ⟨rfl, rfl⟩
  · obtain ⟨y1, y2, y3, y4⟩ := z q
    refine ⟨0, u_sg D 59, rl_X12_statement_377 hc 1 (rgb (by omega) (by omega)) ⟨by decide, by decide⟩ ?_, ⟨by decide, by decide⟩, y3, fun g => absurd g q, fun _ => ⟨rfl, y4⟩⟩
    rw [if_neg (by decide)]
    refine ⟨p, ?_⟩
    rw [y1, if_pos rfl]
    exact rl_X12_statement_394 hc (rl_X12_statement_395 hc 0 (rgb (by omega) (by omega)) ⟨by decide, by decide⟩ ⟨rfl, rfl⟩)
end Mse
