/-! what van, box, account, way answer, question by question -/
theorem val_0 {sf : Nat → Int32} : f_X6_value 0 sf = sf 0 := by
  rw [f_X6_value, if_pos (by decide)]
  congr 1
theorem val_1 {sf : Nat → Int32} : f_X6_value 1 sf = sf 1 := by
  rw [f_X6_value, if_pos (by decide)]
  congr 1
theorem val_2 {sf : Nat → Int32} : f_X6_value 2 sf = sf 2 := by
  rw [f_X6_value, if_pos (by decide)]
  congr 1
theorem val_3 {sf : Nat → Int32} : f_X6_value 3 sf = sf 3 := by
  rw [f_X6_value, if_pos (by decide)]
  congr 1
theorem val_4 {sf : Nat → Int32} : f_X6_value 4 sf = sf 4 := by
  rw [f_X6_value, if_pos (by decide)]
  congr 1
theorem val_5 {sf : Nat → Int32} : f_X6_value 5 sf = sf 5 := by
  rw [f_X6_value, if_pos (by decide)]
  congr 1
theorem val_6 {sf : Nat → Int32} : f_X6_value 6 sf = sf 6 := by
  rw [f_X6_value, if_pos (by decide)]
  congr 1
theorem val_7 {sf : Nat → Int32} : f_X6_value 7 sf = sf 7 := by
  rw [f_X6_value, if_pos (by decide)]
  congr 1
theorem val_8 {sf : Nat → Int32} : f_X6_value 8 sf = sf 8 := by
  rw [f_X6_value, if_pos (by decide)]
  congr 1
theorem val_9 {sf : Nat → Int32} : f_X6_value 9 sf = sf 9 := by
  rw [f_X6_value, if_pos (by decide)]
  congr 1
theorem val_10 {sf : Nat → Int32} : f_X6_value 10 sf = sf 10 := by
  rw [f_X6_value, if_pos (by decide)]
  congr 1
theorem van_0 {tm : Int32} {sf : Nat → Int32} {lc vT : Int32} {vG : Int64} {vM : Int32} {vO : Bool} {vN : Int32} {vD : Bool} {vA rc rl rm : Int32} {ro : Nat → Int32} {pl : Int32} : f_X9_van 0 tm sf lc vT vG vM vO vN vD vA rc rl rm ro pl = (tm) := by
  rw [f_X9_van, if_pos (by decide), if_pos (by decide), if_pos rfl]
theorem van_1 {tm : Int32} {sf : Nat → Int32} {lc vT : Int32} {vG : Int64} {vM : Int32} {vO : Bool} {vN : Int32} {vD : Bool} {vA rc rl rm : Int32} {ro : Nat → Int32} {pl : Int32} : f_X9_van 1 tm sf lc vT vG vM vO vN vD vA rc rl rm ro pl = (vT) := by
  rw [f_X9_van, if_pos (by decide), if_pos (by decide), if_neg (by decide), if_pos rfl]
theorem van_2 {tm : Int32} {sf : Nat → Int32} {lc vT : Int32} {vG : Int64} {vM : Int32} {vO : Bool} {vN : Int32} {vD : Bool} {vA rc rl rm : Int32} {ro : Nat → Int32} {pl : Int32} : f_X9_van 2 tm sf lc vT vG vM vO vN vD vA rc rl rm ro pl = (f_X4_outsideNow rc rl ro) := by
  rw [f_X9_van, if_pos (by decide), if_pos (by decide), if_neg (by decide), if_neg (by decide), if_pos rfl]
theorem van_3 {tm : Int32} {sf : Nat → Int32} {lc vT : Int32} {vG : Int64} {vM : Int32} {vO : Bool} {vN : Int32} {vD : Bool} {vA rc rl rm : Int32} {ro : Nat → Int32} {pl : Int32} : f_X9_van 3 tm sf lc vT vG vM vO vN vD vA rc rl rm ro pl = (vG.toInt32) := by
  rw [f_X9_van, if_pos (by decide), if_pos (by decide), if_neg (by decide), if_neg (by decide), if_neg (by decide), if_pos rfl]
theorem van_4 {tm : Int32} {sf : Nat → Int32} {lc vT : Int32} {vG : Int64} {vM : Int32} {vO : Bool} {vN : Int32} {vD : Bool} {vA rc rl rm : Int32} {ro : Nat → Int32} {pl : Int32} : f_X9_van 4 tm sf lc vT vG vM vO vN vD vA rc rl rm ro pl = ((f_X8_concentration sf vG).toInt32) := by
  rw [f_X9_van, if_pos (by decide), if_pos (by decide), if_neg (by decide), if_neg (by decide), if_neg (by decide), if_neg (by decide), if_pos rfl]
theorem van_5 {tm : Int32} {sf : Nat → Int32} {lc vT : Int32} {vG : Int64} {vM : Int32} {vO : Bool} {vN : Int32} {vD : Bool} {vA rc rl rm : Int32} {ro : Nat → Int32} {pl : Int32} : f_X9_van 5 tm sf lc vT vG vM vO vN vD vA rc rl rm ro pl = (vM) := by
  rw [f_X9_van, if_pos (by decide), if_pos (by decide), if_neg (by decide), if_neg (by decide), if_neg (by decide), if_neg (by decide), if_neg (by decide), if_pos rfl]
theorem van_6 {tm : Int32} {sf : Nat → Int32} {lc vT : Int32} {vG : Int64} {vM : Int32} {vO : Bool} {vN : Int32} {vD : Bool} {vA rc rl rm : Int32} {ro : Nat → Int32} {pl : Int32} : f_X9_van 6 tm sf lc vT vG vM vO vN vD vA rc rl rm ro pl = (bi vO) := by
  rw [f_X9_van, if_pos (by decide), if_pos (by decide), if_neg (by decide), if_neg (by decide), if_neg (by decide), if_neg (by decide), if_neg (by decide), if_neg (by decide), if_pos rfl] <;> (cases vO <;> rfl)
theorem van_7 {tm : Int32} {sf : Nat → Int32} {lc vT : Int32} {vG : Int64} {vM : Int32} {vO : Bool} {vN : Int32} {vD : Bool} {vA rc rl rm : Int32} {ro : Nat → Int32} {pl : Int32} : f_X9_van 7 tm sf lc vT vG vM vO vN vD vA rc rl rm ro pl = (vN) := by
  rw [f_X9_van, if_pos (by decide), if_pos (by decide), if_neg (by decide), if_neg (by decide), if_neg (by decide), if_neg (by decide), if_neg (by decide), if_neg (by decide), if_neg (by decide), if_pos rfl]
theorem van_8 {tm : Int32} {sf : Nat → Int32} {lc vT : Int32} {vG : Int64} {vM : Int32} {vO : Bool} {vN : Int32} {vD : Bool} {vA rc rl rm : Int32} {ro : Nat → Int32} {pl : Int32} : f_X9_van 8 tm sf lc vT vG vM vO vN vD vA rc rl rm ro pl = (bi vD) := by
  rw [f_X9_van, if_pos (by decide), if_pos (by decide), if_neg (by decide), if_neg (by decide), if_neg (by decide), if_neg (by decide), if_neg (by decide), if_neg (by decide), if_neg (by decide), if_neg (by decide), if_pos rfl] <;> (cases vD <;> rfl)
theorem van_9 {tm : Int32} {sf : Nat → Int32} {lc vT : Int32} {vG : Int64} {vM : Int32} {vO : Bool} {vN : Int32} {vD : Bool} {vA rc rl rm : Int32} {ro : Nat → Int32} {pl : Int32} : f_X9_van 9 tm sf lc vT vG vM vO vN vD vA rc rl rm ro pl = (if 0 ≤ rl then rl else -1000000006) := by
  rw [f_X9_van, if_pos (by decide), if_pos (by decide), if_neg (by decide), if_neg (by decide), if_neg (by decide), if_neg (by decide), if_neg (by decide), if_neg (by decide), if_neg (by decide), if_neg (by decide), if_neg (by decide), if_pos rfl]
theorem van_10 {tm : Int32} {sf : Nat → Int32} {lc vT : Int32} {vG : Int64} {vM : Int32} {vO : Bool} {vN : Int32} {vD : Bool} {vA rc rl rm : Int32} {ro : Nat → Int32} {pl : Int32} : f_X9_van 10 tm sf lc vT vG vM vO vN vD vA rc rl rm ro pl = (rm) := by
  rw [f_X9_van, if_pos (by decide), if_pos (by decide), if_neg (by decide), if_neg (by decide), if_neg (by decide), if_neg (by decide), if_neg (by decide), if_neg (by decide), if_neg (by decide), if_neg (by decide), if_neg (by decide), if_neg (by decide), if_pos rfl]
theorem van_11 {tm : Int32} {sf : Nat → Int32} {lc vT : Int32} {vG : Int64} {vM : Int32} {vO : Bool} {vN : Int32} {vD : Bool} {vA rc rl rm : Int32} {ro : Nat → Int32} {pl : Int32} : f_X9_van 11 tm sf lc vT vG vM vO vN vD vA rc rl rm ro pl = (vA) := by
  rw [f_X9_van, if_pos (by decide), if_pos (by decide), if_neg (by decide), if_neg (by decide), if_neg (by decide), if_neg (by decide), if_neg (by decide), if_neg (by decide), if_neg (by decide), if_neg (by decide), if_neg (by decide), if_neg (by decide), if_neg (by decide), if_pos rfl]
theorem van_12 {tm : Int32} {sf : Nat → Int32} {lc vT : Int32} {vG : Int64} {vM : Int32} {vO : Bool} {vN : Int32} {vD : Bool} {vA rc rl rm : Int32} {ro : Nat → Int32} {pl : Int32} : f_X9_van 12 tm sf lc vT vG vM vO vN vD vA rc rl rm ro pl = (lc) := by
  rw [f_X9_van, if_pos (by decide), if_pos (by decide), if_neg (by decide), if_neg (by decide), if_neg (by decide), if_neg (by decide), if_neg (by decide), if_neg (by decide), if_neg (by decide), if_neg (by decide), if_neg (by decide), if_neg (by decide), if_neg (by decide), if_neg (by decide), if_pos rfl]
theorem van_13 {tm : Int32} {sf : Nat → Int32} {lc vT : Int32} {vG : Int64} {vM : Int32} {vO : Bool} {vN : Int32} {vD : Bool} {vA rc rl rm : Int32} {ro : Nat → Int32} {pl : Int32} : f_X9_van 13 tm sf lc vT vG vM vO vN vD vA rc rl rm ro pl = (rc) := by
  rw [f_X9_van, if_pos (by decide), if_pos (by decide), if_neg (by decide), if_neg (by decide), if_neg (by decide), if_neg (by decide), if_neg (by decide), if_neg (by decide), if_neg (by decide), if_neg (by decide), if_neg (by decide), if_neg (by decide), if_neg (by decide), if_neg (by decide), if_neg (by decide), if_pos rfl]
theorem van_15 {tm : Int32} {sf : Nat → Int32} {lc vT : Int32} {vG : Int64} {vM : Int32} {vO : Bool} {vN : Int32} {vD : Bool} {vA rc rl rm : Int32} {ro : Nat → Int32} {pl : Int32} : f_X9_van 15 tm sf lc vT vG vM vO vN vD vA rc rl rm ro pl = sf 0 := by
  rw [f_X9_van, if_pos (by decide), if_neg (by decide), show (15 : Int32) - 15 = 0 from by decide, val_0]
theorem van_16 {tm : Int32} {sf : Nat → Int32} {lc vT : Int32} {vG : Int64} {vM : Int32} {vO : Bool} {vN : Int32} {vD : Bool} {vA rc rl rm : Int32} {ro : Nat → Int32} {pl : Int32} : f_X9_van 16 tm sf lc vT vG vM vO vN vD vA rc rl rm ro pl = sf 1 := by
  rw [f_X9_van, if_pos (by decide), if_neg (by decide), show (16 : Int32) - 15 = 1 from by decide, val_1]
theorem van_17 {tm : Int32} {sf : Nat → Int32} {lc vT : Int32} {vG : Int64} {vM : Int32} {vO : Bool} {vN : Int32} {vD : Bool} {vA rc rl rm : Int32} {ro : Nat → Int32} {pl : Int32} : f_X9_van 17 tm sf lc vT vG vM vO vN vD vA rc rl rm ro pl = sf 2 := by
  rw [f_X9_van, if_pos (by decide), if_neg (by decide), show (17 : Int32) - 15 = 2 from by decide, val_2]
theorem van_18 {tm : Int32} {sf : Nat → Int32} {lc vT : Int32} {vG : Int64} {vM : Int32} {vO : Bool} {vN : Int32} {vD : Bool} {vA rc rl rm : Int32} {ro : Nat → Int32} {pl : Int32} : f_X9_van 18 tm sf lc vT vG vM vO vN vD vA rc rl rm ro pl = sf 3 := by
  rw [f_X9_van, if_pos (by decide), if_neg (by decide), show (18 : Int32) - 15 = 3 from by decide, val_3]
theorem van_19 {tm : Int32} {sf : Nat → Int32} {lc vT : Int32} {vG : Int64} {vM : Int32} {vO : Bool} {vN : Int32} {vD : Bool} {vA rc rl rm : Int32} {ro : Nat → Int32} {pl : Int32} : f_X9_van 19 tm sf lc vT vG vM vO vN vD vA rc rl rm ro pl = sf 4 := by
  rw [f_X9_van, if_pos (by decide), if_neg (by decide), show (19 : Int32) - 15 = 4 from by decide, val_4]
theorem van_20 {tm : Int32} {sf : Nat → Int32} {lc vT : Int32} {vG : Int64} {vM : Int32} {vO : Bool} {vN : Int32} {vD : Bool} {vA rc rl rm : Int32} {ro : Nat → Int32} {pl : Int32} : f_X9_van 20 tm sf lc vT vG vM vO vN vD vA rc rl rm ro pl = sf 5 := by
  rw [f_X9_van, if_pos (by decide), if_neg (by decide), show (20 : Int32) - 15 = 5 from by decide, val_5]
theorem van_21 {tm : Int32} {sf : Nat → Int32} {lc vT : Int32} {vG : Int64} {vM : Int32} {vO : Bool} {vN : Int32} {vD : Bool} {vA rc rl rm : Int32} {ro : Nat → Int32} {pl : Int32} : f_X9_van 21 tm sf lc vT vG vM vO vN vD vA rc rl rm ro pl = sf 6 := by
  rw [f_X9_van, if_pos (by decide), if_neg (by decide), show (21 : Int32) - 15 = 6 from by decide, val_6]
theorem van_22 {tm : Int32} {sf : Nat → Int32} {lc vT : Int32} {vG : Int64} {vM : Int32} {vO : Bool} {vN : Int32} {vD : Bool} {vA rc rl rm : Int32} {ro : Nat → Int32} {pl : Int32} : f_X9_van 22 tm sf lc vT vG vM vO vN vD vA rc rl rm ro pl = sf 7 := by
  rw [f_X9_van, if_pos (by decide), if_neg (by decide), show (22 : Int32) - 15 = 7 from by decide, val_7]
theorem van_23 {tm : Int32} {sf : Nat → Int32} {lc vT : Int32} {vG : Int64} {vM : Int32} {vO : Bool} {vN : Int32} {vD : Bool} {vA rc rl rm : Int32} {ro : Nat → Int32} {pl : Int32} : f_X9_van 23 tm sf lc vT vG vM vO vN vD vA rc rl rm ro pl = sf 8 := by
  rw [f_X9_van, if_pos (by decide), if_neg (by decide), show (23 : Int32) - 15 = 8 from by decide, val_8]
theorem van_24 {tm : Int32} {sf : Nat → Int32} {lc vT : Int32} {vG : Int64} {vM : Int32} {vO : Bool} {vN : Int32} {vD : Bool} {vA rc rl rm : Int32} {ro : Nat → Int32} {pl : Int32} : f_X9_van 24 tm sf lc vT vG vM vO vN vD vA rc rl rm ro pl = sf 9 := by
  rw [f_X9_van, if_pos (by decide), if_neg (by decide), show (24 : Int32) - 15 = 9 from by decide, val_9]
theorem van_25 {tm : Int32} {sf : Nat → Int32} {lc vT : Int32} {vG : Int64} {vM : Int32} {vO : Bool} {vN : Int32} {vD : Bool} {vA rc rl rm : Int32} {ro : Nat → Int32} {pl : Int32} : f_X9_van 25 tm sf lc vT vG vM vO vN vD vA rc rl rm ro pl = sf 10 := by
  rw [f_X9_van, if_pos (by decide), if_neg (by decide), show (25 : Int32) - 15 = 10 from by decide, val_10]
theorem sn {x : Nat} : ¬ (some x) = none := fun q => by cases q
theorem boxAt_w {b lc : Int32} {lr : Nat → Option Nat} (h : f_X9_within b 0 (lc - 1) = true) : f_X2_boxAt b lc lr = some (bxa lr b.toNatClampNeg) := by
  rw [f_X2_boxAt, if_pos h]
theorem boxAt_n {b lc : Int32} {lr : Nat → Option Nat} (h : ¬ f_X9_within b 0 (lc - 1) = true) : f_X2_boxAt b lc lr = none := by
  rw [f_X2_boxAt, if_neg h]
/-- what goes off of the box at a place in the next minute -/
def offB (lr : Nat → Option Nat) (vT : Int32) (sf qi qc : Nat → Int32) (k : Nat) : Int32 := f_X0_goingOff (bxa lr k) vT (sf 0) qi qc
theorem bx_0 {b lc vT : Int32} {sf qi qt qc qp : Nat → Int32} {lr : Nat → Option Nat} (h : f_X9_within b 0 (lc - 1) = true) : f_X9_box b 0 sf lc lr vT qi qt qc qp = qi (bxa lr b.toNatClampNeg) := by
  rw [f_X9_box, boxAt_w h, if_neg sn, if_pos rfl] <;> rfl
theorem bx_1 {b lc vT : Int32} {sf qi qt qc qp : Nat → Int32} {lr : Nat → Option Nat} (h : f_X9_within b 0 (lc - 1) = true) : f_X9_box b 1 sf lc lr vT qi qt qc qp = qt (bxa lr b.toNatClampNeg) := by
  rw [f_X9_box, boxAt_w h, if_neg sn, if_neg (by decide), if_pos rfl] <;> rfl
theorem bx_2 {b lc vT : Int32} {sf qi qt qc qp : Nat → Int32} {lr : Nat → Option Nat} (h : f_X9_within b 0 (lc - 1) = true) : f_X9_box b 2 sf lc lr vT qi qt qc qp = qc (bxa lr b.toNatClampNeg) := by
  rw [f_X9_box, boxAt_w h, if_neg sn, if_neg (by decide), if_neg (by decide), if_pos rfl] <;> rfl
theorem bx_3 {b lc vT : Int32} {sf qi qt qc qp : Nat → Int32} {lr : Nat → Option Nat} (h : f_X9_within b 0 (lc - 1) = true) : f_X9_box b 3 sf lc lr vT qi qt qc qp = qp (bxa lr b.toNatClampNeg) := by
  rw [f_X9_box, boxAt_w h, if_neg sn, if_neg (by decide), if_neg (by decide), if_neg (by decide), if_pos rfl] <;> rfl
theorem bx_4 {b lc vT : Int32} {sf qi qt qc qp : Nat → Int32} {lr : Nat → Option Nat} (h : f_X9_within b 0 (lc - 1) = true) : f_X9_box b 4 sf lc lr vT qi qt qc qp = offB lr vT sf qi qc b.toNatClampNeg := by
  rw [f_X9_box, boxAt_w h, if_neg sn, if_neg (by decide), if_neg (by decide), if_neg (by decide), if_neg (by decide), if_pos rfl, val_0] <;> rfl
theorem acc_0 {k1 k2 k3 k4 k5 : Int64} {lc : Int32} {lr : Nat → Option Nat} {qc : Nat → Int32} : f_X9_account 0 k1 k2 k3 k4 k5 lc lr qc = (f_X2_iceOfAll lc lr qc).toInt64 := by
  rw [f_X9_account, if_pos rfl]
theorem acc_1 {k1 k2 k3 k4 k5 : Int64} {lc : Int32} {lr : Nat → Option Nat} {qc : Nat → Int32} : f_X9_account 1 k1 k2 k3 k4 k5 lc lr qc = k1 := by
  rw [f_X9_account, if_neg (by decide), if_pos rfl]
theorem acc_2 {k1 k2 k3 k4 k5 : Int64} {lc : Int32} {lr : Nat → Option Nat} {qc : Nat → Int32} : f_X9_account 2 k1 k2 k3 k4 k5 lc lr qc = k2 := by
  rw [f_X9_account, if_neg (by decide), if_neg (by decide), if_pos rfl]
theorem acc_3 {k1 k2 k3 k4 k5 : Int64} {lc : Int32} {lr : Nat → Option Nat} {qc : Nat → Int32} : f_X9_account 3 k1 k2 k3 k4 k5 lc lr qc = k3 := by
  rw [f_X9_account, if_neg (by decide), if_neg (by decide), if_neg (by decide), if_pos rfl]
theorem acc_4 {k1 k2 k3 k4 k5 : Int64} {lc : Int32} {lr : Nat → Option Nat} {qc : Nat → Int32} : f_X9_account 4 k1 k2 k3 k4 k5 lc lr qc = k4 := by
  rw [f_X9_account, if_neg (by decide), if_neg (by decide), if_neg (by decide), if_neg (by decide), if_pos rfl]
theorem acc_5 {k1 k2 k3 k4 k5 : Int64} {lc : Int32} {lr : Nat → Option Nat} {qc : Nat → Int32} : f_X9_account 5 k1 k2 k3 k4 k5 lc lr qc = k5 := by
  rw [f_X9_account, if_neg (by decide), if_neg (by decide), if_neg (by decide), if_neg (by decide), if_neg (by decide), if_pos rfl]
theorem way_0 {b rc : Int32} {rd ro : Nat → Int32} (h : f_X9_within b 0 (rc - 1) = true) : f_X9_way b 0 rc rd ro = rd b.toNatClampNeg := by
  rw [f_X9_way, f_X4_hasLeg, if_pos h, if_pos rfl, f_X4_durationOf, f_X4_hasLeg, if_pos h]
theorem way_1 {b rc : Int32} {rd ro : Nat → Int32} (h : f_X9_within b 0 (rc - 1) = true) : f_X9_way b 1 rc rd ro = ro b.toNatClampNeg := by
  rw [f_X9_way, f_X4_hasLeg, if_pos h, if_neg (by decide), if_pos rfl, f_X4_outsideOf, f_X4_hasLeg, if_pos h]
theorem up_e {i n : Int32} (c : ¬ n ≤ i) : (i + 1).toInt ≤ n.toInt := by
  have h := xnle.mp c
  rw [up_i c]; omega
theorem wi_lp {i n : Int32} (h0 : 0 ≤ i.toInt) (c : ¬ n ≤ i) (hc : okC n 10) : f_X9_within i 0 (n - 1) = true := by
  have h := xnle.mp c
  exact within_iff.mpr ⟨by rw [xI0]; exact h0, by rw [m1_i hc]; omega⟩
theorem lt_n {i n : Int32} (h0 : 0 ≤ i.toInt) (c : ¬ n ≤ i) : ((i.toNatClampNeg : Nat) : Int) < n.toInt := by
  have h := xnle.mp c
  show ((i.toInt.toNat : Nat) : Int) < n.toInt
  omega
theorem wi_k {b lc : Int32} (hc : okC lc 10) : f_X9_within b 0 (lc - 1) = true ↔ 0 ≤ b.toInt ∧ b.toInt < lc.toInt := by
  rw [within_iff, xI0, m1_i hc]
  omega
