/-! a minute: the class's pass(1) is what the law reckons -/
section MJ
variable {B Tm : Int} {L : List Nat} {lc : Int32} {lr : Nat → Option Nat} {rc rl rm : Int32} {rd ro sf : Nat → Int32} {vT : Int32} {vG : Int64} {vM : Int32} {vO : Bool} {vN : Int32} {vD : Bool} {vA tm : Int32} {k1 k2 k3 k4 k5 : Int64} {qi qt qc qp : Nat → Int32}
theorem pass_1 : f_X8_letPass 1 tm k3 sf lc lr vT vG vM vO vN vD vA rc rl rm ro qi qc qp = f_X8_letMinutePass tm k3 sf lc lr vT vG vM vO vN vD vA rc rl rm ro qi qc qp := by
  have e : ((1 : Int32).toInt - (0 : Int32).toInt).toNat + 1 = (0 + 1) + 1 := by decide
  unfold f_X8_letPass
  rw [e, f_X8_letPass_lp2, if_neg (by decide), f_X8_letPass_k1, f_X8_letPass_lp2, if_pos (by decide)] <;> rfl
/-- what is drawn towards the warmth outside stays between the two -/
theorem warm_b {T U y : Int32} (hy : 1 ≤ y.toInt) (hT : -7900 ≤ T.toInt ∧ T.toInt ≤ 5000) (hU : -4000 ≤ U.toInt ∧ U.toInt ≤ 5000) : -7900 ≤ (T + (U - T) / y).toInt ∧ (T + (U - T) / y).toInt ≤ 5000 := by
  have e : (U - T).toInt = U.toInt - T.toInt := xsubI (by omega) (by omega)
  have h := td_bd (x := (U - T).toInt) hy
  have e2 := xdivI (x := U - T) hy
  rw [xaddI (by omega) (by omega), e2]
  omega
theorem out_b (h : JW rc rl rm rd ro) : -4000 ≤ (f_X4_outsideNow rc rl ro).toInt ∧ (f_X4_outsideNow rc rl ro).toInt ≤ 5000 := by
  unfold f_X4_outsideNow
  obtain ⟨h1, h2, h3, h4⟩ := h
  by_cases c : f_X4_hasLeg rl rc = true
  · rw [if_pos c]
    have q := within_iff.mp (show f_X9_within rl 0 (rc - 1) = true from c)
    rw [xI0] at q
    exact (h4 rl.toNatClampNeg (by show ((rl.toInt.toNat : Nat) : Int) < rc.toInt; omega)).2
  · rw [if_neg c]; decide
/-- gas that is lost by thousandths stays between 0 and what there was -/
theorem gas_l {g : Int64} {x : Int32} (h0 : 0 ≤ g.toInt) (h1 : g.toInt ≤ 200000000) (hx : 0 ≤ x.toInt ∧ x.toInt ≤ 1000) : 0 ≤ (g - ((g * x.toInt64) / 1000)).toInt ∧ (g - ((g * x.toInt64) / 1000)).toInt ≤ g.toInt := by
  have e : (1000 : Int64).toInt = 1000 := by decide
  have hp : 0 ≤ g.toInt * x.toInt := Int.mul_nonneg h0 hx.1
  have hq : g.toInt * x.toInt ≤ g.toInt * 1000 := Int.mul_le_mul_of_nonneg_left hx.2 h0
  have e1 : (g * x.toInt64).toInt = g.toInt * x.toInt := by rw [xmulL (by rw [tL]; omega) (by rw [tL]; omega), tL]
  have e2 : ((g * x.toInt64) / 1000).toInt = (g.toInt * x.toInt).tdiv 1000 := by rw [xdivL (by rw [e]; decide), e1, e]
  have h3 : 0 ≤ (g.toInt * x.toInt).tdiv 1000 ∧ (g.toInt * x.toInt).tdiv 1000 ≤ g.toInt := by
    rw [Int.tdiv_eq_ediv_of_nonneg hp]
    omega
  rw [xsubL (by omega) (by omega), e2]
  omega
theorem sub0 {x : Int64} : x - 0 = x := Int64.sub_zero x
theorem add0 {x : Int32} : x + 0 = x := Int32.add_zero x
theorem bi_t : (bi true) = 1 := rfl
theorem bi_f : ¬ (bi false) = 1 := by decide
theorem mi_T {s : Int32} {ya : Int64} {u200_s0 u222_s0 u272_s0 : Int32} (h : JJ B Tm L lc lr rc rl rm rd ro sf vT vG vM vO vN vD vA tm k1 k2 k3 k4 k5 qi qt qc qp) (hs : 0 ≤ s.toInt ∧ s.toInt ≤ 30000000) (hy : ya = s.toInt64) (e1 : u200_s0 = (if (bi vO) = 1 then (((f_X4_outsideNow rc rl ro) - (vT + (((f_X4_outsideNow rc rl ro) - vT) / (sf 9)))) / (sf 9)) else (0 : Int32))) (e2 : u222_s0 = (if (bi vD) = 1 then (((f_X4_outsideNow rc rl ro) - ((vT + (((f_X4_outsideNow rc rl ro) - vT) / (sf 9))) + u200_s0)) / 4) else (0 : Int32))) (e3 : u272_s0 = (if (-7900) < (((vT + (((f_X4_outsideNow rc rl ro) - vT) / (sf 9))) + u200_s0) + u222_s0) then (if (-7900) ≤ ((((vT + (((f_X4_outsideNow rc rl ro) - vT) / (sf 9))) + u200_s0) + u222_s0).toInt64 - (ya / (sf 10).toInt64)) then ((((vT + (((f_X4_outsideNow rc rl ro) - vT) / (sf 9))) + u200_s0) + u222_s0).toInt64 - (ya / (sf 10).toInt64)).toInt32 else (-7900 : Int32)) else (((vT + (((f_X4_outsideNow rc rl ro) - vT) / (sf 9))) + u200_s0) + u222_s0))) : f_X1_changeTemperature s (f_X4_outsideNow rc rl ro) vT vO vD sf = u272_s0 ∧ -7900 ≤ u272_s0.toInt ∧ u272_s0.toInt ≤ 5000 := by
  obtain ⟨-, -, hW, hS, hH, -⟩ := h
  have hU := out_b hW
  have hT := hH.1
  obtain ⟨-, -, -, -, -, -, h9, h10⟩ := hS
  have e4 : (4 : Int32).toInt = 4 := by decide
  have hk9 : ∀ x : Int32, (f_X9_quotient x.toInt64 (sf 9).toInt64).toInt32 = x / (sf 9) := fun x => quo_I h9.1
  have hk10 : ∀ x : Int32, (f_X9_quotient x.toInt64 (sf 10).toInt64).toInt32 = x / (sf 10) := fun x => quo_I h10.1
  generalize (f_X4_outsideNow rc rl ro) = U at hU e1 e2 e3 ⊢
  have hT1 := warm_b h9.1 hT hU
  generalize hg1 : vT + (U - vT) / (sf 9) = T1 at hT1 e1 e2 e3
  have hT2 : -7900 ≤ (T1 + u200_s0).toInt ∧ (T1 + u200_s0).toInt ≤ 5000 := by
    rw [e1]
    by_cases c : (bi vO) = 1
    · rw [if_pos c]; exact warm_b h9.1 hT1 hU
    · rw [if_neg c, add0]; exact hT1
  generalize hg2 : T1 + u200_s0 = T2 at hT2 e2 e3
  have hT3 : -7900 ≤ (T2 + u222_s0).toInt ∧ (T2 + u222_s0).toInt ≤ 5000 := by
    rw [e2]
    by_cases c : (bi vD) = 1
    · rw [if_pos c]; exact warm_b (by rw [e4]; decide) hT2 hU
    · rw [if_neg c, add0]; exact hT2
  generalize hg3 : T2 + u222_s0 = T3 at hT3 e3
  have hC : f_X1_changeTemperature s U vT vO vD sf = (if (T3 - s / (sf 10)) < (if (-7900) < T3 then (-7900) else T3) then (if (-7900) < T3 then (-7900) else T3) else (T3 - s / (sf 10))) := by
    unfold f_X1_changeTemperature
    simp only [val_9, val_10, hk9, hk10, hg1]
    cases vO
    · rw [if_neg bi_f] at e1
      subst e1
      rw [add0] at hg2
      subst hg2
      cases vD
      · rw [if_neg bi_f] at e2
        subst e2
        rw [add0] at hg3
        subst hg3
        rw [if_neg Bool.false_ne_true, if_neg Bool.false_ne_true]
      · rw [if_pos bi_t] at e2
        subst e2
        subst hg3
        rw [if_neg Bool.false_ne_true, if_pos rfl]
    · rw [if_pos bi_t] at e1
      subst e1
      rw [hg2]
      cases vD
      · rw [if_neg bi_f] at e2
        subst e2
        rw [add0] at hg3
        subst hg3
        rw [if_pos rfl, if_neg Bool.false_ne_true]
      · rw [if_pos bi_t] at e2
        subst e2
        rw [hg3, if_pos rfl, if_pos rfl]
  have e79 : (-7900 : Int32).toInt = -7900 := by decide
  have e79L : (-7900 : Int64).toInt = -7900 := by decide
  have hd := td_pos (x := s.toInt) (y := (sf 10).toInt) hs.1 h10.1
  have d1 : (s / (sf 10)).toInt = s.toInt.tdiv (sf 10).toInt := xdivI h10.1
  have d2 : (ya / (sf 10).toInt64).toInt = s.toInt.tdiv (sf 10).toInt := by rw [hy, xdivL (by rw [tL]; exact h10.1), tL, tL]
  have d3 : (T3 - s / (sf 10)).toInt = T3.toInt - s.toInt.tdiv (sf 10).toInt := by rw [xsubI (by omega) (by omega), d1]
  have d4 : (T3.toInt64 - (ya / (sf 10).toInt64)).toInt = T3.toInt - s.toInt.tdiv (sf 10).toInt := by rw [xsubL (by rw [tL]; omega) (by rw [tL]; omega), tL, d2]
  rw [hC, e3]
  by_cases c1 : (-7900) < T3
  · have q1 := xlt.mp c1
    rw [if_pos c1, if_pos c1]
    by_cases c2 : (-7900) ≤ (T3.toInt64 - (ya / (sf 10).toInt64))
    · have q2 := xleL.mp c2
      have q3 : ¬ (T3 - s / (sf 10)) < (-7900) := xnlt.mpr (by omega)
      have q4 : (T3 - s / (sf 10)) = (T3.toInt64 - (ya / (sf 10).toInt64)).toInt32 := tj (by rw [tI (by omega) (by omega)]; omega)
      rw [if_pos c2, if_neg q3, ← q4]
      exact ⟨rfl, by omega, by omega⟩
    · have q2 := xnleL.mp c2
      have q3 : (T3 - s / (sf 10)) < (-7900) := xlt.mpr (by omega)
      rw [if_neg c2, if_pos q3]
      exact ⟨rfl, by omega, by omega⟩
  · have q1 := xnlt.mp c1
    rw [if_neg c1, if_neg c1]
    by_cases c2 : (T3 - s / (sf 10)) < T3
    · rw [if_pos c2]; exact ⟨rfl, by omega, by omega⟩
    · have q2 := xnlt.mp c2
      have q4 : (T3 - s / (sf 10)) = T3 := tj (by omega)
      rw [if_neg c2, q4]; exact ⟨rfl, by omega, by omega⟩
theorem mi_G {s : Int32} {ya u330_s0 u359_s0 : Int64} (h : JJ B Tm L lc lr rc rl rm rd ro sf vT vG vM vO vN vD vA tm k1 k2 k3 k4 k5 qi qt qc qp) (hB : B ≤ 100000000) (hs : 0 ≤ s.toInt ∧ s.toInt ≤ 30000000) (hy : ya = s.toInt64) (e1 : u330_s0 = (if (bi vO) = 1 then ((((vG.toInt32.toInt64 + ya) - (((vG.toInt32.toInt64 + ya) * (sf 3).toInt64) / 1000)) * (sf 2).toInt64) / 1000) else (0 : Int64))) (e2 : u359_s0 = (if (bi vD) = 1 then (((((vG.toInt32.toInt64 + ya) - (((vG.toInt32.toInt64 + ya) * (sf 3).toInt64) / 1000)) - u330_s0) * (sf 4).toInt64) / 1000) else (0 : Int64))) : f_X1_loseGas (vG + s.toInt64) vO vD sf = ((((vG.toInt32.toInt64 + ya) - (((vG.toInt32.toInt64 + ya) * (sf 3).toInt64) / 1000)) - u330_s0) - u359_s0) ∧ 0 ≤ (((((vG.toInt32.toInt64 + ya) - (((vG.toInt32.toInt64 + ya) * (sf 3).toInt64) / 1000)) - u330_s0) - u359_s0)).toInt ∧ (((((vG.toInt32.toInt64 + ya) - (((vG.toInt32.toInt64 + ya) * (sf 3).toInt64) / 1000)) - u330_s0) - u359_s0)).toInt ≤ vG.toInt + s.toInt := by
  have hg := gas_bd h hB
  obtain ⟨-, -, -, hS, -, -⟩ := h
  obtain ⟨-, -, h2, h3, h4, -⟩ := hS
  have a0 : vG.toInt32.toInt64 + ya = vG + s.toInt64 := by rw [tL64 (by omega) (by omega), hy]
  have b0 : (vG + s.toInt64).toInt = vG.toInt + s.toInt := by rw [xaddL (by rw [tL]; omega) (by rw [tL]; omega), tL]
  rw [a0] at e1 e2 ⊢
  unfold f_X1_loseGas
  simp only [val_2, val_3, val_4]
  generalize vG + s.toInt64 = g at b0 e1 e2 ⊢
  have b1 := gas_l (g := g) (x := sf 3) (by omega) (by omega) ⟨h3.1, by omega⟩
  generalize hg1 : g - ((g * (sf 3).toInt64) / 1000) = g1 at b1 e1 e2 ⊢
  have b2 : 0 ≤ (g1 - u330_s0).toInt ∧ (g1 - u330_s0).toInt ≤ g1.toInt := by
    rw [e1]
    by_cases c : (bi vO) = 1
    · rw [if_pos c]; exact gas_l (by omega) (by omega) ⟨h2.1, by omega⟩
    · rw [if_neg c, sub0]; omega
  generalize hg2 : g1 - u330_s0 = g2 at b2 e2 ⊢
  have b3 : 0 ≤ (g2 - u359_s0).toInt ∧ (g2 - u359_s0).toInt ≤ g2.toInt := by
    rw [e2]
    by_cases c : (bi vD) = 1
    · rw [if_pos c]; exact gas_l (by omega) (by omega) ⟨h4.1, by omega⟩
    · rw [if_neg c, sub0]; omega
  refine ⟨?_, b3.1, by omega⟩
  cases vO
  · rw [if_neg bi_f] at e1
    subst e1
    rw [sub0] at hg2
    subst hg2
    cases vD
    · rw [if_neg bi_f] at e2
      subst e2
      rw [if_neg Bool.false_ne_true, if_neg Bool.false_ne_true, sub0]
    · rw [if_pos bi_t] at e2
      subst e2
      rw [if_neg Bool.false_ne_true, if_pos rfl]
  · rw [if_pos bi_t] at e1
    subst e1
    cases vD
    · rw [if_neg bi_f] at e2
      subst e2
      rw [if_pos rfl, if_neg Bool.false_ne_true, sub0, hg2]
    · rw [if_pos bi_t] at e2
      subst e2
      rw [if_pos rfl, if_pos rfl, hg2]
theorem mi_V {C : Int64} {u509_20 u509_19 : Int32} (h : JJ B Tm L lc lr rc rl rm rd ro sf vT vG vM vO vN vD vA tm k1 k2 k3 k4 k5 qi qt qc qp) (e1 : u509_20 = (if vM = 0 then (if vO = true then (if (sf 6).toInt64 < C then (vN + 1) else (if (vN + 1) < (sf 7) then (vN + 1) else (0 : Int32))) else (if C < (sf 5).toInt64 then (0 : Int32) else (0 : Int32))) else (if vM = 2 then (if (bi vO) = 1 then vN else (0 : Int32)) else (0 : Int32)))) (e2 : u509_19 = (if vM = 0 then (if vO = true then (if (sf 6).toInt64 < C then (1 : Int32) else (if (vN + 1) < (sf 7) then (1 : Int32) else (0 : Int32))) else (if C < (sf 5).toInt64 then (0 : Int32) else (1 : Int32))) else (if vM = 2 then (if (bi vO) = 1 then (1 : Int32) else (1 : Int32)) else (0 : Int32)))) : (bi (f_X1_moveVent C vM vO vN sf).1) = u509_19 ∧ (f_X1_moveVent C vM vO vN sf).2 = u509_20 ∧ ((f_X1_moveVent C vM vO vN sf).1 = false → (f_X1_moveVent C vM vO vN sf).2 = 0) ∧ ((f_X1_moveVent C vM vO vN sf).2 = 0 ∨ (f_X1_moveVent C vM vO vN sf).2 = vN ∨ (f_X1_moveVent C vM vO vN sf).2 = vN + 1) := by
  have hv := j_vO h
  obtain ⟨-, -, -, -, hH, -⟩ := h
  obtain ⟨-, -, hM, -⟩ := hH
  rw [e1, e2]
  unfold f_X1_moveVent
  simp only [val_5, val_6, val_7]
  by_cases c0 : vM = 0
  · rw [if_pos c0, if_pos c0, if_pos c0]
    cases vO
    · rw [if_neg Bool.false_ne_true, if_neg Bool.false_ne_true, if_neg Bool.false_ne_true, hv rfl]
      by_cases c1 : C < (sf 5).toInt64
      · rw [if_pos c1, if_pos c1, if_pos c1]; exact ⟨rfl, rfl, fun _ => rfl, Or.inl rfl⟩
      · rw [if_neg c1, if_neg c1, if_neg c1]; exact ⟨rfl, rfl, fun _ => rfl, Or.inl rfl⟩
    · rw [if_pos rfl, if_pos rfl, if_pos rfl]
      by_cases c1 : (sf 6).toInt64 < C
      · rw [if_pos c1, if_pos c1, if_pos c1]; exact ⟨rfl, rfl, (fun q => Bool.noConfusion (show true = false from q)), Or.inr (Or.inr rfl)⟩
      · rw [if_neg c1, if_neg c1, if_neg c1]
        by_cases c2 : (vN + 1) < (sf 7)
        · rw [if_pos c2, if_pos c2, if_pos c2]; exact ⟨rfl, rfl, (fun q => Bool.noConfusion (show true = false from q)), Or.inr (Or.inr rfl)⟩
        · rw [if_neg c2, if_neg c2, if_neg c2]; exact ⟨rfl, rfl, fun _ => rfl, Or.inl rfl⟩
  · rw [if_neg c0, if_neg c0, if_neg c0]
    unfold f_X1_keepToMode
    by_cases c2 : vM = 2
    · rw [if_pos c2, if_pos c2, if_pos c2]
      cases vO
      · rw [hv rfl, if_neg bi_f, if_neg bi_f]; exact ⟨rfl, rfl, fun _ => rfl, Or.inl rfl⟩
      · rw [if_pos bi_t, if_pos bi_t]; exact ⟨rfl, rfl, fun q => Bool.noConfusion (show true = false from q), Or.inr (Or.inl rfl)⟩
    · have c1 : vM = 1 := by rcases hM with q | q | q; exact absurd q c0; exact q; exact absurd q c2
      rw [if_neg c2, if_neg c2, if_neg c2, if_pos c1]; exact ⟨rfl, rfl, fun _ => rfl, Or.inl rfl⟩
theorem mi_all {o : Int32 × Int32 × Int64 × Int32 × Int64 × Bool × Int32 × Int32 × Int32 × (Nat → Int32) × (Nat → Int32)} {xi : Int32} {ya u330_s0 u359_s0 : Int64} {fa fb : Nat → Int32} {u200_s0 u222_s0 u272_s0 u509_20 u509_19 u539_s0 : Int32} (h : JJ B Tm L lc lr rc rl rm rd ro sf vT vG vM vO vN vD vA tm k1 k2 k3 k4 k5 qi qt qc qp) (hB : B ≤ 100000000) (hTm : Tm ≤ 1000) (e : f_X9_pass 1 tm k3 sf lc lr vT vG vM vO vN vD vA rc rl rm ro qi qc qp = o) (hle : xi.toInt ≤ lc.toInt) (c : lc ≤ xi) (hs : miI lr vT sf qi qc qp xi.toInt.toNat ya fa fb) (e1 : u200_s0 = (if (bi vO) = 1 then (((f_X4_outsideNow rc rl ro) - (vT + (((f_X4_outsideNow rc rl ro) - vT) / (sf 9)))) / (sf 9)) else (0 : Int32))) (e2 : u222_s0 = (if (bi vD) = 1 then (((f_X4_outsideNow rc rl ro) - ((vT + (((f_X4_outsideNow rc rl ro) - vT) / (sf 9))) + u200_s0)) / 4) else (0 : Int32))) (e3 : u272_s0 = (if (-7900) < (((vT + (((f_X4_outsideNow rc rl ro) - vT) / (sf 9))) + u200_s0) + u222_s0) then (if (-7900) ≤ ((((vT + (((f_X4_outsideNow rc rl ro) - vT) / (sf 9))) + u200_s0) + u222_s0).toInt64 - (ya / (sf 10).toInt64)) then ((((vT + (((f_X4_outsideNow rc rl ro) - vT) / (sf 9))) + u200_s0) + u222_s0).toInt64 - (ya / (sf 10).toInt64)).toInt32 else (-7900 : Int32)) else (((vT + (((f_X4_outsideNow rc rl ro) - vT) / (sf 9))) + u200_s0) + u222_s0))) (e4 : u330_s0 = (if (bi vO) = 1 then ((((vG.toInt32.toInt64 + ya) - (((vG.toInt32.toInt64 + ya) * (sf 3).toInt64) / 1000)) * (sf 2).toInt64) / 1000) else (0 : Int64))) (e5 : u359_s0 = (if (bi vD) = 1 then (((((vG.toInt32.toInt64 + ya) - (((vG.toInt32.toInt64 + ya) * (sf 3).toInt64) / 1000)) - u330_s0) * (sf 4).toInt64) / 1000) else (0 : Int64))) (e6 : u509_20 = (if vM = 0 then (if vO = true then (if (sf 6).toInt64 < (((((vG.toInt32.toInt64 + ya) - (((vG.toInt32.toInt64 + ya) * (sf 3).toInt64) / 1000)) - u330_s0) - u359_s0) / (2 * (sf 1).toInt64)) then (vN + 1) else (if (vN + 1) < (sf 7) then (vN + 1) else (0 : Int32))) else (if (((((vG.toInt32.toInt64 + ya) - (((vG.toInt32.toInt64 + ya) * (sf 3).toInt64) / 1000)) - u330_s0) - u359_s0) / (2 * (sf 1).toInt64)) < (sf 5).toInt64 then (0 : Int32) else (0 : Int32))) else (if vM = 2 then (if (bi vO) = 1 then vN else (0 : Int32)) else (0 : Int32)))) (e7 : u509_19 = (if vM = 0 then (if vO = true then (if (sf 6).toInt64 < (((((vG.toInt32.toInt64 + ya) - (((vG.toInt32.toInt64 + ya) * (sf 3).toInt64) / 1000)) - u330_s0) - u359_s0) / (2 * (sf 1).toInt64)) then (1 : Int32) else (if (vN + 1) < (sf 7) then (1 : Int32) else (0 : Int32))) else (if (((((vG.toInt32.toInt64 + ya) - (((vG.toInt32.toInt64 + ya) * (sf 3).toInt64) / 1000)) - u330_s0) - u359_s0) / (2 * (sf 1).toInt64)) < (sf 5).toInt64 then (0 : Int32) else (1 : Int32))) else (if vM = 2 then (if (bi vO) = 1 then (1 : Int32) else (1 : Int32)) else (0 : Int32)))) (e8 : u539_s0 = (if (bi vD) = 1 then (if (((((vG.toInt32.toInt64 + ya) - (((vG.toInt32.toInt64 + ya) * (sf 3).toInt64) / 1000)) - u330_s0) - u359_s0) / (2 * (sf 1).toInt64)) < (sf 8).toInt64 then (0 : Int32) else (1 : Int32)) else (0 : Int32))) : o.1 = (if rm ≤ 0 then (0 : Int32) else (1 : Int32)) ∧ o.2.1 = (tm + 1) ∧ o.2.2.2.2.2.2.2.2.1 = (if rm ≤ 0 then (0 : Int32) else (rm - 1)) ∧ o.2.2.2.1 = u272_s0 ∧ o.2.2.2.2.1.toInt32.toInt64 = ((((vG.toInt32.toInt64 + ya) - (((vG.toInt32.toInt64 + ya) * (sf 3).toInt64) / 1000)) - u330_s0) - u359_s0) ∧ (f_X8_concentration sf o.2.2.2.2.1).toInt32.toInt64 = (((((vG.toInt32.toInt64 + ya) - (((vG.toInt32.toInt64 + ya) * (sf 3).toInt64) / 1000)) - u330_s0) - u359_s0) / (2 * (sf 1).toInt64)) ∧ (bi o.2.2.2.2.2.1) = u509_19 ∧ o.2.2.2.2.2.2.1 = u509_20 ∧ o.2.2.2.2.2.2.2.1 = (vA + u539_s0) ∧ o.2.2.1 = (k3 + ya) ∧ (∀ k : Nat, (k : Int) < lc.toInt → o.2.2.2.2.2.2.2.2.2.1 (bxa lr k) = fa k ∧ o.2.2.2.2.2.2.2.2.2.2 (bxa lr k) = fb k) ∧ JJ B (Tm + 1) L lc lr rc rl o.2.2.2.2.2.2.2.2.1 rd ro sf o.2.2.2.1 o.2.2.2.2.1 vM o.2.2.2.2.2.1 o.2.2.2.2.2.2.1 vD o.2.2.2.2.2.2.2.1 o.2.1 k1 k2 o.2.2.1 k4 k5 qi qt o.2.2.2.2.2.2.2.2.2.1 o.2.2.2.2.2.2.2.2.2.2 := by
  have hc := xle.mp c
  have ex : xi.toInt = lc.toInt := by omega
  rw [ex] at hs
  obtain ⟨s1, s2⟩ := hs
  have hlc := j_c h
  have htm := h.2.2.2.2.1.2.2.2.2.2.2
  have ht1 : (tm + 1).toInt = tm.toInt + 1 := by have e := xI1; rw [xaddI (by omega) (by omega), e]
  have hF : f_X9_pass 1 tm k3 sf lc lr vT vG vM vO vN vD vA rc rl rm ro qi qc qp = f_X9_pass_k1 1 rm (f_X8_letMinutePass tm k3 sf lc lr vT vG vM vO vN vD vA rc rl rm ro qi qc qp) := by
    have e : (100000 : Int32).toInt = 100000 := by decide
    rw [f_X9_pass, if_pos (by decide), if_pos (xle.mpr (by omega)), pass_1]
  have hT := lg_f h
  rw [hF, f_X8_letMinutePass, f_X8_letMinutePass_k1, f_X8_letMinutePass_k2] at e
  generalize f_X2_letGoOff vT (f_X6_value 0 sf) lc lr qi qc qp = t at hT e
  obtain ⟨t1, t2⟩ := hT
  have hsm := sm_30 (f := fun k => (offB lr vT sf qi qc k).toInt) (n := lc.toInt.toNat) (by have := hlc.2; omega) (fun k hk => by have h1 := off_b h (k := k) (by omega); have h2 := (h.2.1 k (by omega)).2.2.1; omega)
  have hts : 0 ≤ t.1.toInt ∧ t.1.toInt ≤ 30000000 := by omega
  have hya : ya = t.1.toInt64 := tjL (by rw [tL]; omega)
  have hGas := gas_bd h hB
  obtain ⟨p1, p2⟩ := mi_T h hts hya e1 e2 e3
  obtain ⟨g1, g2⟩ := mi_G h hB hts hya e4 e5
  have hCb := conc_bd (g := ((((vG.toInt32.toInt64 + ya) - (((vG.toInt32.toInt64 + ya) * (sf 3).toInt64) / 1000)) - u330_s0) - u359_s0)) h.2.2.2.1 g2.1 (by omega)
  have hCe := conc_e (g := ((((vG.toInt32.toInt64 + ya) - (((vG.toInt32.toInt64 + ya) * (sf 3).toInt64) / 1000)) - u330_s0) - u359_s0)) h.2.2.2.1
  obtain ⟨v1, v2, v3, v4⟩ := mi_V h e6 e7
  have hK : f_X9_pass_k1 1 rm (tm + 1, k3 + t.1.toInt64, (f_X1_letMinutePass t.1 (f_X4_outsideNow rc rl ro) vT vG vM vO vN vD vA sf).1, (f_X1_letMinutePass t.1 (f_X4_outsideNow rc rl ro) vT vG vM vO vN vD vA sf).2.1, (f_X1_letMinutePass t.1 (f_X4_outsideNow rc rl ro) vT vG vM vO vN vD vA sf).2.2.1, (f_X1_letMinutePass t.1 (f_X4_outsideNow rc rl ro) vT vG vM vO vN vD vA sf).2.2.2.1, (f_X1_letMinutePass t.1 (f_X4_outsideNow rc rl ro) vT vG vM vO vN vD vA sf).2.2.2.2, f_X4_letMinutePass rm, t.2.1, t.2.2) = ((if rm < 1 then rm else 1), tm + 1, k3 + t.1.toInt64, u272_s0, ((((vG.toInt32.toInt64 + ya) - (((vG.toInt32.toInt64 + ya) * (sf 3).toInt64) / 1000)) - u330_s0) - u359_s0), (f_X1_moveVent (((((vG.toInt32.toInt64 + ya) - (((vG.toInt32.toInt64 + ya) * (sf 3).toInt64) / 1000)) - u330_s0) - u359_s0) / (2 * (sf 1).toInt64)) vM vO vN sf).1, (f_X1_moveVent (((((vG.toInt32.toInt64 + ya) - (((vG.toInt32.toInt64 + ya) * (sf 3).toInt64) / 1000)) - u330_s0) - u359_s0) / (2 * (sf 1).toInt64)) vM vO vN sf).2, vA + u539_s0, f_X4_letMinutePass rm, t.2.1, t.2.2) := by
    unfold f_X9_pass_k1 f_X1_letMinutePass
    have hcc : f_X1_concentration ((((vG.toInt32.toInt64 + ya) - (((vG.toInt32.toInt64 + ya) * (sf 3).toInt64) / 1000)) - u330_s0) - u359_s0) sf = (((((vG.toInt32.toInt64 + ya) - (((vG.toInt32.toInt64 + ya) * (sf 3).toInt64) / 1000)) - u330_s0) - u359_s0) / (2 * (sf 1).toInt64)) := hCe
    rw [p1, g1, hcc]
    simp only [val_8]
    rw [e8]
    cases vD
    · rw [if_neg Bool.false_ne_true, if_neg bi_f, add0] <;> rfl
    · rw [if_pos rfl, if_pos bi_t]
      by_cases c9 : (((((vG.toInt32.toInt64 + ya) - (((vG.toInt32.toInt64 + ya) * (sf 3).toInt64) / 1000)) - u330_s0) - u359_s0) / (2 * (sf 1).toInt64)) < (sf 8).toInt64
      · rw [if_pos c9, if_pos c9, add0] <;> rfl
      · rw [if_neg c9, if_neg c9] <;> rfl
  rw [hK] at e
  subst e
  have hrm := h.2.2.1.2.2.1
  have e1I := xI1
  have e0I := xI0
  have r1 : (if rm < 1 then rm else 1) = (if rm ≤ 0 then (0 : Int32) else (1 : Int32)) := by
    by_cases q : rm ≤ 0
    · have q2 := xle.mp q
      rw [if_pos q, if_pos (xlt.mpr (by omega))]
      exact tj (by omega)
    · have q2 := xnle.mp q
      rw [if_neg q, if_neg (xnlt.mpr (by omega))]
  have r2 : f_X4_letMinutePass rm = (if rm ≤ 0 then (0 : Int32) else (rm - 1)) := by
    unfold f_X4_letMinutePass f_X4_isOnTheWay
    by_cases q : rm ≤ 0
    · have q2 := xle.mp q
      rw [if_pos q, if_neg Bool.false_ne_true, if_pos q]
      exact tj (by omega)
    · rw [if_neg q, if_pos rfl, if_neg q]
  have r3 : 0 ≤ (f_X4_letMinutePass rm).toInt ∧ (f_X4_letMinutePass rm).toInt ≤ 600 := by
    rw [r2]
    by_cases q : rm ≤ 0
    · rw [if_pos q]; omega
    · have q2 := xnle.mp q
      rw [if_neg q, xsubI (by omega) (by omega)]; omega
  have w1 : 0 ≤ u539_s0.toInt ∧ u539_s0.toInt ≤ 1 := by
    rw [e8]
    by_cases q : (bi vD) = 1
    · rw [if_pos q]
      by_cases q2 : (((((vG.toInt32.toInt64 + ya) - (((vG.toInt32.toInt64 + ya) * (sf 3).toInt64) / 1000)) - u330_s0) - u359_s0) / (2 * (sf 1).toInt64)) < (sf 8).toInt64
      · rw [if_pos q2]; omega
      · rw [if_neg q2]; omega
    · rw [if_neg q]; omega
  have gI : (((((vG.toInt32.toInt64 + ya) - (((vG.toInt32.toInt64 + ya) * (sf 3).toInt64) / 1000)) - u330_s0) - u359_s0)).toInt32.toInt64 = ((((vG.toInt32.toInt64 + ya) - (((vG.toInt32.toInt64 + ya) * (sf 3).toInt64) / 1000)) - u330_s0) - u359_s0) := tL64 (by omega) (by omega)
  obtain ⟨hR, hX, hW, hS, hH, hA⟩ := h
  obtain ⟨a1, a2, a3, a4, a5, a6⟩ := hA
  obtain ⟨b1, b2, b3, b4, b5, b6, b7⟩ := hH
  have k3e : (k3 + t.1.toInt64).toInt = k3.toInt + t.1.toInt := by rw [xaddL (by rw [tL]; omega) (by rw [tL]; omega), tL]
  dsimp only
  refine ⟨r1, rfl, r2, rfl, gI, ?_, v1, v2, rfl, by rw [hya], fun k hk => ⟨tj ((t2 k hk).1.trans (s2 k (by omega)).1.symm), tj ((t2 k hk).2.trans (s2 k (by omega)).2.symm)⟩, hR, fun k hk => ?_, ⟨hW.1, hW.2.1, r3, hW.2.2.2⟩, hS, ⟨p2, ⟨g2.1, ?_⟩, b3, v3, ?_, ?_, ?_, ?_⟩, ?_, a2, ?_, a4, a5, a6⟩
  · show (f_X8_concentration sf (((((vG.toInt32.toInt64 + ya) - (((vG.toInt32.toInt64 + ya) * (sf 3).toInt64) / 1000)) - u330_s0) - u359_s0))).toInt32.toInt64 = _
    rw [tL64 (by omega) (by omega), hCe]
  · obtain ⟨x1, x2, x3, x4⟩ := hX k hk
    have h3 := t2 k hk
    have h4 := offB_c (sf := sf) (qc := qc) b1 x1 x3.1
    have h5 := h4.1
    refine ⟨x1, x2, ?_, ?_⟩
    · show 0 ≤ (t.2.1 (bxa lr k)).toInt ∧ (t.2.1 (bxa lr k)).toInt ≤ 3000000
      rw [h3.1]; omega
    · show 0 ≤ (t.2.2 (bxa lr k)).toInt ∧ (t.2.2 (bxa lr k)).toInt ≤ 3000000
      rw [h3.2]
      unfold offP
      split <;> omega
  · show (((((vG.toInt32.toInt64 + ya) - (((vG.toInt32.toInt64 + ya) * (sf 3).toInt64) / 1000)) - u330_s0) - u359_s0)).toInt ≤ (k3 + t.1.toInt64).toInt
    rw [k3e]; omega
  · show 0 ≤ (f_X1_moveVent (((((vG.toInt32.toInt64 + ya) - (((vG.toInt32.toInt64 + ya) * (sf 3).toInt64) / 1000)) - u330_s0) - u359_s0) / (2 * (sf 1).toInt64)) vM vO vN sf).2.toInt ∧ (f_X1_moveVent (((((vG.toInt32.toInt64 + ya) - (((vG.toInt32.toInt64 + ya) * (sf 3).toInt64) / 1000)) - u330_s0) - u359_s0) / (2 * (sf 1).toInt64)) vM vO vN sf).2.toInt ≤ (tm + 1).toInt
    rcases v4 with q | q | q
    · rw [q]; omega
    · rw [q]; omega
    · rw [q, xaddI (by omega) (by omega)]; omega
  · show 0 ≤ (vA + u539_s0).toInt ∧ (vA + u539_s0).toInt ≤ (tm + 1).toInt
    rw [xaddI (by omega) (by omega)]; omega
  · show 0 ≤ (tm + 1).toInt
    omega
  · show (tm + 1).toInt ≤ Tm + 1
    omega
  · show k1.toInt = smC lr t.2.1 lc.toInt.toNat + k2.toInt + (k3 + t.1.toInt64).toInt + k4.toInt + k5.toInt
    have hsum : smC lr t.2.1 lc.toInt.toNat = smC lr qc lc.toInt.toNat - sm (fun k => (offB lr vT sf qi qc k).toInt) lc.toInt.toNat := by
      have e1 : smC lr t.2.1 lc.toInt.toNat = sm (fun k => (qc (bxa lr k)).toInt - (offB lr vT sf qi qc k).toInt) lc.toInt.toNat := sm_ext fun k hk => (t2 k (by omega)).1
      rw [e1, sm_sub]; rfl
    rw [hsum, k3e]; omega
  · show 0 ≤ (k3 + t.1.toInt64).toInt
    rw [k3e]; omega
end MJ
