/-! what holds of a van between the law's steps -/
def JR (L : List Nat) (lc : Int32) (lr : Nat → Option Nat) : Prop := okR L lr ∧ okC lc 10 ∧ ∀ i j : Nat, i < 10 → j < 10 → bxa lr i = bxa lr j → i = j
def JX (lc : Int32) (lr : Nat → Option Nat) (qi qt qc qp : Nat → Int32) : Prop := ∀ k : Nat, (k : Int) < lc.toInt →
  (1 ≤ (qi (bxa lr k)).toInt ∧ (qi (bxa lr k)).toInt ≤ 100) ∧ (0 ≤ (qt (bxa lr k)).toInt ∧ (qt (bxa lr k)).toInt ≤ 5000000) ∧ (0 ≤ (qc (bxa lr k)).toInt ∧ (qc (bxa lr k)).toInt ≤ 3000000) ∧ (0 ≤ (qp (bxa lr k)).toInt ∧ (qp (bxa lr k)).toInt ≤ 3000000)
def JW (rc rl rm : Int32) (rd ro : Nat → Int32) : Prop := okC rc 12 ∧ (-1 ≤ rl.toInt ∧ rl.toInt < rc.toInt) ∧ (0 ≤ rm.toInt ∧ rm.toInt ≤ 600) ∧ ∀ k : Nat, (k : Int) < rc.toInt → (1 ≤ (rd k).toInt ∧ (rd k).toInt ≤ 600) ∧ (-4000 ≤ (ro k).toInt ∧ (ro k).toInt ≤ 5000)
def JS (sf : Nat → Int32) : Prop := (0 ≤ (sf 0).toInt ∧ (sf 0).toInt ≤ 1000) ∧ (1 ≤ (sf 1).toInt ∧ (sf 1).toInt ≤ 100) ∧ (0 ≤ (sf 2).toInt ∧ (sf 2).toInt ≤ 500) ∧ (0 ≤ (sf 3).toInt ∧ (sf 3).toInt ≤ 100) ∧ (0 ≤ (sf 4).toInt ∧ (sf 4).toInt ≤ 900) ∧ (1 ≤ (sf 8).toInt ∧ (sf 8).toInt ≤ 50000) ∧ (1 ≤ (sf 9).toInt ∧ (sf 9).toInt ≤ 200) ∧ (1 ≤ (sf 10).toInt ∧ (sf 10).toInt ≤ 100000)
def JH (Tm : Int) (vT : Int32) (vG : Int64) (vM : Int32) (vO : Bool) (vN vA tm : Int32) (k3 : Int64) : Prop := (-7900 ≤ vT.toInt ∧ vT.toInt ≤ 5000) ∧ (0 ≤ vG.toInt ∧ vG.toInt ≤ k3.toInt) ∧ (vM = 0 ∨ vM = 1 ∨ vM = 2) ∧ (vO = false → vN = 0) ∧ (0 ≤ vN.toInt ∧ vN.toInt ≤ tm.toInt) ∧ (0 ≤ vA.toInt ∧ vA.toInt ≤ tm.toInt) ∧ (0 ≤ tm.toInt ∧ tm.toInt ≤ Tm)
def smC (lr : Nat → Option Nat) (q : Nat → Int32) (n : Nat) : Int := sm (fun k => (q (bxa lr k)).toInt) n
def JA (B : Int) (lc : Int32) (lr : Nat → Option Nat) (qc : Nat → Int32) (k1 k2 k3 k4 k5 : Int64) : Prop := k1.toInt = smC lr qc lc.toInt.toNat + k2.toInt + k3.toInt + k4.toInt + k5.toInt ∧ 0 ≤ k2.toInt ∧ 0 ≤ k3.toInt ∧ 0 ≤ k4.toInt ∧ 0 ≤ k5.toInt ∧ k1.toInt ≤ B
def JJ (B Tm : Int) (L : List Nat) (lc : Int32) (lr : Nat → Option Nat) (rc rl rm : Int32) (rd ro sf : Nat → Int32) (vT : Int32) (vG : Int64) (vM : Int32) (vO : Bool) (vN : Int32) (vD : Bool) (vA tm : Int32) (k1 k2 k3 k4 k5 : Int64) (qi qt qc qp : Nat → Int32) : Prop :=
  JR L lc lr ∧ JX lc lr qi qt qc qp ∧ JW rc rl rm rd ro ∧ JS sf ∧ JH Tm vT vG vM vO vN vA tm k3 ∧ JA B lc lr qc k1 k2 k3 k4 k5
section JJS
variable {B Tm : Int} {L : List Nat} {lc : Int32} {lr : Nat → Option Nat} {rc rl rm : Int32} {rd ro sf : Nat → Int32} {vT : Int32} {vG : Int64} {vM : Int32} {vO : Bool} {vN : Int32} {vD : Bool} {vA tm : Int32} {k1 k2 k3 k4 k5 : Int64} {qi qt qc qp : Nat → Int32}
theorem j_r (h : JJ B Tm L lc lr rc rl rm rd ro sf vT vG vM vO vN vD vA tm k1 k2 k3 k4 k5 qi qt qc qp) : okR L lr := h.1.1
theorem j_c (h : JJ B Tm L lc lr rc rl rm rd ro sf vT vG vM vO vN vD vA tm k1 k2 k3 k4 k5 qi qt qc qp) : okC lc 10 := h.1.2.1
theorem j_w (h : JJ B Tm L lc lr rc rl rm rd ro sf vT vG vM vO vN vD vA tm k1 k2 k3 k4 k5 qi qt qc qp) : okC rc 12 := h.2.2.1.1
theorem j_vO (h : JJ B Tm L lc lr rc rl rm rd ro sf vT vG vM vO vN vD vA tm k1 k2 k3 k4 k5 qi qt qc qp) : vO = false → vN = 0 := h.2.2.2.2.1.2.2.2.1
theorem j_door {vO' vD' : Bool} (h : JJ B Tm L lc lr rc rl rm rd ro sf vT vG vM vO vN vD vA tm k1 k2 k3 k4 k5 qi qt qc qp) (hv : vO' = false → vN = 0) : JJ B Tm L lc lr rc rl rm rd ro sf vT vG vM vO' vN vD' vA tm k1 k2 k3 k4 k5 qi qt qc qp := by
  obtain ⟨h1, h2, h3, h4, ⟨g1, g2, g3, -, g5⟩, h6⟩ := h
  exact ⟨h1, h2, h3, h4, ⟨g1, g2, g3, hv, g5⟩, h6⟩
theorem ice_lp {f : Nat → Int} (hf : ∀ k, f k = (qc (bxa lr k)).toInt) (hc : okC lc 10) (hx : ∀ k : Nat, (k : Int) < lc.toInt → 0 ≤ f k ∧ f k ≤ 3000000) : ∀ (n : Nat) (xs xi : Int32), 0 ≤ xi.toInt → xi.toInt ≤ lc.toInt → xs.toInt = sm f xi.toInt.toNat → (lc.toInt - xi.toInt).toNat < n → (f_X2_iceOfAll_lp4 lc lr qc n xs xi).toInt = sm f lc.toInt.toNat := by
  intro n
  induction n with
  | zero => intro xs xi _ _ _ h; exact absurd h (Nat.not_lt_zero _)
  | succ n ih =>
    intro xs xi h0 hle hs hn
    rw [f_X2_iceOfAll_lp4]
    have h10 := hc.2
    by_cases c : lc ≤ xi
    · rw [if_pos c]
      have h := xle.mp c
      have e : xi.toInt = lc.toInt := by omega
      rw [hs, e]
    · rw [if_neg c]
      have h := xnle.mp c
      have hu := up_i c
      have e : (xi + 1).toInt.toNat = xi.toInt.toNat + 1 := by omega
      refine ih _ _ (up_0 h0 c) (by omega) ?_ (up_mu c hn)
      have h1 := sm_30 (f := f) (n := xi.toInt.toNat) (by omega) (fun k hk => hx k (by omega))
      have h2 := hx xi.toInt.toNat (by omega)
      have h3 : (qc (bxa lr xi.toNatClampNeg)).toInt = f xi.toInt.toNat := (hf _).symm
      rw [e]
      show _ = sm f xi.toInt.toNat + f xi.toInt.toNat
      rw [xaddI (by omega) (by omega), h3, hs]
theorem ice_sum (h : JJ B Tm L lc lr rc rl rm rd ro sf vT vG vM vO vN vD vA tm k1 k2 k3 k4 k5 qi qt qc qp) : (f_X2_iceOfAll lc lr qc).toInt = smC lr qc lc.toInt.toNat := by
  have hc := j_c h
  exact ice_lp (fun _ => rfl) hc (fun k hk => (h.2.1 k hk).2.2.1) _ 0 0 (by decide) (by rw [xI0]; exact hc.1) rfl (Nat.lt_succ_self _)
theorem smC_bd (h : JJ B Tm L lc lr rc rl rm rd ro sf vT vG vM vO vN vD vA tm k1 k2 k3 k4 k5 qi qt qc qp) {n : Nat} (hn : (n : Int) ≤ lc.toInt) : 0 ≤ smC lr qc n ∧ smC lr qc n ≤ 30000000 := by
  have h10 := (j_c h).2
  exact sm_30 (by omega) (fun k hk => (h.2.1 k (by omega)).2.2.1)
theorem au_s {ys : Int64} {xi : Int32} (h : JJ B Tm L lc lr rc rl rm rd ro sf vT vG vM vO vN vD vA tm k1 k2 k3 k4 k5 qi qt qc qp) (hB : B ≤ 100000000) (h0 : 0 ≤ xi.toInt) (c : ¬ lc ≤ xi) (hs : ys.toInt = sm (fun k => (qc (bxa lr k)).toInt) xi.toInt.toNat) : (ys + (qc (bxa lr xi.toNatClampNeg)).toInt64).toInt = sm (fun k => (qc (bxa lr k)).toInt) (xi + 1).toInt.toNat := by
  have hc := xnle.mp c
  have hu := up_i c
  have e : (xi + 1).toInt.toNat = xi.toInt.toNat + 1 := by omega
  have h1 := smC_bd h (n := xi.toInt.toNat) (by omega)
  have h2 := (h.2.1 xi.toInt.toNat (by omega)).2.2.1
  rw [e]
  show _ = sm (fun k => (qc (bxa lr k)).toInt) xi.toInt.toNat + (qc (bxa lr xi.toNatClampNeg)).toInt
  unfold smC at h1
  have h3 : (qc (bxa lr xi.toNatClampNeg)).toInt = (qc (bxa lr xi.toInt.toNat)).toInt := rfl
  rw [xaddL (by rw [tL]; omega) (by rw [tL]; omega), tL, hs]
theorem au_0 {ys : Int64} {xi : Int32} (h : JJ B Tm L lc lr rc rl rm rd ro sf vT vG vM vO vN vD vA tm k1 k2 k3 k4 k5 qi qt qc qp) (hle : xi.toInt ≤ lc.toInt) (c : lc ≤ xi) (hs : ys.toInt = sm (fun k => (qc (bxa lr k)).toInt) xi.toInt.toNat) : (f_X2_iceOfAll lc lr qc).toInt64 = ys := by
  have hc := xle.mp c
  have e : xi.toInt = lc.toInt := by omega
  rw [e] at hs
  exact tjL (by rw [tL, ice_sum h, hs]; rfl)
theorem au_1 {ys : Int64} {xi : Int32} (h : JJ B Tm L lc lr rc rl rm rd ro sf vT vG vM vO vN vD vA tm k1 k2 k3 k4 k5 qi qt qc qp) (hB : B ≤ 100000000) (hle : xi.toInt ≤ lc.toInt) (c : lc ≤ xi) (hs : ys.toInt = sm (fun k => (qc (bxa lr k)).toInt) xi.toInt.toNat) : k1 = ((((ys + k2) + k3) + k4) + k5) := by
  have hc := xle.mp c
  have e : xi.toInt = lc.toInt := by omega
  rw [e] at hs
  have hs2 : ys.toInt = smC lr qc lc.toInt.toNat := hs
  have h1 := smC_bd h (n := lc.toInt.toNat) (by have := (j_c h).1; omega)
  obtain ⟨g1, g2, g3, g4, g5, g6⟩ := h.2.2.2.2.2
  have a1 : (ys + k2).toInt = ys.toInt + k2.toInt := xaddL (by omega) (by omega)
  have a2 : (ys + k2 + k3).toInt = ys.toInt + k2.toInt + k3.toInt := by rw [xaddL (by omega) (by omega), a1]
  have a3 : (ys + k2 + k3 + k4).toInt = ys.toInt + k2.toInt + k3.toInt + k4.toInt := by rw [xaddL (by omega) (by omega), a2]
  refine tjL ?_
  rw [xaddL (by omega) (by omega), a3, hs2]; exact g1
/-- the gas, the concentration -/
theorem gas_bd (h : JJ B Tm L lc lr rc rl rm rd ro sf vT vG vM vO vN vD vA tm k1 k2 k3 k4 k5 qi qt qc qp) (hB : B ≤ 100000000) : 0 ≤ vG.toInt ∧ vG.toInt ≤ 100000000 ∧ k3.toInt ≤ 100000000 := by
  have h1 := smC_bd h (n := lc.toInt.toNat) (by have := (j_c h).1; omega)
  obtain ⟨g1, g2, g3, g4, g5, g6⟩ := h.2.2.2.2.2
  have h2 := h.2.2.2.2.1.2.1
  omega
theorem conc_e {g : Int64} (h : JS sf) : f_X8_concentration sf g = g / (2 * (sf 1).toInt64) := by
  have h1 := h.2.1
  have e2 : (2 : Int64).toInt = 2 := by decide
  have e : (2 * (sf 1).toInt64).toInt = 2 * (sf 1).toInt := by rw [xmulL (by rw [e2, tL]; omega) (by rw [e2, tL]; omega), e2, tL]
  show f_X1_concentration g sf = _
  rw [f_X1_concentration, val_1, quo_L (by rw [e]; omega)]
theorem conc_bd {g : Int64} (h : JS sf) (h0 : 0 ≤ g.toInt) (h1 : g.toInt ≤ 200000000) : 0 ≤ (f_X8_concentration sf g).toInt ∧ (f_X8_concentration sf g).toInt ≤ 200000000 := by
  have h2 := h.2.1
  have e2 : (2 : Int64).toInt = 2 := by decide
  have e : (2 * (sf 1).toInt64).toInt = 2 * (sf 1).toInt := by rw [xmulL (by rw [e2, tL]; omega) (by rw [e2, tL]; omega), e2, tL]
  have h3 := td_pos (x := g.toInt) (y := 2 * (sf 1).toInt) h0 (by omega)
  rw [conc_e h, xdivL (by rw [e]; omega), e]
  omega
theorem vD_1 (h : (bi vD) = 1) : vD = true := by
  cases vD
  · exact absurd h (by decide)
  · rfl
theorem vD_0 (h : ¬ (bi vD) = 1) : vD = false := by
  cases vD
  · rfl
  · exact absurd rfl h
theorem op_open {o : Int32 × Bool × Bool} (e : f_X9_open sf vG vO vD rm = o) (h : (bi vD) = 1) : o = (-5, vO, true) := by
  subst e
  rw [vD_1 h, f_X9_open]
  by_cases c : f_X4_isOnTheWay rm = true
  · rw [if_pos c]
  · rw [if_neg c, if_pos rfl]
theorem op_away {o : Int32 × Bool × Bool} (e : f_X9_open sf vG vO vD rm = o) (h : ¬ (bi vD) = 1) (a : ¬ rm ≤ 0) : o = (-5, vO, false) := by
  subst e
  rw [vD_0 h, f_X9_open, f_X4_isOnTheWay, if_neg a, if_pos rfl]
theorem op_safe (h : JJ B Tm L lc lr rc rl rm rd ro sf vT vG vM vO vN vD vA tm k1 k2 k3 k4 k5 qi qt qc qp) (hB : B ≤ 100000000) : (f_X8_concentration sf vG).toInt32 < (sf 8) ↔ ¬ (f_X6_value 8 sf).toInt64 ≤ f_X8_concentration sf vG := by
  have h1 := gas_bd h hB
  have h2 := conc_bd (g := vG) h.2.2.2.1 h1.1 (by omega)
  rw [val_8, xnleL, tL, xlt, tI (by omega) (by omega)]
theorem op_thin {o : Int32 × Bool × Bool} (h : JJ B Tm L lc lr rc rl rm rd ro sf vT vG vM vO vN vD vA tm k1 k2 k3 k4 k5 qi qt qc qp) (hB : B ≤ 100000000) (e : f_X9_open sf vG vO vD rm = o) (hd : ¬ (bi vD) = 1) (a : rm ≤ 0) (c : (f_X8_concentration sf vG).toInt32 < (sf 8)) : o = ((f_X8_concentration sf vG).toInt32, vO, true) := by
  subst e
  have c2 := (op_safe h hB).mp c
  rw [vD_0 hd, f_X9_open, f_X4_isOnTheWay, if_pos a, if_neg (by decide), if_neg (by decide), f_X8_isSafe, if_neg c2, if_pos rfl]
theorem op_thick {o : Int32 × Bool × Bool} (h : JJ B Tm L lc lr rc rl rm rd ro sf vT vG vM vO vN vD vA tm k1 k2 k3 k4 k5 qi qt qc qp) (hB : B ≤ 100000000) (e : f_X9_open sf vG vO vD rm = o) (hd : ¬ (bi vD) = 1) (a : rm ≤ 0) (c : ¬ (f_X8_concentration sf vG).toInt32 < (sf 8)) : o = (-6, true, false) := by
  subst e
  have c2 : (f_X6_value 8 sf).toInt64 ≤ f_X8_concentration sf vG := Classical.not_not.mp (fun q => c ((op_safe h hB).mpr q))
  rw [vD_0 hd, f_X9_open, f_X4_isOnTheWay, if_pos a, if_neg (by decide), if_neg (by decide), f_X8_isSafe, if_pos c2, if_neg (by decide)]
  rfl
theorem dv_9 (h : JJ B Tm L lc lr rc rl rm rd ro sf vT vG vM vO vN vD vA tm k1 k2 k3 k4 k5 qi qt qc qp) : ¬ (sf 9) = 0 := fun q => by
  have h1 := h.2.2.2.1.2.2.2.2.2.2.1.1
  rw [q, xI0] at h1
  omega
theorem dv_10 (h : JJ B Tm L lc lr rc rl rm rd ro sf vT vG vM vO vN vD vA tm k1 k2 k3 k4 k5 qi qt qc qp) : ¬ (sf 10).toInt64 = 0 := fun q => by
  have h1 := h.2.2.2.1.2.2.2.2.2.2.2.1
  have h2 := tL (sf 10)
  rw [q, xL0] at h2
  omega
theorem dv_1 (h : JJ B Tm L lc lr rc rl rm rd ro sf vT vG vM vO vN vD vA tm k1 k2 k3 k4 k5 qi qt qc qp) : ¬ 2 * (sf 1).toInt64 = 0 := fun q => by
  have h1 := h.2.2.2.1.2.1
  have e2 : (2 : Int64).toInt = 2 := by decide
  have e : (2 * (sf 1).toInt64).toInt = 2 * (sf 1).toInt := by rw [xmulL (by rw [e2, tL]; omega) (by rw [e2, tL]; omega), e2, tL]
  rw [q, xL0] at e
  omega
end JJS
