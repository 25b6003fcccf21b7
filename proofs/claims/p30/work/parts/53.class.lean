/-! the class's own counts and rows -/
theorem cl_load {a0 a1 a2 : Int32} {k1 : Int64} {lc : Int32} {lr : Nat → Option Nat} {vD : Bool} {qi qt qc qp : Nat → Int32} (h : okC lc 10) : okC (f_X9_load a0 a1 a2 k1 lc lr vD qi qt qc qp).2.2.1 10 := by
  unfold f_X9_load
  by_cases c1 : f_X9_within a0 1 100 = true
  · rw [if_pos c1]
    by_cases c2 : f_X9_within a1 0 5000000 = true
    · rw [if_pos c2]
      by_cases c3 : f_X9_within a2 0 20000000 = true
      · rw [if_pos c3]
        by_cases c4 : lc < 10
        · rw [if_pos c4]
          by_cases c5 : vD = true
          · rw [if_pos c5]
            unfold f_X9_load_k1 f_X2_append
            rw [if_pos c4]
            have e1 := xI1
            have e10 : (10 : Int32).toInt = 10 := by decide
            have h4 := xlt.mp c4
            have h0 := h.1
            show okC (lc + 1) 10
            exact ⟨by rw [xaddI (by omega) (by omega)]; omega, by rw [xaddI (by omega) (by omega)]; omega⟩
          · rw [if_neg c5]; exact h
        · rw [if_neg c4]; exact h
      · rw [if_neg c3]; exact h
    · rw [if_neg c2]; exact h
  · rw [if_neg c1]; exact h
theorem cl_unload {L : List Nat} {a0 : Int32} {k2 : Int64} {lc : Int32} {lr : Nat → Option Nat} {vD : Bool} {qc : Nat → Int32} (hr : okR L lr) (h : okC lc 10) : okC (f_X9_unload a0 k2 lc lr vD qc).2.2.1 10 ∧ okR L (f_X9_unload a0 k2 lc lr vD qc).2.2.2 := by
  unfold f_X9_unload
  by_cases c1 : f_X2_boxAt a0 lc lr = none
  · rw [if_pos c1]; exact ⟨h, hr⟩
  · rw [if_neg c1]
    by_cases c2 : vD = true
    · rw [if_pos c2]
      unfold f_X2_takeOut
      by_cases c3 : f_X9_within a0 0 (lc - 1) = true
      · rw [if_pos c3]
        have h3 := within_iff.mp c3
        have h4 := m1_i h
        have e0 := xI0
        have h5 := h.2
        exact ⟨⟨by show 0 ≤ (lc - 1).toInt; omega, by show (lc - 1).toInt ≤ 10; omega⟩, mv_ok hr h⟩
      · rw [if_neg c3]; exact ⟨h, hr⟩
    · rw [if_neg c2]; exact ⟨h, hr⟩
theorem cl_shift {L : List Nat} {a0 a1 lc : Int32} {lr : Nat → Option Nat} {qc : Nat → Int32} (hr : okR L lr) (h : okC lc 10) : okR L (f_X9_shift a0 a1 lc lr qc).2 := by
  unfold f_X9_shift
  by_cases c1 : f_X2_boxAt a0 lc lr = none
  · rw [if_pos c1]; exact hr
  · rw [if_neg c1]
    by_cases c2 : f_X2_boxAt a1 lc lr = none
    · rw [if_pos c2]; exact hr
    · rw [if_neg c2]; exact mv_ok hr h
theorem cl_leg {a0 a1 rc : Int32} {rd ro : Nat → Int32} (h : okC rc 12) : okC (f_X9_leg a0 a1 rc rd ro).2.1 12 := by
  unfold f_X9_leg
  by_cases c1 : f_X9_within a0 1 600 = true
  · rw [if_pos c1]
    by_cases c2 : f_X9_within a1 (-4000) 5000 = true
    · rw [if_pos c2]
      by_cases c3 : rc < 12
      · rw [if_pos c3]
        unfold f_X9_leg_k1
        exact app_ok h
      · rw [if_neg c3]; exact h
    · rw [if_neg c2]; exact h
  · rw [if_neg c1]; exact h
theorem cl_cut {rc rl : Int32} (h : okC rc 12) : okC (f_X9_cut rc rl).2 12 := by
  unfold f_X9_cut
  by_cases c1 : f_X4_hasNextLeg rc rl = true
  · rw [if_pos c1]
    have h3 := within_iff.mp (show f_X9_within (rl + 1) 0 (rc - 1) = true from c1)
    have h4 := m1_i h
    have e0 := xI0
    have h5 := h.2
    exact ⟨by show 0 ≤ (rc - 1).toInt; omega, by show (rc - 1).toInt ≤ 12; omega⟩
  · rw [if_neg c1]; exact h
theorem cl_say {a0 pl : Int32} {pf : Nat → Int32} (h : okC pl 80) : okC (f_X9_say a0 pl pf).2.1 80 := by
  unfold f_X9_say
  by_cases c1 : f_X9_within a0 33 126 = true
  · rw [if_pos c1]
    by_cases c2 : pl < 80
    · rw [if_pos c2]
      show okC (f_X3_append a0 pl pf).1 80
      unfold f_X3_append
      have h2 := xlt.mp c2
      by_cases c3 : 80 ≤ pl
      · rw [if_pos c3]; exact h
      · rw [if_neg c3]; exact okC_up h (by decide) c3
    · rw [if_neg c2]; exact h
  · rw [if_neg c1]; exact h
theorem cm_say {a0 pm : Int32} {mp : Nat → Int32} (h : okC pm 80) : okC (f_X10_say a0 pm mp).2.1 80 := by
  unfold f_X10_say
  by_cases c1 : f_X10_in a0.toInt64 33 126 = true
  · rw [if_pos c1]
    by_cases c2 : pm = 80
    · rw [if_pos c2]; exact h
    · rw [if_neg c2]
      have e80 : (80 : Int32).toInt = 80 := by decide
      refine okC_up h e80 fun q => c2 (tj ?_)
      have q2 := xle.mp q
      have h2 := h.2
      omega
  · rw [if_neg c1]; exact h
theorem okC_0 {n : Int} (h : 0 ≤ n) : okC 0 n := ⟨by decide, by rw [xI0]; exact h⟩
theorem cl_fo_lp {pl : Int32} {pf : Nat → Int32} : ∀ (n : Nat) (xi yl ys yn yd : Int32) (yb : Bool) (ydf yof : Nat → Int32), okC yl 20 → okC (f_X5_faultOf_lp12 pl pf n xi yl ys yn yd yb ydf yof).2.1 20 := by
  intro n
  induction n with
  | zero => intro xi yl ys yn yd yb ydf yof _; exact okC_0 (by decide)
  | succ n ih =>
    intro xi yl ys yn yd yb ydf yof h
    rw [f_X5_faultOf_lp12]
    by_cases c : pl ≤ xi
    · rw [if_pos c]
      by_cases c2 : ys = 4
      · rw [if_pos c2, f_X5_faultOf_k1]; exact endLeg_ok h
      · rw [if_neg c2]; exact h
    · rw [if_neg c, f_X5_faultOf_k2]
      have ht := takes_ok (a0 := f_X3_codeAt xi pl pf) (qs := ys) (qn := yn) (qd := yd) (qb := yb) (f := ydf) (g := yof) h
      by_cases c3 : (f_X5_takes (f_X3_codeAt xi pl pf) yl ys yn yd yb ydf yof).1 = true
      · rw [if_pos c3]; exact ih _ _ _ _ _ _ _ _ ht
      · rw [if_neg c3]; exact ht
theorem cl_fo {qn qd : Int32} {qb : Bool} {qdf qof : Nat → Int32} {pl : Int32} {pf : Nat → Int32} : okC (f_X5_faultOf qn qd qb qdf qof pl pf).2.1 20 :=
  cl_fo_lp _ _ _ _ _ _ _ _ _ (okC_0 (by decide))
theorem cl_fault {pl : Int32} {pf : Nat → Int32} {qn qd : Int32} {qb : Bool} {qdf qof : Nat → Int32} : okC (f_X9_fault pl pf qn qd qb qdf qof).2.1 20 := cl_fo
theorem cl_read_lp {o : Int32 × Int32 × Int32 × Int32 × Int32 × Bool × (Nat → Int32) × (Nat → Int32)} (ho : okC o.2.1 20) : ∀ (n : Nat) (xi yc : Int32) (yd yo : Nat → Int32), okC yc 12 → okC (f_X9_read_lp47 o n xi yc yd yo).2.1 80 ∧ okC (f_X9_read_lp47 o n xi yc yd yo).2.2.1 20 ∧ okC (f_X9_read_lp47 o n xi yc yd yo).2.2.2.2.2.2.2.2.2.1 12 := by
  intro n
  induction n with
  | zero => intro xi yc yd yo _; exact ⟨okC_0 (by decide), okC_0 (by decide), okC_0 (by decide)⟩
  | succ n ih =>
    intro xi yc yd yo h
    rw [f_X9_read_lp47]
    by_cases c : o.2.1 ≤ xi
    · rw [if_pos c]; exact ⟨okC_0 (by decide), ho, h⟩
    · rw [if_neg c, f_X9_read_k2]; exact ih _ _ _ _ (app_ok h)
theorem cl_read {pl : Int32} {pf : Nat → Int32} {qn qd : Int32} {qb : Bool} {qdf qof : Nat → Int32} {rc : Int32} {rd ro : Nat → Int32} (hp : okC pl 80) (h : okC rc 12) : okC (f_X9_read pl pf qn qd qb qdf qof rc rd ro).2.1 80 ∧ okC (f_X9_read pl pf qn qd qb qdf qof rc rd ro).2.2.1 20 ∧ okC (f_X9_read pl pf qn qd qb qdf qof rc rd ro).2.2.2.2.2.2.2.2.2.1 12 := by
  unfold f_X9_read
  have ho := cl_fo (qn := qn) (qd := qd) (qb := qb) (qdf := qdf) (qof := qof) (pl := pl) (pf := pf)
  generalize f_X5_faultOf qn qd qb qdf qof pl pf = o at ho
  unfold f_X9_read_k1
  by_cases c1 : o.1 = (-6)
  · rw [if_pos c1]
    by_cases c2 : rc + o.2.1 ≤ 12
    · rw [if_pos c2]; exact cl_read_lp ho _ _ _ _ _ h
    · rw [if_neg c2]; exact ⟨hp, ho, h⟩
  · rw [if_neg c1]; exact ⟨hp, ho, h⟩

theorem cl_front_lp {L : List Nat} {a0 : Int32} {a1 : Int32} {tm : Int32} {k1 : Int64} {k2 : Int64} {k3 : Int64} {k4 : Int64} {k5 : Int64} {sf : Nat → Int32} {lc : Int32} {lr : Nat → Option Nat} {vT : Int32} {vG : Int64} {vM : Int32} {vO : Bool} {vN : Int32} {vD : Bool} {vA : Int32} {rc : Int32} {rl : Int32} {rm : Int32} {rd : Nat → Int32} {ro : Nat → Int32} (hc : okC lc 10) : ∀ (n : Nat) (xb xm xi : Int32) (z0 : Int32) (z1 : Int64) (z2 : Int64) (z3 : Int64) (z4 : Int64) (z5 : Int64) (z6 : (Nat → Int32)) (z7 : Int32) (z8 : (Nat → Option Nat)) (z9 : Int32) (z10 : Int64) (z11 : Int32) (z12 : Bool) (z13 : Int32) (z14 : Bool) (z15 : Int32) (z16 : Int32) (z17 : Int32) (z18 : Int32) (z19 : (Nat → Int32)) (z20 : (Nat → Int32)) (z21 : (Nat → Int32)) (z22 : (Nat → Int32)) (z23 : (Nat → Int32)) (z24 : (Nat → Int32)), okR L z8 → (lc.toInt - xi.toInt).toNat < n → okR L (f_X9_front_lp48 a0 a1 tm k1 k2 k3 k4 k5 sf lc lr vT vG vM vO vN vD vA rc rl rm rd ro n xb xm xi z0 z1 z2 z3 z4 z5 z6 z7 z8 z9 z10 z11 z12 z13 z14 z15 z16 z17 z18 z19 z20 z21 z22 z23 z24).2.2.2.2.2.2.2.2.2.1 := by
  intro n
  induction n with
  | zero => intro xb xm xi z0 z1 z2 z3 z4 z5 z6 z7 z8 z9 z10 z11 z12 z13 z14 z15 z16 z17 z18 z19 z20 z21 z22 z23 z24 _ h; exact absurd h (Nat.not_lt_zero _)
  | succ n ih =>
    intro xb xm xi z0 z1 z2 z3 z4 z5 z6 z7 z8 z9 z10 z11 z12 z13 z14 z15 z16 z17 z18 z19 z20 z21 z22 z23 z24 hz hn
    rw [f_X9_front_lp48]
    by_cases c : lc ≤ xi
    · rw [if_pos c]; exact hz
    · rw [if_neg c, f_X9_front_k1]
      have h1 := ilf_ok (a0 := xi) (a1 := a0) (a2 := a1) (tm := tm) (k1 := k1) (k2 := k2) (k3 := k3) (k4 := k4) (k5 := k5) (sf := sf) (lc := lc) (lr := lr) (vT := vT) (vG := vG) (vM := vM) (vO := vO) (vN := vN) (vD := vD) (vA := vA) (rc := rc) (rl := rl) (rm := rm) (rd := rd) (ro := ro) (sfk := z6) (lrk := z8) (rdk := z19) (rok := z20) (qi := z21) (qt := z22) (qc := z23) (qp := z24) rfl hc hz
      split
      · exact ih _ _ _ _ _ _ _ _ _ _ _ _ _ _ _ _ _ _ _ _ _ _ _ _ _ _ _ _ h1 (up_mu c hn)
      · exact ih _ _ _ _ _ _ _ _ _ _ _ _ _ _ _ _ _ _ _ _ _ _ _ _ _ _ _ _ h1 (up_mu c hn)
theorem cl_front {L : List Nat} {a0 : Int32} {a1 : Int32} {tm : Int32} {k1 : Int64} {k2 : Int64} {k3 : Int64} {k4 : Int64} {k5 : Int64} {sf : Nat → Int32} {lc : Int32} {lr : Nat → Option Nat} {vT : Int32} {vG : Int64} {vM : Int32} {vO : Bool} {vN : Int32} {vD : Bool} {vA : Int32} {rc : Int32} {rl : Int32} {rm : Int32} {rd : Nat → Int32} {ro : Nat → Int32} {tmk : Int32} {k1k : Int64} {k2k : Int64} {k3k : Int64} {k4k : Int64} {k5k : Int64} {sfk : Nat → Int32} {lck : Int32} {lrk : Nat → Option Nat} {vTk : Int32} {vGk : Int64} {vMk : Int32} {vOk : Bool} {vNk : Int32} {vDk : Bool} {vAk : Int32} {rck : Int32} {rlk : Int32} {rmk : Int32} {rdk : Nat → Int32} {rok : Nat → Int32} {qi : Nat → Int32} {qt : Nat → Int32} {qc : Nat → Int32} {qp : Nat → Int32} (hc : okC lc 10) (hrk : okR L lrk) : okR L (f_X9_front a0 a1 tm k1 k2 k3 k4 k5 sf lc lr vT vG vM vO vN vD vA rc rl rm rd ro tmk k1k k2k k3k k4k k5k sfk lck lrk vTk vGk vMk vOk vNk vDk vAk rck rlk rmk rdk rok qi qt qc qp).2.2.2.2.2.2.2.2.2.1 := by
  unfold f_X9_front
  by_cases c1 : f_X9_within a0 1 50000000 = true
  · rw [if_pos c1]
    by_cases c2 : f_X9_within a1 1 100 = true
    · rw [if_pos c2]
      by_cases c3 : a0 ≤ f_X2_iceOfAll lc lr qc
      · rw [if_pos c3]; exact cl_front_lp hc _ _ _ _ _ _ _ _ _ _ _ _ _ _ _ _ _ _ _ _ _ _ _ _ _ _ _ _ _ hrk (Nat.lt_succ_self _)
      · rw [if_neg c3]; exact hrk
    · rw [if_neg c2]; exact hrk
  · rw [if_neg c1]; exact hrk
