/-! a minute: what goes off -/
section MI
variable {B Tm : Int} {L : List Nat} {lc : Int32} {lr : Nat → Option Nat} {rc rl rm : Int32} {rd ro sf : Nat → Int32} {vT : Int32} {vG : Int64} {vM : Int32} {vO : Bool} {vN : Int32} {vD : Bool} {vA tm : Int32} {k1 k2 k3 k4 k5 : Int64} {qi qt qc qp : Nat → Int32}
/-- the quotient that both sides ask for -/
def offQ (lr : Nat → Option Nat) (vT : Int32) (sf qi : Nat → Int32) (k : Nat) : Int64 := ((vT.toInt64 + 8000) * (sf 0).toInt64) / (100 * (qi (bxa lr k)).toInt64)
theorem off_d {x : Int32} (h : 1 ≤ x.toInt ∧ x.toInt ≤ 100) : (100 * x.toInt64).toInt = 100 * x.toInt := by
  have e : (100 : Int64).toInt = 100 := by decide
  rw [xmulL (by rw [e, tL]; omega) (by rw [e, tL]; omega), e, tL]
theorem off_t (h : -7900 ≤ vT.toInt ∧ vT.toInt ≤ 5000) : (vT - (-8000)).toInt64 = vT.toInt64 + 8000 := by
  have e : (8000 : Int64).toInt = 8000 := by decide
  have e2 : (-8000 : Int32).toInt = -8000 := by decide
  refine tjL ?_
  rw [tL, xsubI (by rw [e2]; omega) (by rw [e2]; omega), e2, xaddL (by rw [tL, e]; omega) (by rw [tL, e]; omega), tL, e]
  omega
theorem offB_e (hT : -7900 ≤ vT.toInt ∧ vT.toInt ≤ 5000) {k : Nat} (hi : 1 ≤ (qi (bxa lr k)).toInt ∧ (qi (bxa lr k)).toInt ≤ 100) : offB lr vT sf qi qc k = (if (qc (bxa lr k)).toInt64 < (if 0 < offQ lr vT sf qi k then offQ lr vT sf qi k else 0) then (qc (bxa lr k)).toInt64 else (if 0 < offQ lr vT sf qi k then offQ lr vT sf qi k else 0)).toInt32 := by
  have h1 : f_X9_quotient ((vT - (-8000)).toInt64 * (sf 0).toInt64) (100 * (qi (bxa lr k)).toInt64) = offQ lr vT sf qi k := by
    rw [off_t hT, quo_L (by rw [off_d hi]; omega)]; rfl
  unfold offB f_X0_goingOff
  rw [h1]
theorem offB_c (hT : -7900 ≤ vT.toInt ∧ vT.toInt ≤ 5000) {k : Nat} (hi : 1 ≤ (qi (bxa lr k)).toInt ∧ (qi (bxa lr k)).toInt ≤ 100) (hc : 0 ≤ (qc (bxa lr k)).toInt) : (0 ≤ (offB lr vT sf qi qc k).toInt ∧ (offB lr vT sf qi qc k).toInt ≤ (qc (bxa lr k)).toInt) ∧ (offB lr vT sf qi qc k).toInt64 = if 0 ≤ offQ lr vT sf qi k then (if offQ lr vT sf qi k ≤ (qc (bxa lr k)).toInt64 then offQ lr vT sf qi k else (qc (bxa lr k)).toInt64) else 0 := by
  rw [offB_e hT hi]
  have hr := xrng (qc (bxa lr k))
  generalize offQ lr vT sf qi k = Q
  generalize qc (bxa lr k) = ice at hc hr ⊢
  by_cases c0 : 0 < Q
  · have d0 := xltL.mp c0
    rw [xL0] at d0
    rw [if_pos c0, if_pos (xleL.mpr (by rw [xL0]; omega))]
    by_cases c1 : ice.toInt64 < Q
    · have d1 := xltL.mp c1
      rw [tL] at d1
      rw [if_pos c1, if_neg (xnleL.mpr (by rw [tL]; exact d1)), tI64]
      exact ⟨⟨hc, Int.le_refl _⟩, rfl⟩
    · have d1 := xnltL.mp c1
      rw [tL] at d1
      rw [if_neg c1, if_pos (xleL.mpr (by rw [tL]; exact d1)), tL64 (by omega) (by omega), tI (by omega) (by omega)]
      exact ⟨⟨by omega, d1⟩, rfl⟩
  · have d0 := xnltL.mp c0
    rw [xL0] at d0
    rw [if_neg c0, if_neg (xnltL.mpr (by rw [xL0, tL]; exact hc))]
    have e0 : (0 : Int64).toInt32 = 0 := by decide
    have e1 : (0 : Int32).toInt64 = 0 := by decide
    rw [e0, e1, xI0]
    refine ⟨⟨Int.le_refl _, hc⟩, ?_⟩
    by_cases c1 : 0 ≤ Q
    · have d1 := xleL.mp c1
      rw [xL0] at d1
      have q0 : Q = 0 := tjL (by rw [xL0]; omega)
      rw [if_pos c1, if_pos (xleL.mpr (by rw [tL]; omega)), q0]
    · rw [if_neg c1]
theorem off_b (h : JJ B Tm L lc lr rc rl rm rd ro sf vT vG vM vO vN vD vA tm k1 k2 k3 k4 k5 qi qt qc qp) {k : Nat} (hk : (k : Int) < lc.toInt) : 0 ≤ (offB lr vT sf qi qc k).toInt ∧ (offB lr vT sf qi qc k).toInt ≤ (qc (bxa lr k)).toInt :=
  (offB_c h.2.2.2.2.1.1 (h.2.1 k hk).1 (h.2.1 k hk).2.2.1.1).1
theorem wk_n (h : JJ B Tm L lc lr rc rl rm rd ro sf vT vG vM vO vN vD vA tm k1 k2 k3 k4 k5 qi qt qc qp) {b : Int32} (hw : f_X9_within b 0 (lc - 1) = true) : ((b.toNatClampNeg : Nat) : Int) < lc.toInt := by
  have h1 := (wi_k (j_c h)).mp hw
  show ((b.toInt.toNat : Nat) : Int) < lc.toInt
  omega
theorem go_dv {b : Int32} (h : JJ B Tm L lc lr rc rl rm rd ro sf vT vG vM vO vN vD vA tm k1 k2 k3 k4 k5 qi qt qc qp) (hw : f_X9_within b 0 (lc - 1) = true) : ¬ 100 * (f_X9_box b 0 sf lc lr vT qi qt qc qp).toInt64 = 0 := by
  rw [bx_0 hw]
  intro q
  have h1 := (h.2.1 _ (wk_n h hw)).1
  have h2 := off_d h1
  rw [q, xL0] at h2
  omega
theorem go_eq {b pl : Int32} (h : JJ B Tm L lc lr rc rl rm rd ro sf vT vG vM vO vN vD vA tm k1 k2 k3 k4 k5 qi qt qc qp) (hw : f_X9_within b 0 (lc - 1) = true) : f_L_goesOff b tm sf lc lr vT vG vM vO vN vD vA rc rl rm ro pl qi qt qc qp = (offB lr vT sf qi qc b.toNatClampNeg).toInt64 := by
  have hk := wk_n h hw
  rw [(offB_c (sf := sf) h.2.2.2.2.1.1 (h.2.1 _ hk).1 (h.2.1 _ hk).2.2.1.1).2]
  unfold f_L_goesOff
  rw [van_1, van_15, bx_0 hw, bx_2 hw]
  rfl
theorem goff_ext {b : Nat} {T r : Int32} {yc : Nat → Int32} (e : yc b = qc b) : f_X0_goingOff b T r qi yc = f_X0_goingOff b T r qi qc := by
  unfold f_X0_goingOff
  rw [e]
/-- the paper behind a minute -/
def offP (lr : Nat → Option Nat) (vT : Int32) (sf qi qc qp : Nat → Int32) (k : Nat) : Int := if (qp (bxa lr k)).toInt - (offB lr vT sf qi qc k).toInt < 0 then 0 else (qp (bxa lr k)).toInt - (offB lr vT sf qi qc k).toInt
def miI (lr : Nat → Option Nat) (vT : Int32) (sf qi qc qp : Nat → Int32) (n : Nat) (ya : Int64) (fa fb : Nat → Int32) : Prop :=
  ya.toInt = sm (fun k => (offB lr vT sf qi qc k).toInt) n ∧ ∀ k, k < n → (fa k).toInt = (qc (bxa lr k)).toInt - (offB lr vT sf qi qc k).toInt ∧ (fb k).toInt = offP lr vT sf qi qc qp k
theorem mi_0 : miI lr vT sf qi qc qp 0 0 (fun _ => 0) (fun _ => 0) := ⟨xL0, fun k hk => absurd hk (Nat.not_lt_zero _)⟩
theorem mi_s {xi p : Int32} {ya : Int64} {fa fb : Nat → Int32} (h : JJ B Tm L lc lr rc rl rm rd ro sf vT vG vM vO vN vD vA tm k1 k2 k3 k4 k5 qi qt qc qp) (h0 : 0 ≤ xi.toInt) (c : ¬ lc ≤ xi) (hs : miI lr vT sf qi qc qp xi.toInt.toNat ya fa fb)
    (ep : p = if 0 ≤ ((qp (bxa lr xi.toNatClampNeg)) - (offB lr vT sf qi qc xi.toNatClampNeg).toInt64.toInt32) then ((qp (bxa lr xi.toNatClampNeg)) - (offB lr vT sf qi qc xi.toNatClampNeg).toInt64.toInt32) else (0 : Int32)) :
    miI lr vT sf qi qc qp (xi + 1).toInt.toNat (ya + (offB lr vT sf qi qc xi.toNatClampNeg).toInt64) (upd fa xi.toNatClampNeg ((qc (bxa lr xi.toNatClampNeg)) - (offB lr vT sf qi qc xi.toNatClampNeg).toInt64.toInt32)) (upd fb xi.toNatClampNeg p) := by
  have hc := xnle.mp c
  have hu := up_i c
  have e : (xi + 1).toInt.toNat = xi.toInt.toNat + 1 := by omega
  have h10 := (j_c h).2
  obtain ⟨s1, s2⟩ := hs
  have en : xi.toNatClampNeg = xi.toInt.toNat := rfl
  rw [en] at ep ⊢
  rw [tI64] at ep ⊢
  rw [e]
  generalize hn9 : xi.toInt.toNat = n at s1 s2 ep ⊢
  have hx := h.2.1 n (by omega)
  have ho := off_b h (k := n) (by omega)
  have hsm := sm_30 (f := fun k => (offB lr vT sf qi qc k).toInt) (n := n) (by omega) (fun k hk => by have h1 := off_b h (k := k) (by omega); have h2 := (h.2.1 k (by omega)).2.2.1; omega)
  refine ⟨?_, fun k hk => ?_⟩
  · show _ = sm (fun k => (offB lr vT sf qi qc k).toInt) n + (offB lr vT sf qi qc n).toInt
    rw [xaddL (by rw [tL]; omega) (by rw [tL]; omega), tL, s1]
  · unfold upd
    by_cases q : k = n
    · rw [if_pos q, if_pos q, q]
      refine ⟨by rw [xsubI (by omega) (by omega)], ?_⟩
      have e2 : ((qp (bxa lr n)) - (offB lr vT sf qi qc n)).toInt = (qp (bxa lr n)).toInt - (offB lr vT sf qi qc n).toInt := xsubI (by omega) (by omega)
      rw [ep]
      unfold offP
      by_cases q9 : 0 ≤ ((qp (bxa lr n)) - (offB lr vT sf qi qc n))
      · have q2 := xle.mp q9
        rw [xI0] at q2
        rw [if_pos q9, if_neg (by omega), e2]
      · have q2 := xnle.mp q9
        rw [xI0] at q2
        rw [if_neg q9, if_pos (by omega), xI0]
    · rw [if_neg q, if_neg q]
      exact s2 k (by omega)
/-- the class's own walk along the lane -/
def lgY (lr : Nat → Option Nat) (vT : Int32) (sf qi qc qp : Nat → Int32) (i : Nat) (yc yp : Nat → Int32) : Prop := ∀ k, k < 10 →
  (k < i → (yc (bxa lr k)).toInt = (qc (bxa lr k)).toInt - (offB lr vT sf qi qc k).toInt ∧ (yp (bxa lr k)).toInt = offP lr vT sf qi qc qp k) ∧ (¬ k < i → yc (bxa lr k) = qc (bxa lr k) ∧ yp (bxa lr k) = qp (bxa lr k))
theorem lg_lp (h : JJ B Tm L lc lr rc rl rm rd ro sf vT vG vM vO vN vD vA tm k1 k2 k3 k4 k5 qi qt qc qp) : ∀ (n : Nat) (xs xi : Int32) (yc yp : Nat → Int32), 0 ≤ xi.toInt → xi.toInt ≤ lc.toInt → xs.toInt = sm (fun k => (offB lr vT sf qi qc k).toInt) xi.toInt.toNat → lgY lr vT sf qi qc qp xi.toInt.toNat yc yp → (lc.toInt - xi.toInt).toNat < n →
    (f_X2_letGoOff_lp5 vT (sf 0) lc lr qi n xs xi yc yp).1.toInt = sm (fun k => (offB lr vT sf qi qc k).toInt) lc.toInt.toNat ∧ ∀ k : Nat, (k : Int) < lc.toInt → ((f_X2_letGoOff_lp5 vT (sf 0) lc lr qi n xs xi yc yp).2.1 (bxa lr k)).toInt = (qc (bxa lr k)).toInt - (offB lr vT sf qi qc k).toInt ∧ ((f_X2_letGoOff_lp5 vT (sf 0) lc lr qi n xs xi yc yp).2.2 (bxa lr k)).toInt = offP lr vT sf qi qc qp k := by
  intro n
  have h10 := (j_c h).2
  induction n with
  | zero => intro xs xi yc yp _ _ _ _ h; exact absurd h (Nat.not_lt_zero _)
  | succ n ih =>
    intro xs xi yc yp h0 hle hs hy hn
    rw [f_X2_letGoOff_lp5]
    by_cases c : lc ≤ xi
    · rw [if_pos c]
      have hc := xle.mp c
      have e : xi.toInt = lc.toInt := by omega
      rw [e] at hs hy
      exact ⟨hs, fun k hk => (hy k (by omega)).1 (by omega)⟩
    · rw [if_neg c]
      have hc := xnle.mp c
      have hu := up_i c
      have e : (xi + 1).toInt.toNat = xi.toInt.toNat + 1 := by omega
      have en : xi.toNatClampNeg = xi.toInt.toNat := rfl
      have hx := h.2.1 xi.toInt.toNat (by omega)
      have ho := off_b h (k := xi.toInt.toNat) (by omega)
      have hy1 := (hy xi.toInt.toNat (by omega)).2 (by omega)
      rw [en]
      have hg : f_X0_goingOff (bxa lr xi.toInt.toNat) vT (sf 0) qi yc = offB lr vT sf qi qc xi.toInt.toNat := goff_ext hy1.1
      rw [hg]
      have hsm := sm_30 (f := fun k => (offB lr vT sf qi qc k).toInt) (n := xi.toInt.toNat) (by omega) (fun k hk => by have h1 := off_b h (k := k) (by omega); have h2 := (h.2.1 k (by omega)).2.2.1; omega)
      refine ih _ _ _ _ (up_0 h0 c) (by omega) ?_ ?_ (up_mu c hn)
      · rw [e]
        show _ = sm (fun k => (offB lr vT sf qi qc k).toInt) xi.toInt.toNat + (offB lr vT sf qi qc xi.toInt.toNat).toInt
        rw [xaddI (by omega) (by omega), hs]
      · intro k hk
        rw [e]
        show (_ → (va_up yc (bxa lr xi.toInt.toNat) ((yc (bxa lr xi.toInt.toNat)) - (offB lr vT sf qi qc xi.toInt.toNat)) (bxa lr k)).toInt = _ ∧ (va_up yp (bxa lr xi.toInt.toNat) (if ((yp (bxa lr xi.toInt.toNat)) - (offB lr vT sf qi qc xi.toInt.toNat)) < 0 then 0 else ((yp (bxa lr xi.toInt.toNat)) - (offB lr vT sf qi qc xi.toInt.toNat))) (bxa lr k)).toInt = _) ∧ (_ → va_up yc (bxa lr xi.toInt.toNat) ((yc (bxa lr xi.toInt.toNat)) - (offB lr vT sf qi qc xi.toInt.toNat)) (bxa lr k) = _ ∧ va_up yp (bxa lr xi.toInt.toNat) (if ((yp (bxa lr xi.toInt.toNat)) - (offB lr vT sf qi qc xi.toInt.toNat)) < 0 then 0 else ((yp (bxa lr xi.toInt.toNat)) - (offB lr vT sf qi qc xi.toInt.toNat))) (bxa lr k) = _)
        by_cases q : k = xi.toInt.toNat
        · rw [q, va_up_self, va_up_self]
          refine ⟨fun _ => ?_, fun q2 => absurd (Nat.lt_succ_self _) q2⟩
          rw [hy1.1, hy1.2]
          have a1 : ((qc (bxa lr xi.toInt.toNat)) - (offB lr vT sf qi qc xi.toInt.toNat)).toInt = (qc (bxa lr xi.toInt.toNat)).toInt - (offB lr vT sf qi qc xi.toInt.toNat).toInt := xsubI (by omega) (by omega)
          have a2 : ((qp (bxa lr xi.toInt.toNat)) - (offB lr vT sf qi qc xi.toInt.toNat)).toInt = (qp (bxa lr xi.toInt.toNat)).toInt - (offB lr vT sf qi qc xi.toInt.toNat).toInt := xsubI (by omega) (by omega)
          refine ⟨a1, ?_⟩
          unfold offP
          by_cases q3 : ((qp (bxa lr xi.toInt.toNat)) - (offB lr vT sf qi qc xi.toInt.toNat)) < 0
          · have q4 := xlt.mp q3
            rw [xI0] at q4
            rw [if_pos q3, if_pos (by omega), xI0]
          · have q4 := xnlt.mp q3
            rw [xI0] at q4
            rw [if_neg q3, if_neg (by omega), a2]
        · have hne : bxa lr k ≠ bxa lr xi.toInt.toNat := fun q2 => q (h.1.2.2 k xi.toInt.toNat hk (by omega) q2)
          rw [va_up_ne _ _ hne, va_up_ne _ _ hne]
          exact ⟨fun q2 => (hy k hk).1 (by omega), fun q2 => (hy k hk).2 (by omega)⟩
theorem lg_f (h : JJ B Tm L lc lr rc rl rm rd ro sf vT vG vM vO vN vD vA tm k1 k2 k3 k4 k5 qi qt qc qp) : (f_X2_letGoOff vT (f_X6_value 0 sf) lc lr qi qc qp).1.toInt = sm (fun k => (offB lr vT sf qi qc k).toInt) lc.toInt.toNat ∧ ∀ k : Nat, (k : Int) < lc.toInt → ((f_X2_letGoOff vT (f_X6_value 0 sf) lc lr qi qc qp).2.1 (bxa lr k)).toInt = (qc (bxa lr k)).toInt - (offB lr vT sf qi qc k).toInt ∧ ((f_X2_letGoOff vT (f_X6_value 0 sf) lc lr qi qc qp).2.2 (bxa lr k)).toInt = offP lr vT sf qi qc qp k := by
  rw [val_0]
  exact lg_lp h _ 0 0 qc qp (by decide) (by rw [xI0]; exact (j_c h).1) xI0 (fun k hk => ⟨fun q => absurd q (by rw [xI0]; omega), fun _ => ⟨rfl, rfl⟩⟩) (Nat.lt_succ_self _)
end MI
