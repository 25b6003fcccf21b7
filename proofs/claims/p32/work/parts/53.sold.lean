/-! a sale: what is taken from each box, from the front -/
def soR (lr : Nat → Option Nat) (qc : Nat → Int32) (a : Int) : Nat → Int
  | 0 => a
  | n + 1 => soR lr qc a n - (if soR lr qc a n < (qc (bxa lr n)).toInt then soR lr qc a n else (qc (bxa lr n)).toInt)
def soO (lr : Nat → Option Nat) (qc : Nat → Int32) (a : Int) (n : Nat) : Int := if soR lr qc a n < (qc (bxa lr n)).toInt then soR lr qc a n else (qc (bxa lr n)).toInt
def soC (lr : Nat → Option Nat) (qc : Nat → Int32) (a : Int) : Nat → Int
  | 0 => 0
  | n + 1 => soC lr qc a n + (if soO lr qc a n ≤ 0 then 0 else 1)
theorem soR_s (lr : Nat → Option Nat) (qc : Nat → Int32) (a : Int) (n : Nat) : soR lr qc a (n + 1) = soR lr qc a n - soO lr qc a n := rfl
/-- the paper behind it -/
def soP (lr : Nat → Option Nat) (qc qp : Nat → Int32) (a : Int) (n : Nat) : Int := if (qp (bxa lr n)).toInt - soO lr qc a n < 0 then 0 else (qp (bxa lr n)).toInt - soO lr qc a n
def soI (lr : Nat → Option Nat) (qc qp : Nat → Int32) (a0 : Int32) (n : Nat) (xr xf : Int32) (fa fb : Nat → Int32) : Prop :=
  xr.toInt = soR lr qc a0.toInt n ∧ xf.toInt = soC lr qc a0.toInt n ∧ ∀ k, k < n → (fa k).toInt = (qc (bxa lr k)).toInt - soO lr qc a0.toInt k ∧ (fb k).toInt = soP lr qc qp a0.toInt k
section SO
variable {B Tm : Int} {L : List Nat} {lc : Int32} {lr : Nat → Option Nat} {rc rl rm : Int32} {rd ro sf : Nat → Int32} {vT : Int32} {vG : Int64} {vM : Int32} {vO : Bool} {vN : Int32} {vD : Bool} {vA tm : Int32} {k1 k2 k3 k4 k5 : Int64} {qi qt qc qp : Nat → Int32} {a0 : Int32}
theorem so_0 : soI lr qc qp a0 0 a0 0 (fun _ => 0) (fun _ => 0) := ⟨rfl, xI0, fun k hk => absurd hk (Nat.not_lt_zero _)⟩
/-- what is left of the order: never below 0 -/
theorem soR_v {a : Int} (ha : 0 ≤ a) : ∀ {n : Nat}, (∀ k, k < n → 0 ≤ (qc (bxa lr k)).toInt) → soR lr qc a n = if smC lr qc n ≤ a then a - smC lr qc n else 0 := by
  intro n
  induction n with
  | zero =>
    intro _
    show a = if (0 : Int) ≤ a then a - 0 else 0
    rw [if_pos ha]; omega
  | succ n ih =>
    intro h
    have h1 := ih fun k hk => h k (by omega)
    have h2 := h n (by omega)
    have e : smC lr qc (n + 1) = smC lr qc n + (qc (bxa lr n)).toInt := rfl
    rw [soR_s, soO, h1, e]
    split <;> split <;> split <;> omega
theorem soR_0 {a : Int} (ha : 0 ≤ a) {n : Nat} (h : ∀ k, k < n → 0 ≤ (qc (bxa lr k)).toInt) : 0 ≤ soR lr qc a n ∧ soR lr qc a n ≤ a := by
  have h1 := (sm_at (f := fun k => (qc (bxa lr k)).toInt) h).1
  have h2 : 0 ≤ smC lr qc n := h1
  rw [soR_v ha h]
  split <;> omega
theorem soO_b {a : Int} (ha : 0 ≤ a) {n : Nat} (h : ∀ k, k < n + 1 → 0 ≤ (qc (bxa lr k)).toInt) : 0 ≤ soO lr qc a n ∧ soO lr qc a n ≤ (qc (bxa lr n)).toInt ∧ soO lr qc a n ≤ soR lr qc a n := by
  have h1 := soR_0 ha (n := n) fun k hk => h k (by omega)
  have h2 := h n (by omega)
  unfold soO
  split <;> omega
theorem soO_sum {a : Int} : ∀ {n : Nat}, sm (soO lr qc a) n = a - soR lr qc a n := by
  intro n
  induction n with
  | zero => show (0 : Int) = a - a; omega
  | succ n ih =>
    show sm (soO lr qc a) n + soO lr qc a n = a - soR lr qc a (n + 1)
    rw [soR_s, ih]; omega
/-- when all is sold the rest stays as it is -/
theorem soR_z {a : Int} (ha : 0 ≤ a) {i : Nat} (hz : soR lr qc a i = 0) : ∀ {n : Nat}, (∀ k, k < i + n + 1 → 0 ≤ (qc (bxa lr k)).toInt) → soR lr qc a (i + n) = 0 ∧ soO lr qc a (i + n) = 0 ∧ soC lr qc a (i + n) = soC lr qc a i := by
  intro n
  induction n with
  | zero =>
    intro h
    have h2 := h i (by omega)
    refine ⟨hz, ?_, rfl⟩
    show soO lr qc a i = 0
    unfold soO
    rw [hz]
    split <;> omega
  | succ n ih =>
    intro h
    have h1 := ih fun k hk => h k (by omega)
    have h2 := h (i + n + 1) (by omega)
    have e : soR lr qc a (i + n + 1) = 0 := by rw [soR_s, h1.1, h1.2.1]; omega
    refine ⟨e, ?_, ?_⟩
    · show soO lr qc a (i + n + 1) = 0
      unfold soO
      rw [e]
      split <;> omega
    · show soC lr qc a (i + n) + (if soO lr qc a (i + n) ≤ 0 then 0 else 1) = _
      rw [h1.2.1, h1.2.2, if_pos (Int.le_refl _)]; omega
theorem soC_b {a : Int} : ∀ {n : Nat}, 0 ≤ soC lr qc a n ∧ soC lr qc a n ≤ n := by
  intro n
  induction n with
  | zero => exact ⟨Int.le_refl _, Int.le_refl _⟩
  | succ n ih =>
    show 0 ≤ soC lr qc a n + (if soO lr qc a n ≤ 0 then 0 else 1) ∧ soC lr qc a n + (if soO lr qc a n ≤ 0 then 0 else 1) ≤ ((n + 1 : Nat) : Int)
    split <;> omega
theorem jx_c (h : JJ B Tm L lc lr rc rl rm rd ro sf vT vG vM vO vN vD vA tm k1 k2 k3 k4 k5 qi qt qc qp) {n : Nat} (hn : (n : Int) ≤ lc.toInt) : ∀ k, k < n → 0 ≤ (qc (bxa lr k)).toInt := fun k hk => (h.2.1 k (by omega)).2.2.1.1
theorem so_s {xr xf xi u p w : Int32} {fa fb : Nat → Int32} (h : JJ B Tm L lc lr rc rl rm rd ro sf vT vG vM vO vN vD vA tm k1 k2 k3 k4 k5 qi qt qc qp) (ha : 1 ≤ a0.toInt ∧ a0.toInt ≤ 50000000) (h0 : 0 ≤ xi.toInt) (c : ¬ lc ≤ xi) (hs : soI lr qc qp a0 xi.toInt.toNat xr xf fa fb)
    (eu : u = if (qc (bxa lr xi.toNatClampNeg)) ≤ xr then (qc (bxa lr xi.toNatClampNeg)) else xr) (ep : p = if 0 ≤ ((qp (bxa lr xi.toNatClampNeg)) - u) then ((qp (bxa lr xi.toNatClampNeg)) - u) else (0 : Int32)) (ew : w = if u ≤ 0 then (0 : Int32) else (1 : Int32)) :
    soI lr qc qp a0 (xi + 1).toInt.toNat (xr - u) (xf + w) (upd fa xi.toNatClampNeg ((qc (bxa lr xi.toNatClampNeg)) - u)) (upd fb xi.toNatClampNeg p) := by
  have hc := xnle.mp c
  have hu := up_i c
  have e : (xi + 1).toInt.toNat = xi.toInt.toNat + 1 := by omega
  have h10 := (j_c h).2
  obtain ⟨s1, s2, s3⟩ := hs
  have en : xi.toNatClampNeg = xi.toInt.toNat := rfl
  rw [en] at eu ep ⊢
  rw [e]
  generalize hn9 : xi.toInt.toNat = n at s1 s2 s3 eu ep ⊢
  have hx := h.2.1 n (by omega)
  have hb := soO_b (lr := lr) (qc := qc) (a := a0.toInt) (by omega) (n := n) (jx_c h (by omega))
  have hR := soR_0 (lr := lr) (qc := qc) (a := a0.toInt) (by omega) (n := n) (jx_c h (by omega))
  have hC := soC_b (lr := lr) (qc := qc) (a := a0.toInt) (n := n)
  have uu : u.toInt = soO lr qc a0.toInt n := by
    rw [eu]
    unfold soO
    by_cases q : (qc (bxa lr n)) ≤ xr
    · have q2 := xle.mp q
      rw [if_pos q, if_neg (by omega)]
    · have q2 := xnle.mp q
      rw [if_neg q, if_pos (by omega)]; omega
  have pp : p.toInt = soP lr qc qp a0.toInt n := by
    have e2 : ((qp (bxa lr n)) - u).toInt = (qp (bxa lr n)).toInt - u.toInt := xsubI (by omega) (by omega)
    rw [ep]
    unfold soP
    by_cases q : 0 ≤ ((qp (bxa lr n)) - u)
    · have q2 := xle.mp q
      rw [xI0] at q2
      rw [if_pos q, if_neg (by omega)]; omega
    · have q2 := xnle.mp q
      rw [xI0] at q2
      rw [if_neg q, if_pos (by omega), xI0]
  refine ⟨?_, ?_, fun k hk => ?_⟩
  · rw [soR_s, xsubI (by omega) (by omega)]; omega
  · show (xf + w).toInt = soC lr qc a0.toInt n + (if soO lr qc a0.toInt n ≤ 0 then 0 else 1)
    have e1 := xI1
    have e0 := xI0
    by_cases q : u ≤ 0
    · have q2 := xle.mp q
      rw [ew, if_pos q, if_pos (by omega), xaddI (by omega) (by omega)]; omega
    · have q2 := xnle.mp q
      rw [ew, if_neg q, if_neg (by omega), xaddI (by omega) (by omega)]; omega
  · unfold upd
    by_cases q : k = n
    · rw [if_pos q, if_pos q, q]
      exact ⟨by rw [xsubI (by omega) (by omega)]; omega, pp⟩
    · rw [if_neg q, if_neg q]
      exact s3 k (by omega)
/-- the class's own walk along the lane -/
def soY (lr : Nat → Option Nat) (qc qp : Nat → Int32) (a : Int) (i : Nat) (yc yp : Nat → Int32) : Prop := ∀ k, k < 10 →
  (yc (bxa lr k)).toInt = (if k < i then (qc (bxa lr k)).toInt - soO lr qc a k else (qc (bxa lr k)).toInt) ∧ (yp (bxa lr k)).toInt = (if k < i then soP lr qc qp a k else (qp (bxa lr k)).toInt)
theorem so_lp (h : JJ B Tm L lc lr rc rl rm rd ro sf vT vG vM vO vN vD vA tm k1 k2 k3 k4 k5 qi qt qc qp) (ha : 1 ≤ a0.toInt ∧ a0.toInt ≤ 50000000) : ∀ (n : Nat) (xm xt xi : Int32) (yc yp : Nat → Int32), 0 ≤ xi.toInt → xi.toInt ≤ lc.toInt → xm.toInt = soR lr qc a0.toInt xi.toInt.toNat → xt.toInt = soC lr qc a0.toInt xi.toInt.toNat → soY lr qc qp a0.toInt xi.toInt.toNat yc yp → (lc.toInt - xi.toInt).toNat < n →
    (f_X2_takeFromFront_lp7 lc lr n xm xt xi yc yp).1.toInt = soC lr qc a0.toInt lc.toInt.toNat ∧ ∀ k : Nat, (k : Int) < lc.toInt → ((f_X2_takeFromFront_lp7 lc lr n xm xt xi yc yp).2.1 (bxa lr k)).toInt = (qc (bxa lr k)).toInt - soO lr qc a0.toInt k ∧ ((f_X2_takeFromFront_lp7 lc lr n xm xt xi yc yp).2.2 (bxa lr k)).toInt = soP lr qc qp a0.toInt k := by
  intro n
  have h10 := (j_c h).2
  induction n with
  | zero => intro xm xt xi yc yp _ _ _ _ _ h; exact absurd h (Nat.not_lt_zero _)
  | succ n ih =>
    intro xm xt xi yc yp h0 hle hm ht hy hn
    rw [f_X2_takeFromFront_lp7]
    by_cases c : lc ≤ xi
    · rw [if_pos c]
      have hc := xle.mp c
      have e : xi.toInt = lc.toInt := by omega
      rw [e] at ht hy
      refine ⟨ht, fun k hk => ?_⟩
      have h1 := hy k (by omega)
      rw [if_pos (by omega), if_pos (by omega)] at h1
      exact h1
    · rw [if_neg c]
      have hc := xnle.mp c
      have hu := up_i c
      have e : (xi + 1).toInt.toNat = xi.toInt.toNat + 1 := by omega
      have en : xi.toNatClampNeg = xi.toInt.toNat := rfl
      have hR := soR_0 (lr := lr) (qc := qc) (a := a0.toInt) (by omega) (n := xi.toInt.toNat) (jx_c h (by omega))
      have hb := soO_b (lr := lr) (qc := qc) (a := a0.toInt) (by omega) (n := xi.toInt.toNat) (jx_c h (by omega))
      have hx := h.2.1 xi.toInt.toNat (by omega)
      have hC := soC_b (lr := lr) (qc := qc) (a := a0.toInt) (n := xi.toInt.toNat)
      by_cases cm : xm ≤ 0
      · rw [if_pos cm]
        have hm0 := xle.mp cm
        rw [xI0] at hm0
        have hz : soR lr qc a0.toInt xi.toInt.toNat = 0 := by omega
        have hzz : ∀ k : Nat, xi.toInt.toNat ≤ k → (k : Int) < lc.toInt → soO lr qc a0.toInt k = 0 := fun k q1 q2 => by
          have := (soR_z (by omega) hz (n := k - xi.toInt.toNat) (jx_c h (by omega))).2.1
          rw [show xi.toInt.toNat + (k - xi.toInt.toNat) = k by omega] at this
          exact this
        refine ⟨?_, fun k hk => ?_⟩
        · have h1 := (soR_z (lr := lr) (qc := qc) (by omega) hz (n := lc.toInt.toNat - 1 - xi.toInt.toNat) (jx_c h (by omega)))
          rw [show xi.toInt.toNat + (lc.toInt.toNat - 1 - xi.toInt.toNat) = lc.toInt.toNat - 1 by omega] at h1
          have e2 : soC lr qc a0.toInt lc.toInt.toNat = soC lr qc a0.toInt (lc.toInt.toNat - 1) + (if soO lr qc a0.toInt (lc.toInt.toNat - 1) ≤ 0 then 0 else 1) := by
            rw [show lc.toInt.toNat = (lc.toInt.toNat - 1) + 1 by omega]; rfl
          rw [e2, h1.2.1, h1.2.2, if_pos (Int.le_refl _)]
          show xt.toInt = _
          omega
        · have h1 := hy k (by omega)
          by_cases q : k < xi.toInt.toNat
          · rw [if_pos q, if_pos q] at h1; exact h1
          · rw [if_neg q, if_neg q] at h1
            have z := hzz k (by omega) hk
            have hk2 := (h.2.1 k hk).2.2.2
            unfold soP
            rw [z, if_neg (by omega)]
            exact ⟨by rw [h1.1]; omega, by rw [h1.2]; omega⟩
      · rw [if_neg cm]
        have hm0 := xnle.mp cm
        rw [xI0] at hm0
        have hy1 := hy xi.toInt.toNat (by omega)
        rw [if_neg (by omega), if_neg (by omega)] at hy1
        rw [en]
        obtain ⟨u, hu9⟩ : ∃ u, (if xm < (yc (bxa lr xi.toInt.toNat)) then xm else (yc (bxa lr xi.toInt.toNat))) = u := ⟨_, rfl⟩
        rw [hu9]
        have uu : u.toInt = soO lr qc a0.toInt xi.toInt.toNat := by
          rw [← hu9]
          unfold soO
          by_cases q : xm < (yc (bxa lr xi.toInt.toNat))
          · have q2 := xlt.mp q
            rw [if_pos q, if_pos (by omega)]; omega
          · have q2 := xnlt.mp q
            rw [if_neg q, if_neg (by omega)]; omega
        have e1 := xI1
        have e0 := xI0
        have hy2 : soY lr qc qp a0.toInt (xi + 1).toInt.toNat (f_X0_take (bxa lr xi.toInt.toNat) u yc yp).1 (f_X0_take (bxa lr xi.toInt.toNat) u yc yp).2 := by
          intro k hk
          rw [e]
          by_cases q : k = xi.toInt.toNat
          · rw [q]
            show (va_up yc (bxa lr xi.toInt.toNat) ((yc (bxa lr xi.toInt.toNat)) - u) (bxa lr xi.toInt.toNat)).toInt = _ ∧ (va_up yp (bxa lr xi.toInt.toNat) (if ((yp (bxa lr xi.toInt.toNat)) - u) < 0 then 0 else ((yp (bxa lr xi.toInt.toNat)) - u)) (bxa lr xi.toInt.toNat)).toInt = _
            have hlt9 : xi.toInt.toNat < xi.toInt.toNat + 1 := Nat.lt_succ_self _
            rw [va_up_self, va_up_self, if_pos hlt9, if_pos hlt9]
            have a1 : ((yc (bxa lr xi.toInt.toNat)) - u).toInt = (yc (bxa lr xi.toInt.toNat)).toInt - u.toInt := xsubI (by omega) (by omega)
            have a2 : ((yp (bxa lr xi.toInt.toNat)) - u).toInt = (yp (bxa lr xi.toInt.toNat)).toInt - u.toInt := xsubI (by omega) (by omega)
            refine ⟨by rw [a1]; omega, ?_⟩
            unfold soP
            by_cases q3 : ((yp (bxa lr xi.toInt.toNat)) - u) < 0
            · have q4 := xlt.mp q3
              rw [if_pos q3, if_pos (by omega), xI0]
            · have q4 := xnlt.mp q3
              rw [if_neg q3, if_neg (by omega)]; omega
          · have hne : bxa lr k ≠ bxa lr xi.toInt.toNat := fun q2 => q (h.1.2.2 k xi.toInt.toNat hk (by omega) q2)
            have h1 := hy k hk
            show (va_up yc (bxa lr xi.toInt.toNat) ((yc (bxa lr xi.toInt.toNat)) - u) (bxa lr k)).toInt = _ ∧ (va_up yp (bxa lr xi.toInt.toNat) (if ((yp (bxa lr xi.toInt.toNat)) - u) < 0 then 0 else ((yp (bxa lr xi.toInt.toNat)) - u)) (bxa lr k)).toInt = _
            rw [va_up_ne _ _ hne, va_up_ne _ _ hne]
            by_cases q5 : k < xi.toInt.toNat
            · rw [if_pos (by omega), if_pos (by omega)]; rw [if_pos q5, if_pos q5] at h1; exact h1
            · rw [if_neg (by omega), if_neg (by omega)]; rw [if_neg q5, if_neg q5] at h1; exact h1
        have hm2 : (xm - u).toInt = soR lr qc a0.toInt (xi + 1).toInt.toNat := by rw [e, soR_s, xsubI (by omega) (by omega)]; omega
        by_cases q : u ≤ 0
        · have q2 := xle.mp q
          rw [if_pos q]
          refine ih _ _ _ _ _ (up_0 h0 c) (by omega) hm2 ?_ hy2 (up_mu c hn)
          rw [e]
          show _ = soC lr qc a0.toInt xi.toInt.toNat + (if soO lr qc a0.toInt xi.toInt.toNat ≤ 0 then 0 else 1)
          rw [if_pos (by omega), xaddI (by omega) (by omega)]; omega
        · have q2 := xnle.mp q
          rw [if_neg q]
          refine ih _ _ _ _ _ (up_0 h0 c) (by omega) hm2 ?_ hy2 (up_mu c hn)
          rw [e]
          show _ = soC lr qc a0.toInt xi.toInt.toNat + (if soO lr qc a0.toInt xi.toInt.toNat ≤ 0 then 0 else 1)
          rw [if_neg (by omega), xaddI (by omega) (by omega)]; omega
theorem so_w (ha : 1 ≤ a0.toInt ∧ a0.toInt ≤ 50000000) : f_X9_within a0 1 50000000 = true := within_iff.mpr ha
theorem so_shut {o : Int32 × Int64 × (Nat → Int32) × (Nat → Int32)} (e : f_X9_sell a0 k4 lc lr vD qc qp = o) (ha : 1 ≤ a0.toInt ∧ a0.toInt ≤ 50000000) (h : ¬ (bi vD) = 1) : o = (-5, k4, qc, qp) := by
  subst e
  rw [vD_0 h, f_X9_sell, if_pos (so_w ha), if_neg (by decide)]
theorem less_iff : (f_X2_iceOfAll lc lr qc).toInt64 < a0.toInt64 ↔ ¬ a0 ≤ f_X2_iceOfAll lc lr qc := by
  rw [xltL, tL, tL, xnle]
theorem so_less {o : Int32 × Int64 × (Nat → Int32) × (Nat → Int32)} (e : f_X9_sell a0 k4 lc lr vD qc qp = o) (ha : 1 ≤ a0.toInt ∧ a0.toInt ≤ 50000000) (h : (f_X2_iceOfAll lc lr qc).toInt64 < a0.toInt64) : o = (-5, k4, qc, qp) := by
  subst e
  rw [f_X9_sell, if_pos (so_w ha)]
  by_cases c : vD = true
  · rw [if_pos c, if_neg (less_iff.mp h)]
  · rw [if_neg c]
theorem so_can {o : Int32 × Int64 × (Nat → Int32) × (Nat → Int32)} {xr xf xi : Int32} {fa fb : Nat → Int32} (h : JJ B Tm L lc lr rc rl rm rd ro sf vT vG vM vO vN vD vA tm k1 k2 k3 k4 k5 qi qt qc qp) (hB : B ≤ 100000000) (ha : 1 ≤ a0.toInt ∧ a0.toInt ≤ 50000000) (e : f_X9_sell a0 k4 lc lr vD qc qp = o) (hle : xi.toInt ≤ lc.toInt) (c : lc ≤ xi) (hs : soI lr qc qp a0 xi.toInt.toNat xr xf fa fb) (hd : (bi vD) = 1) (hl : ¬ (f_X2_iceOfAll lc lr qc).toInt64 < a0.toInt64) :
    o.1 = xf ∧ o.2.1 = k4 + a0.toInt64 ∧ (∀ k : Nat, (k : Int) < lc.toInt → o.2.2.1 (bxa lr k) = fa k ∧ o.2.2.2 (bxa lr k) = fb k) ∧ JJ B Tm L lc lr rc rl rm rd ro sf vT vG vM vO vN vD vA tm k1 k2 k3 o.2.1 k5 qi qt o.2.2.1 o.2.2.2 := by
  have hc := xle.mp c
  have ex : xi.toInt = lc.toInt := by omega
  rw [ex] at hs
  obtain ⟨s1, s2, s3⟩ := hs
  have hlc := j_c h
  have hle2 : a0 ≤ f_X2_iceOfAll lc lr qc := Classical.not_not.mp (fun q => hl (less_iff.mpr q))
  have hF : f_X9_sell a0 k4 lc lr vD qc qp = f_X9_sell_k1 a0 k4 (f_X2_takeFromFront a0 lc lr qc qp) := by
    rw [f_X9_sell, if_pos (so_w ha), if_pos (vD_1 hd), if_pos hle2]
  have hT := so_lp h ha ((lc.toInt - (0 : Int32).toInt).toNat + 1) a0 0 0 qc qp (by decide) (by rw [xI0]; exact hlc.1) rfl xI0 (fun k hk => by rw [if_neg (by rw [xI0]; omega), if_neg (by rw [xI0]; omega)]; exact ⟨rfl, rfl⟩) (Nat.lt_succ_self _)
  have hT2 : (f_X2_takeFromFront a0 lc lr qc qp) = f_X2_takeFromFront_lp7 lc lr ((lc.toInt - (0 : Int32).toInt).toNat + 1) a0 0 0 qc qp := rfl
  rw [← hT2] at hT
  rw [hF] at e
  subst e
  generalize f_X2_takeFromFront a0 lc lr qc qp = t at hT ⊢
  obtain ⟨t1, t2⟩ := hT
  have hall := xle.mp hle2
  rw [ice_sum h] at hall
  have hz : soR lr qc a0.toInt lc.toInt.toNat = 0 := by
    rw [soR_v (by omega) (jx_c h (by have := hlc.1; omega))]
    split <;> omega
  have hsum : sm (soO lr qc a0.toInt) lc.toInt.toNat = a0.toInt := by rw [soO_sum, hz]; omega
  obtain ⟨hR, hX, hW, hS, hH, hA⟩ := h
  obtain ⟨g1, g2, g3, g4, g5, g6⟩ := hA
  have h0 : 0 ≤ smC lr qc lc.toInt.toNat := (sm_at (f := fun k => (qc (bxa lr k)).toInt) (fun k hk => (hX k (by omega)).2.2.1.1)).1
  have ek4 : (k4 + a0.toInt64).toInt = k4.toInt + a0.toInt := by rw [xaddL (by rw [tL]; omega) (by rw [tL]; omega), tL]
  have hX2 : ∀ k : Nat, (k : Int) < lc.toInt → (0 ≤ (t.2.1 (bxa lr k)).toInt ∧ (t.2.1 (bxa lr k)).toInt ≤ 3000000) ∧ (0 ≤ (t.2.2 (bxa lr k)).toInt ∧ (t.2.2 (bxa lr k)).toInt ≤ 3000000) := fun k hk => by
    have h2 := hX k hk
    have h3 := soO_b (lr := lr) (qc := qc) (a := a0.toInt) (by omega) (n := k) (fun j hj => (hX j (by omega)).2.2.1.1)
    have h4 := t2 k hk
    unfold soP at h4
    rw [h4.1, h4.2]
    refine ⟨by omega, ?_⟩
    split <;> omega
  have hsm : smC lr t.2.1 lc.toInt.toNat = smC lr qc lc.toInt.toNat - a0.toInt := by
    have e1 : smC lr t.2.1 lc.toInt.toNat = sm (fun k => (qc (bxa lr k)).toInt - soO lr qc a0.toInt k) lc.toInt.toNat := sm_ext fun k hk => (t2 k (by omega)).1
    rw [e1, sm_sub, hsum]; rfl
  refine ⟨tj (t1.trans s2.symm), rfl, fun k hk => ⟨tj ((t2 k hk).1.trans (s3 k (by omega)).1.symm), tj ((t2 k hk).2.trans (s3 k (by omega)).2.symm)⟩, hR, fun k hk => ?_, hW, hS, hH, ?_, g2, g3, ?_, g5, g6⟩
  · obtain ⟨p1, p2, -, -⟩ := hX k hk
    exact ⟨p1, p2, (hX2 k hk).1, (hX2 k hk).2⟩
  · show k1.toInt = smC lr t.2.1 lc.toInt.toNat + k2.toInt + k3.toInt + (k4 + a0.toInt64).toInt + k5.toInt
    rw [hsm, ek4]; omega
  · show 0 ≤ (k4 + a0.toInt64).toInt
    rw [ek4]; omega
end SO
