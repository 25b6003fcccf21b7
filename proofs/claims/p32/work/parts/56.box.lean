/-! boxes: put in, taken out, spilled, weighed, checked, moved -/
theorem bxa_up {f : Nat → Option Nat} {i v k : Nat} : bxa (va_up f i (some v)) k = if k = i then v else bxa f k := by
  unfold bxa va_up
  by_cases q : k = i
  · rw [if_pos q, if_pos q]; rfl
  · rw [if_neg q, if_neg q]
theorem mv70_row {a0 a1 : Int32} {lr : Nat → Option Nat} (hT : 0 ≤ a1.toInt) (hA : 0 ≤ a0.toInt) : ∀ (n : Nat) (xj : Int32) (yq : Nat → Option Nat), (xj.toInt - a1.toInt).toNat < n → a1.toInt ≤ xj.toInt → xj.toInt ≤ a0.toInt → (∀ k, k < 10 → bxa yq k = if xj.toInt.toNat < k ∧ k ≤ a0.toInt.toNat then bxa lr (k - 1) else bxa lr k) → a0.toInt < 10 → ∀ k, k < 10 → bxa (f_X2_move_lp70 a0 a1 lr n xj yq) k = bxa lr (pmD a0.toInt.toNat a1.toInt.toNat k) := by
  intro n
  induction n with
  | zero => intro xj yq h; exact absurd h (Nat.not_lt_zero _)
  | succ n ih =>
    intro xj yq hn h1 h2 hy h10 k hk
    rw [f_X2_move_lp70]
    by_cases c : xj ≤ a1
    · rw [if_pos c]
      have hc := xle.mp c
      have e : xj.toInt = a1.toInt := by omega
      have en : a1.toNatClampNeg = a1.toInt.toNat := rfl
      have en0 : a0.toNatClampNeg = a0.toInt.toNat := rfl
      rw [en, en0, bxa_up]
      unfold pmD
      by_cases q : k = a1.toInt.toNat
      · rw [if_pos q, if_pos q]
      · rw [if_neg q, if_neg q, hy k hk, e]
        by_cases q2 : a1.toInt.toNat < k ∧ k ≤ a0.toInt.toNat
        · rw [if_pos q2, if_pos q2]
        · rw [if_neg q2, if_neg q2]
    · rw [if_neg c]
      have hc := xnle.mp c
      have en : xj.toNatClampNeg = xj.toInt.toNat := rfl
      have en1 : (xj - 1).toNatClampNeg = xj.toInt.toNat - 1 := (congrArg Int.toNat (dn_s c)).trans (by omega)
      rw [en, en1]
      clear en en1
      have hd := dn_i c
      have hmu := dn_mu c hn
      generalize xj + (-1) = z at hd hmu ⊢
      have e3 : z.toInt.toNat = xj.toInt.toNat - 1 := by omega
      refine ih _ _ hmu (by omega) (by omega) (fun j hj => ?_) h10 k hk
      rw [bxa_up, e3]
      by_cases q : j = xj.toInt.toNat
      · rw [if_pos q, if_pos (by omega), hy _ (by omega), if_neg (by omega), q]
      · rw [if_neg q, hy j hj]
        by_cases q2 : xj.toInt.toNat < j ∧ j ≤ a0.toInt.toNat
        · rw [if_pos q2, if_pos (by omega)]
        · rw [if_neg q2, if_neg (by omega)]
theorem mv39_row {a0 a1 : Int32} {lr : Nat → Option Nat} (hA : 0 ≤ a0.toInt) (hU : a0.toInt ≤ a1.toInt) (h10 : a1.toInt < 10) : ∀ (n : Nat) (xi : Int32) (yr : Nat → Option Nat), (a1.toInt - xi.toInt).toNat < n → a0.toInt ≤ xi.toInt → xi.toInt ≤ a1.toInt → (∀ k, k < 10 → bxa yr k = if a0.toInt.toNat ≤ k ∧ k < xi.toInt.toNat then bxa lr (k + 1) else bxa lr k) → ∀ k, k < 10 → bxa (f_X2_move_lp39 a0 a1 lr n xi yr) k = bxa lr (pmU a0.toInt.toNat a1.toInt.toNat k) := by
  intro n
  induction n with
  | zero => intro xi yr h; exact absurd h (Nat.not_lt_zero _)
  | succ n ih =>
    intro xi yr hn h1 h2 hy k hk
    rw [f_X2_move_lp39]
    by_cases c : a1 ≤ xi
    · rw [if_pos c]
      have hc := xle.mp c
      have e : xi.toInt = a1.toInt := by omega
      have en : a1.toNatClampNeg = a1.toInt.toNat := rfl
      have en0 : a0.toNatClampNeg = a0.toInt.toNat := rfl
      rw [f_X2_move_lp70, if_pos (xle.mpr hU), en, en0, bxa_up]
      unfold pmU
      by_cases q : k = a1.toInt.toNat
      · rw [if_pos q, if_pos q]
      · rw [if_neg q, if_neg q, hy k hk, e]
        by_cases q2 : a0.toInt.toNat ≤ k ∧ k < a1.toInt.toNat
        · rw [if_pos q2, if_pos q2]
        · rw [if_neg q2, if_neg q2]
    · rw [if_neg c]
      have hc := xnle.mp c
      have hu := up_i c
      have en : xi.toNatClampNeg = xi.toInt.toNat := rfl
      have en1 : (xi + 1).toNatClampNeg = xi.toInt.toNat + 1 := by
        show (xi + 1).toInt.toNat = _
        omega
      refine ih _ _ (up_mu c hn) (by omega) (by omega) (fun j hj => ?_) k hk
      rw [en, en1, bxa_up]
      have e3 : (xi + 1).toInt.toNat = xi.toInt.toNat + 1 := by omega
      rw [e3]
      by_cases q : j = xi.toInt.toNat
      · rw [if_pos q, if_pos (by omega), hy _ (by omega), if_neg (by omega), q]
      · rw [if_neg q, hy j hj]
        by_cases q2 : a0.toInt.toNat ≤ j ∧ j < xi.toInt.toNat
        · rw [if_pos q2, if_pos (by omega)]
        · rw [if_neg q2, if_neg (by omega)]
theorem mv_rowU {a0 a1 lc : Int32} {lr : Nat → Option Nat} (hc : okC lc 10) (h0 : f_X9_within a0 0 (lc - 1) = true) (h1 : f_X9_within a1 0 (lc - 1) = true) (hU : a0.toInt ≤ a1.toInt) : ∀ k, k < 10 → bxa (f_X2_move a0 a1 lc lr) k = bxa lr (pmU a0.toInt.toNat a1.toInt.toNat k) := by
  have g0 := (wi_k hc).mp h0
  have g1 := (wi_k hc).mp h1
  have h10 := hc.2
  rw [f_X2_move, if_pos h0, if_pos h1]
  exact mv39_row g0.1 hU (by omega) _ _ _ (Nat.lt_succ_self _) (Int.le_refl _) hU (fun k hk => by rw [if_neg (by omega)])
theorem mv_rowD {a0 a1 lc : Int32} {lr : Nat → Option Nat} (hc : okC lc 10) (h0 : f_X9_within a0 0 (lc - 1) = true) (h1 : f_X9_within a1 0 (lc - 1) = true) (hD : a1.toInt ≤ a0.toInt) : ∀ k, k < 10 → bxa (f_X2_move a0 a1 lc lr) k = bxa lr (pmD a0.toInt.toNat a1.toInt.toNat k) := by
  have g0 := (wi_k hc).mp h0
  have g1 := (wi_k hc).mp h1
  have h10 := hc.2
  rw [f_X2_move, if_pos h0, if_pos h1, f_X2_move_lp39, if_pos (xle.mpr hD)]
  exact mv70_row g1.1 g0.1 _ _ _ (Nat.lt_succ_self _) hD (Int.le_refl _) (fun k hk => by rw [if_neg (by omega)]) (by omega)
theorem sm_0 {f : Nat → Int} : ∀ {n : Nat}, (∀ k, k < n → f k = 0) → sm f n = 0 := by
  intro n
  induction n with
  | zero => intro _; rfl
  | succ n ih =>
    intro h
    show sm f n + f n = 0
    rw [ih (fun k hk => h k (by omega)), h n (by omega)]; rfl
theorem sm_one {b : Nat} {x : Int} : ∀ {n : Nat}, b < n → sm (fun k => if k = b then x else 0) n = x := by
  intro n
  induction n with
  | zero => intro h; exact absurd h (Nat.not_lt_zero _)
  | succ n ih =>
    intro h
    show sm (fun k => if k = b then x else 0) n + (if n = b then x else 0) = x
    by_cases q : n = b
    · rw [if_pos q, sm_0 fun k hk => by rw [if_neg (by omega)]]; omega
    · rw [if_neg q, ih (by omega)]; omega
section BX
variable {B Tm : Int} {L : List Nat} {lc : Int32} {lr : Nat → Option Nat} {rc rl rm : Int32} {rd ro sf : Nat → Int32} {vT : Int32} {vG : Int64} {vM : Int32} {vO : Bool} {vN : Int32} {vD : Bool} {vA tm : Int32} {k1 k2 k3 k4 k5 : Int64} {qi qt qc qp : Nat → Int32}
theorem jj_B {B' : Int} (h : JJ B Tm L lc lr rc rl rm rd ro sf vT vG vM vO vN vD vA tm k1 k2 k3 k4 k5 qi qt qc qp) (hb : B ≤ B') : JJ B' Tm L lc lr rc rl rm rd ro sf vT vG vM vO vN vD vA tm k1 k2 k3 k4 k5 qi qt qc qp := by
  obtain ⟨h1, h2, h3, h4, h5, g1, g2, g3, g4, g5, g6⟩ := h
  exact ⟨h1, h2, h3, h4, h5, g1, g2, g3, g4, g5, by omega⟩
theorem jj_T {T' : Int} (h : JJ B Tm L lc lr rc rl rm rd ro sf vT vG vM vO vN vD vA tm k1 k2 k3 k4 k5 qi qt qc qp) (hb : Tm ≤ T') : JJ B T' L lc lr rc rl rm rd ro sf vT vG vM vO vN vD vA tm k1 k2 k3 k4 k5 qi qt qc qp := by
  obtain ⟨h1, h2, h3, h4, ⟨g1, g2, g3, g4, g5, g6, g7, g8⟩, h6⟩ := h
  exact ⟨h1, h2, h3, h4, ⟨g1, g2, g3, g4, g5, g6, g7, by omega⟩, h6⟩
theorem n10_t (hc : okC lc 10) (c : 10 ≤ lc) : lc = 10 := by
  have e : (10 : Int32).toInt = 10 := by decide
  have h1 := xle.mp c
  have h2 := hc.2
  exact tj (by omega)
theorem n10_f (c : ¬ 10 ≤ lc) : ¬ lc = 10 := fun q => c (by rw [q]; exact Int32.le_refl _)
theorem n10_l (c : ¬ 10 ≤ lc) : lc < 10 := by
  have h := xnle.mp c
  exact xlt.mpr h
-- load
theorem ld_full {o : Int32 × Int64 × Int32 × (Nat → Int32) × (Nat → Int32) × (Nat → Int32) × (Nat → Int32)} {i p : Int32} (e : f_X9_load i 7 p k1 lc lr vD qi qt qc qp = o) (hi : 1 ≤ i.toInt ∧ i.toInt ≤ 100) (hp : 0 ≤ p.toInt ∧ p.toInt ≤ 3000000) (c : 10 ≤ lc) : o = (-4, k1, lc, qi, qt, qc, qp) := by
  subst e
  have e1 : f_X9_within i 1 100 = true := within_iff.mpr hi
  have e2 : f_X9_within p 0 20000000 = true := within_iff.mpr ⟨hp.1, Int.le_trans hp.2 (by decide)⟩
  rw [f_X9_load, if_pos e1, if_pos (by decide), if_pos e2, if_neg (Int32.not_lt.mpr c)]
theorem ld_shut {o : Int32 × Int64 × Int32 × (Nat → Int32) × (Nat → Int32) × (Nat → Int32) × (Nat → Int32)} {i p : Int32} (e : f_X9_load i 7 p k1 lc lr vD qi qt qc qp = o) (hi : 1 ≤ i.toInt ∧ i.toInt ≤ 100) (hp : 0 ≤ p.toInt ∧ p.toInt ≤ 3000000) (c : ¬ 10 ≤ lc) (hd : ¬ (bi vD) = 1) : o = (-5, k1, lc, qi, qt, qc, qp) := by
  subst e
  have e1 : f_X9_within i 1 100 = true := within_iff.mpr hi
  have e2 : f_X9_within p 0 20000000 = true := within_iff.mpr ⟨hp.1, Int.le_trans hp.2 (by decide)⟩
  rw [vD_0 hd, f_X9_load, if_pos e1, if_pos (by decide), if_pos e2, if_pos (n10_l c), if_neg (by decide)]
theorem ld_ok {o : Int32 × Int64 × Int32 × (Nat → Int32) × (Nat → Int32) × (Nat → Int32) × (Nat → Int32)} {i t p : Int32} (h : JJ B Tm L lc lr rc rl rm rd ro sf vT vG vM vO vN vD vA tm k1 k2 k3 k4 k5 qi qt qc qp) (hB : B ≤ 100000000) (e : f_X9_load i t p k1 lc lr vD qi qt qc qp = o) (hi : 1 ≤ i.toInt ∧ i.toInt ≤ 100) (htt : 0 ≤ t.toInt ∧ t.toInt ≤ 5000000) (hp : 0 ≤ p.toInt ∧ p.toInt ≤ 3000000) (c : ¬ 10 ≤ lc) (hd : vD = true) :
    o.1 = lc ∧ o.2.1 = k1 + p.toInt64 ∧ o.2.2.1 = lc + 1 ∧ f_X9_within lc 0 (o.2.2.1 - 1) = true ∧ o.2.2.2.2.2.1 (bxa lr lc.toNatClampNeg) = p ∧ o.2.2.2.2.2.2 (bxa lr lc.toNatClampNeg) = p ∧ o.2.2.2.2.1 (bxa lr lc.toNatClampNeg) = t ∧ JJ (B + p.toInt) Tm L o.2.2.1 lr rc rl rm rd ro sf vT vG vM vO vN vD vA tm o.2.1 k2 k3 k4 k5 o.2.2.2.1 o.2.2.2.2.1 o.2.2.2.2.2.1 o.2.2.2.2.2.2 := by
  have e1 : f_X9_within i 1 100 = true := within_iff.mpr hi
  have q5 : (5000000 : Int32).toInt = 5000000 := by decide
  have q20 : (20000000 : Int32).toInt = 20000000 := by decide
  have e2 : f_X9_within p 0 20000000 = true := within_iff.mpr ⟨hp.1, by rw [q20]; omega⟩
  have e3 : f_X9_within t 0 5000000 = true := within_iff.mpr ⟨htt.1, by rw [q5]; omega⟩
  have hF : f_X9_load i t p k1 lc lr vD qi qt qc qp = (lc + 1 - 1, k1 + p.toInt64, lc + 1, va_up qi (bxa lr lc.toNatClampNeg) i, va_up qt (bxa lr lc.toNatClampNeg) t, va_up qc (bxa lr lc.toNatClampNeg) p, va_up qp (bxa lr lc.toNatClampNeg) p) := by
    rw [f_X9_load, if_pos e1, if_pos e3, if_pos e2, if_pos (n10_l c), if_pos hd, f_X9_load_k1, f_X2_append, if_pos (n10_l c)]
  rw [hF] at e
  subst e
  have h10 := xnle.mp c
  have e10 : (10 : Int32).toInt = 10 := by decide
  have eI := xI1
  have hlc := j_c h
  have h0 := hlc.1
  have u1 : (lc + 1).toInt = lc.toInt + 1 := by rw [xaddI (by omega) (by omega), eI]
  have u2 : lc + 1 - 1 = lc := tj (by rw [xsubI (by omega) (by omega), u1, eI]; omega)
  have en : lc.toNatClampNeg = lc.toInt.toNat := rfl
  obtain ⟨hR, hX, hW, hS, hH, hA⟩ := h
  obtain ⟨a1, a2, a3, a4, a5, a6⟩ := hA
  have hk1 : 0 ≤ smC lr qc lc.toInt.toNat := (sm_at (f := fun k => (qc (bxa lr k)).toInt) (fun k hk => (hX k (by omega)).2.2.1.1)).1
  have k1e : (k1 + p.toInt64).toInt = k1.toInt + p.toInt := by rw [xaddL (by rw [tL]; omega) (by rw [tL]; omega), tL]
  have hne : ∀ k : Nat, (k : Int) < lc.toInt → bxa lr k ≠ bxa lr lc.toNatClampNeg := fun k hk q => by
    have := hR.2.2 k lc.toInt.toNat (by omega) (by omega) q
    omega
  refine ⟨u2, rfl, rfl, ?_, va_up_self _ _ _, va_up_self _ _ _, va_up_self _ _ _, ⟨hR.1, ⟨by rw [u1]; omega, by rw [u1]; omega⟩, hR.2.2⟩, fun k hk => ?_, hW, hS, hH, ?_, a2, a3, a4, a5, ?_⟩
  · show f_X9_within lc 0 (lc + 1 - 1) = true
    rw [u2]
    exact within_iff.mpr ⟨by rw [xI0]; omega, Int.le_refl _⟩
  · have hk2 : (k : Int) < lc.toInt + 1 := by rw [← u1]; exact hk
    show (1 ≤ (va_up qi (bxa lr lc.toNatClampNeg) i (bxa lr k)).toInt ∧ (va_up qi (bxa lr lc.toNatClampNeg) i (bxa lr k)).toInt ≤ 100) ∧ (0 ≤ (va_up qt (bxa lr lc.toNatClampNeg) t (bxa lr k)).toInt ∧ (va_up qt (bxa lr lc.toNatClampNeg) t (bxa lr k)).toInt ≤ 5000000) ∧ (0 ≤ (va_up qc (bxa lr lc.toNatClampNeg) p (bxa lr k)).toInt ∧ (va_up qc (bxa lr lc.toNatClampNeg) p (bxa lr k)).toInt ≤ 3000000) ∧ (0 ≤ (va_up qp (bxa lr lc.toNatClampNeg) p (bxa lr k)).toInt ∧ (va_up qp (bxa lr lc.toNatClampNeg) p (bxa lr k)).toInt ≤ 3000000)
    by_cases q : (k : Int) < lc.toInt
    · have hn := hne k q
      rw [va_up_ne _ _ hn, va_up_ne _ _ hn, va_up_ne _ _ hn, va_up_ne _ _ hn]
      exact hX k q
    · have ek : k = lc.toNatClampNeg := by rw [en]; omega
      rw [ek, va_up_self, va_up_self, va_up_self, va_up_self]
      exact ⟨hi, htt, hp, hp⟩
  · show (k1 + p.toInt64).toInt = smC lr (va_up qc (bxa lr lc.toNatClampNeg) p) (lc + 1).toInt.toNat + k2.toInt + k3.toInt + k4.toInt + k5.toInt
    have e4 : (lc + 1).toInt.toNat = lc.toInt.toNat + 1 := by omega
    have e5 : smC lr (va_up qc (bxa lr lc.toNatClampNeg) p) (lc.toInt.toNat + 1) = smC lr qc lc.toInt.toNat + p.toInt := by
      show sm (fun k => (va_up qc (bxa lr lc.toNatClampNeg) p (bxa lr k)).toInt) lc.toInt.toNat + (va_up qc (bxa lr lc.toNatClampNeg) p (bxa lr lc.toInt.toNat)).toInt = _
      have e6 : (va_up qc (bxa lr lc.toNatClampNeg) p (bxa lr lc.toInt.toNat)) = p := va_up_self _ _ _
      rw [e6, sm_ext (g := fun k => (qc (bxa lr k)).toInt) fun k hk => by rw [va_up_ne _ _ (hne k (by omega))]]
      rfl
    rw [e4, e5, k1e]; omega
  · show (k1 + p.toInt64).toInt ≤ B + p.toInt
    rw [k1e]; omega
-- there is no such box
theorem no_at {b : Int32} (hc : okC lc 10) (c : lc ≤ b) : f_X2_boxAt b lc lr = none := by
  have h := xle.mp c
  exact boxAt_n fun q => by have := (wi_k hc).mp q; omega
theorem at_w {b : Int32} (hc : okC lc 10) (h0 : 0 ≤ b.toInt) (c : ¬ lc ≤ b) : f_X9_within b 0 (lc - 1) = true := wi_lp h0 c hc
-- unload
theorem un_none {o : Int32 × Int64 × Int32 × (Nat → Option Nat)} {b : Int32} (e : f_X9_unload b k2 lc lr vD qc = o) (hc : okC lc 10) (c : lc ≤ b) : o = (-1, k2, lc, lr) := by
  subst e
  rw [f_X9_unload, if_pos (no_at hc c)]
theorem un_shut {o : Int32 × Int64 × Int32 × (Nat → Option Nat)} {b : Int32} (e : f_X9_unload b k2 lc lr vD qc = o) (hw : f_X9_within b 0 (lc - 1) = true) (hd : ¬ (bi vD) = 1) : o = (-5, k2, lc, lr) := by
  subst e
  rw [vD_0 hd, f_X9_unload, boxAt_w hw, if_neg sn, if_neg (by decide)]
theorem mv_inj {a t : Int32} (h : JJ B Tm L lc lr rc rl rm rd ro sf vT vG vM vO vN vD vA tm k1 k2 k3 k4 k5 qi qt qc qp) (h0 : f_X9_within a 0 (lc - 1) = true) (h1 : f_X9_within t 0 (lc - 1) = true) : JR L lc (f_X2_move a t lc lr) := by
  have hc := j_c h
  have g0 := (wi_k hc).mp h0
  have g1 := (wi_k hc).mp h1
  have h10 := hc.2
  refine ⟨mv_ok (j_r h) hc, hc, fun i j hi hj e => ?_⟩
  by_cases c : a.toInt ≤ t.toInt
  · rw [mv_rowU hc h0 h1 c i hi, mv_rowU hc h0 h1 c j hj] at e
    exact pmU_inj (by omega) (h.1.2.2 _ _ (pmU_lt (by omega) (by omega) hi) (pmU_lt (by omega) (by omega) hj) e)
  · rw [mv_rowD hc h0 h1 (by omega) i hi, mv_rowD hc h0 h1 (by omega) j hj] at e
    exact pmD_inj (by omega) (h.1.2.2 _ _ (pmD_lt (by omega) hi) (pmD_lt (by omega) hj) e)
theorem m1_w (h : JJ B Tm L lc lr rc rl rm rd ro sf vT vG vM vO vN vD vA tm k1 k2 k3 k4 k5 qi qt qc qp) {b : Int32} (hw : f_X9_within b 0 (lc - 1) = true) : f_X9_within (lc - 1) 0 (lc - 1) = true := by
  have hc := j_c h
  have g := (wi_k hc).mp hw
  have e := m1_i hc
  exact within_iff.mpr ⟨by rw [xI0, e]; omega, Int.le_refl _⟩
theorem un_ok {o : Int32 × Int64 × Int32 × (Nat → Option Nat)} {b : Int32} (h : JJ B Tm L lc lr rc rl rm rd ro sf vT vG vM vO vN vD vA tm k1 k2 k3 k4 k5 qi qt qc qp) (hB : B ≤ 100000000) (e : f_X9_unload b k2 lc lr vD qc = o) (hw : f_X9_within b 0 (lc - 1) = true) (hd : (bi vD) = 1) :
    o.1 = qc (bxa lr b.toNatClampNeg) ∧ o.2.1 = k2 + (qc (bxa lr b.toNatClampNeg)).toInt64 ∧ o.2.2.1 = lc - 1 ∧ JJ B Tm L o.2.2.1 o.2.2.2 rc rl rm rd ro sf vT vG vM vO vN vD vA tm k1 o.2.1 k3 k4 k5 qi qt qc qp := by
  have hc := j_c h
  have g := (wi_k hc).mp hw
  have em := m1_i hc
  have h10 := hc.2
  have hF : f_X9_unload b k2 lc lr vD qc = (qc (bxa lr b.toNatClampNeg), k2 + (qc (bxa lr b.toNatClampNeg)).toInt64, lc - 1, f_X2_move b (lc - 1) lc lr) := by
    rw [vD_1 hd, f_X9_unload, boxAt_w hw, if_neg sn, if_pos rfl, f_X2_takeOut, if_pos hw]
    rfl
  rw [hF] at e
  subst e
  have hm := m1_w h hw
  have hJR := mv_inj h hw hm
  have hrow := mv_rowU (lr := lr) hc hw hm (by omega)
  have eb : b.toNatClampNeg = b.toInt.toNat := rfl
  have et : (lc - 1).toInt.toNat = lc.toInt.toNat - 1 := by omega
  rw [et] at hrow
  have hsb := smC_bd h (n := lc.toInt.toNat) (by omega)
  obtain ⟨hR, hX, hW, hS, hH, hA⟩ := h
  obtain ⟨a1, a2, a3, a4, a5, a6⟩ := hA
  have hxb := hX b.toInt.toNat (by omega)
  have k2e : (k2 + (qc (bxa lr b.toNatClampNeg)).toInt64).toInt = k2.toInt + (qc (bxa lr b.toInt.toNat)).toInt := by
    rw [eb, xaddL (by rw [tL]; omega) (by rw [tL]; omega), tL]
  refine ⟨rfl, rfl, rfl, ⟨hJR.1, ⟨by show 0 ≤ (lc - 1).toInt; omega, by show (lc - 1).toInt ≤ 10; omega⟩, hJR.2.2⟩, fun k hk => ?_, hW, hS, hH, ?_, ?_, a3, a4, a5, a6⟩
  · have hk2 : (k : Int) < lc.toInt - 1 := by rw [← em]; exact hk
    show (1 ≤ (qi (bxa (f_X2_move b (lc - 1) lc lr) k)).toInt ∧ _) ∧ _
    have e9 := hrow k (by omega)
    have hx := hX (pmU b.toInt.toNat (lc.toInt.toNat - 1) k) (by have := pmU_lt (n := lc.toInt.toNat) (a := b.toInt.toNat) (t := lc.toInt.toNat - 1) (k := k) (by omega) (by omega) (by omega); omega)
    rw [← e9] at hx
    exact hx
  · show k1.toInt = smC (f_X2_move b (lc - 1) lc lr) qc (lc - 1).toInt.toNat + (k2 + (qc (bxa lr b.toNatClampNeg)).toInt64).toInt + k3.toInt + k4.toInt + k5.toInt
    have e6 : smC (f_X2_move b (lc - 1) lc lr) qc (lc - 1).toInt.toNat = smC lr qc lc.toInt.toNat - (qc (bxa lr b.toInt.toNat)).toInt := by
      rw [et]
      have e7 : smC (f_X2_move b (lc - 1) lc lr) qc (lc.toInt.toNat - 1) = sm (fun k => (fun j => (qc (bxa lr j)).toInt) (pmU b.toInt.toNat (lc.toInt.toNat - 1) k)) (lc.toInt.toNat - 1) := sm_ext fun k hk => by
        show (qc (bxa (f_X2_move b (lc - 1) lc lr) k)).toInt = _
        rw [hrow k (by omega)]
      rw [e7, sm_Ut (f := fun j => (qc (bxa lr j)).toInt) (a := b.toInt.toNat) (t := lc.toInt.toNat - 1) (by omega), show lc.toInt.toNat - 1 + 1 = lc.toInt.toNat by omega]
      rfl
    rw [e6, k2e]; omega
  · show 0 ≤ (k2 + (qc (bxa lr b.toNatClampNeg)).toInt64).toInt
    rw [k2e]; omega
-- spill
theorem sp_none {o : Int32 × Int64 × (Nat → Int32)} {b a : Int32} (e : f_X9_spill b a k5 lc lr qc = o) (hc : okC lc 10) (c : lc ≤ b) : o = (-1, k5, qc) := by
  subst e
  rw [f_X9_spill, if_pos (no_at hc c)]
theorem sp_less {o : Int32 × Int64 × (Nat → Int32)} {b a : Int32} (e : f_X9_spill b a k5 lc lr qc = o) (hw : f_X9_within b 0 (lc - 1) = true) (ha : 1 ≤ a.toInt ∧ a.toInt ≤ 20000000) (c : (qc (bxa lr b.toNatClampNeg)) < a) : o = (-2, k5, qc) := by
  subst e
  have e1 : f_X9_within a 1 20000000 = true := within_iff.mpr ha
  have e2 : ¬ a ≤ (qc ((some (bxa lr b.toNatClampNeg)).getD 0)) := Int32.not_le.mpr c
  rw [f_X9_spill, boxAt_w hw, if_neg sn, if_pos e1, if_neg e2]
theorem sp_ok {o : Int32 × Int64 × (Nat → Int32)} {b a : Int32} (h : JJ B Tm L lc lr rc rl rm rd ro sf vT vG vM vO vN vD vA tm k1 k2 k3 k4 k5 qi qt qc qp) (hB : B ≤ 100000000) (e : f_X9_spill b a k5 lc lr qc = o) (hw : f_X9_within b 0 (lc - 1) = true) (ha : 1 ≤ a.toInt ∧ a.toInt ≤ 20000000) (c : ¬ (qc (bxa lr b.toNatClampNeg)) < a) :
    o.1 = (qc (bxa lr b.toNatClampNeg)) - a ∧ JJ B Tm L lc lr rc rl rm rd ro sf vT vG vM vO vN vD vA tm k1 k2 k3 k4 o.2.1 qi qt o.2.2 qp := by
  have hc := j_c h
  have g := (wi_k hc).mp hw
  have h10 := hc.2
  have e1 : f_X9_within a 1 20000000 = true := within_iff.mpr ha
  have e2 : a ≤ (qc ((some (bxa lr b.toNatClampNeg)).getD 0)) := Int32.not_lt.mp c
  have hF : f_X9_spill b a k5 lc lr qc = (va_up qc (bxa lr b.toNatClampNeg) ((qc (bxa lr b.toNatClampNeg)) - a) (bxa lr b.toNatClampNeg), k5 + a.toInt64, va_up qc (bxa lr b.toNatClampNeg) ((qc (bxa lr b.toNatClampNeg)) - a)) := by
    rw [f_X9_spill, boxAt_w hw, if_neg sn, if_pos e1, if_pos e2]
    rfl
  rw [hF] at e
  subst e
  have eb : b.toNatClampNeg = b.toInt.toNat := rfl
  have hle := xnlt.mp c
  obtain ⟨hR, hX, hW, hS, hH, hA⟩ := h
  obtain ⟨a1, a2, a3, a4, a5, a6⟩ := hA
  have hxb := hX b.toInt.toNat (by omega)
  rw [eb] at hle ⊢
  have hs0 : 0 ≤ smC lr qc lc.toInt.toNat := (sm_at (f := fun k => (qc (bxa lr k)).toInt) (fun k hk => (hX k (by omega)).2.2.1.1)).1
  have se : ((qc (bxa lr b.toInt.toNat)) - a).toInt = (qc (bxa lr b.toInt.toNat)).toInt - a.toInt := xsubI (by omega) (by omega)
  have k5e : (k5 + a.toInt64).toInt = k5.toInt + a.toInt := by rw [xaddL (by rw [tL]; omega) (by rw [tL]; omega), tL]
  have hne : ∀ k : Nat, (k : Int) < lc.toInt → k ≠ b.toInt.toNat → bxa lr k ≠ bxa lr b.toInt.toNat := fun k hk q q2 => q (hR.2.2 k _ (by omega) (by omega) q2)
  refine ⟨va_up_self _ _ _, hR, fun k hk => ?_, hW, hS, hH, ?_, a2, a3, a4, ?_, a6⟩
  · obtain ⟨x1, x2, x3, x4⟩ := hX k hk
    refine ⟨x1, x2, ?_, x4⟩
    show 0 ≤ (va_up qc (bxa lr b.toInt.toNat) ((qc (bxa lr b.toInt.toNat)) - a) (bxa lr k)).toInt ∧ (va_up qc (bxa lr b.toInt.toNat) ((qc (bxa lr b.toInt.toNat)) - a) (bxa lr k)).toInt ≤ 3000000
    by_cases q : k = b.toInt.toNat
    · rw [q, va_up_self, se]; omega
    · rw [va_up_ne _ _ (hne k hk q)]; exact x3
  · show k1.toInt = smC lr (va_up qc (bxa lr b.toInt.toNat) ((qc (bxa lr b.toInt.toNat)) - a)) lc.toInt.toNat + k2.toInt + k3.toInt + k4.toInt + (k5 + a.toInt64).toInt
    have e6 : smC lr (va_up qc (bxa lr b.toInt.toNat) ((qc (bxa lr b.toInt.toNat)) - a)) lc.toInt.toNat = smC lr qc lc.toInt.toNat - sm (fun k => if k = b.toInt.toNat then a.toInt else 0) lc.toInt.toNat := by
      have e7 : smC lr (va_up qc (bxa lr b.toInt.toNat) ((qc (bxa lr b.toInt.toNat)) - a)) lc.toInt.toNat = sm (fun k => (qc (bxa lr k)).toInt - (if k = b.toInt.toNat then a.toInt else 0)) lc.toInt.toNat := sm_ext fun k hk => by
        show (va_up qc (bxa lr b.toInt.toNat) ((qc (bxa lr b.toInt.toNat)) - a) (bxa lr k)).toInt = _
        by_cases q : k = b.toInt.toNat
        · rw [if_pos q, q, va_up_self, se]
        · rw [if_neg q, va_up_ne _ _ (hne k (by omega) q)]; omega
      rw [e7, sm_sub]; rfl
    have e8 : sm (fun k => if k = b.toInt.toNat then a.toInt else 0) lc.toInt.toNat = a.toInt := sm_one (by omega)
    rw [e6, e8, k5e]; omega
  · show 0 ≤ (k5 + a.toInt64).toInt
    rw [k5e]; omega
-- weigh, check
theorem aw_0 {u : Int32} (e : u = (if rm ≤ 0 then (0 : Int32) else (1 : Int32))) (h : u = 0) : rm ≤ 0 := by
  by_cases c : rm ≤ 0
  · exact c
  · rw [if_neg c] at e; rw [e] at h; exact absurd h (by decide)
theorem aw_1 {u : Int32} (e : u = (if rm ≤ 0 then (0 : Int32) else (1 : Int32))) (h : ¬ u = 0) : ¬ rm ≤ 0 := fun c => h (by rw [e, if_pos c])
theorem wg_none {b : Int32} (hc : okC lc 10) (c : lc ≤ b) : f_X9_weigh b lc lr rm qt qc = -1 ∧ f_X9_check b lc lr rm qc qp = (-1000000001, qp) := by
  rw [f_X9_weigh, f_X9_check, if_pos (no_at hc c), if_pos (no_at hc c)]
  exact ⟨rfl, rfl⟩
theorem wg_away {b : Int32} (hw : f_X9_within b 0 (lc - 1) = true) (a : ¬ rm ≤ 0) : f_X9_weigh b lc lr rm qt qc = -5 ∧ f_X9_check b lc lr rm qc qp = (-1000000005, qp) := by
  have hq : ¬ (some (bxa lr b.toNatClampNeg)) = none := fun q => by cases q
  have e : f_X4_isOnTheWay rm = true := by rw [f_X4_isOnTheWay, if_neg a]
  rw [f_X9_weigh, f_X9_check, boxAt_w hw, if_neg hq, if_neg hq, if_pos e, if_pos e]
  exact ⟨rfl, rfl⟩
theorem wg_ok {b : Int32} (h : JJ B Tm L lc lr rc rl rm rd ro sf vT vG vM vO vN vD vA tm k1 k2 k3 k4 k5 qi qt qc qp) (hw : f_X9_within b 0 (lc - 1) = true) (a : rm ≤ 0) : f_X9_weigh b lc lr rm qt qc = (qt (bxa lr b.toNatClampNeg)) + (qc (bxa lr b.toNatClampNeg)) ∧ (f_X9_check b lc lr rm qc qp).1 = (qp (bxa lr b.toNatClampNeg)) - (qc (bxa lr b.toNatClampNeg)) ∧ (f_X9_check b lc lr rm qc qp).2 (bxa lr b.toNatClampNeg) = qc (bxa lr b.toNatClampNeg) ∧ JJ B Tm L lc lr rc rl rm rd ro sf vT vG vM vO vN vD vA tm k1 k2 k3 k4 k5 qi qt qc (f_X9_check b lc lr rm qc qp).2 := by
  have hq : ¬ (some (bxa lr b.toNatClampNeg)) = none := fun q => by cases q
  have e : ¬ f_X4_isOnTheWay rm = true := by rw [f_X4_isOnTheWay, if_pos a]; decide
  have e1 : f_X9_weigh b lc lr rm qt qc = (qt (bxa lr b.toNatClampNeg)) + (qc (bxa lr b.toNatClampNeg)) := by
    rw [f_X9_weigh, boxAt_w hw, if_neg hq, if_neg e]; rfl
  have e2 : f_X9_check b lc lr rm qc qp = ((qp (bxa lr b.toNatClampNeg)) - (qc (bxa lr b.toNatClampNeg)), va_up qp (bxa lr b.toNatClampNeg) (qc (bxa lr b.toNatClampNeg))) := by
    rw [f_X9_check, boxAt_w hw, if_neg hq, if_neg e]; rfl
  rw [e2]
  refine ⟨e1, rfl, va_up_self _ _ _, ?_⟩
  have hk := wk_n h hw
  obtain ⟨hR, hX, hW, hS, hH, hA⟩ := h
  refine ⟨hR, fun k hk2 => ?_, hW, hS, hH, hA⟩
  obtain ⟨x1, x2, x3, x4⟩ := hX k hk2
  refine ⟨x1, x2, x3, ?_⟩
  show 0 ≤ (va_up qp (bxa lr b.toNatClampNeg) (qc (bxa lr b.toNatClampNeg)) (bxa lr k)).toInt ∧ (va_up qp (bxa lr b.toNatClampNeg) (qc (bxa lr b.toNatClampNeg)) (bxa lr k)).toInt ≤ 3000000
  by_cases q : bxa lr k = bxa lr b.toNatClampNeg
  · rw [q, va_up_self]; exact (hX _ hk).2.2.1
  · rw [va_up_ne _ _ q]; exact x4
-- shift
theorem sh_none {b t : Int32} (hc : okC lc 10) (c : lc ≤ b) : f_X9_shift b t lc lr qc = (-1, lr) := by
  rw [f_X9_shift, if_pos (no_at hc c)]
theorem sh_to {b t : Int32} (hc : okC lc 10) (hw : f_X9_within b 0 (lc - 1) = true) (c : lc ≤ t) : f_X9_shift b t lc lr qc = (-1, lr) := by
  rw [f_X9_shift, boxAt_w hw, if_neg sn, if_pos (no_at hc c)]
theorem sh_ok {b t : Int32} (h : JJ B Tm L lc lr rc rl rm rd ro sf vT vG vM vO vN vD vA tm k1 k2 k3 k4 k5 qi qt qc qp) (hw : f_X9_within b 0 (lc - 1) = true) (ht : f_X9_within t 0 (lc - 1) = true) : (f_X9_shift b t lc lr qc).1 = qc (bxa lr b.toNatClampNeg) ∧ bxa (f_X9_shift b t lc lr qc).2 t.toNatClampNeg = bxa lr b.toNatClampNeg ∧ (b.toInt < t.toInt → bxa (f_X9_shift b t lc lr qc).2 (t - 1).toNatClampNeg = bxa lr t.toNatClampNeg ∧ f_X9_within (t - 1) 0 (lc - 1) = true) ∧ (t.toInt < b.toInt → bxa (f_X9_shift b t lc lr qc).2 (t + 1).toNatClampNeg = bxa lr t.toNatClampNeg ∧ f_X9_within (t + 1) 0 (lc - 1) = true) ∧ JJ B Tm L lc (f_X9_shift b t lc lr qc).2 rc rl rm rd ro sf vT vG vM vO vN vD vA tm k1 k2 k3 k4 k5 qi qt qc qp := by
  have hq : ¬ (some (bxa lr b.toNatClampNeg)) = none := fun q => by cases q
  have hq2 : ¬ (some (bxa lr t.toNatClampNeg)) = none := fun q => by cases q
  have e : f_X9_shift b t lc lr qc = (qc (bxa lr b.toNatClampNeg), f_X2_move b t lc lr) := by
    rw [f_X9_shift, boxAt_w hw, if_neg hq, boxAt_w ht, if_neg hq2]; rfl
  rw [e]
  have hc := j_c h
  have g0 := (wi_k hc).mp hw
  have g1 := (wi_k hc).mp ht
  have h10 := hc.2
  have eb : b.toNatClampNeg = b.toInt.toNat := rfl
  have et : t.toNatClampNeg = t.toInt.toNat := rfl
  have e1 := xI1
  have hJR := mv_inj h hw ht
  obtain ⟨hR, hX, hW, hS, hH, hA⟩ := h
  obtain ⟨a1, a2, a3, a4, a5, a6⟩ := hA
  show qc (bxa lr b.toNatClampNeg) = qc (bxa lr b.toNatClampNeg) ∧ bxa (f_X2_move b t lc lr) t.toNatClampNeg = bxa lr b.toNatClampNeg ∧ (b.toInt < t.toInt → bxa (f_X2_move b t lc lr) (t - 1).toNatClampNeg = bxa lr t.toNatClampNeg ∧ f_X9_within (t - 1) 0 (lc - 1) = true) ∧ (t.toInt < b.toInt → bxa (f_X2_move b t lc lr) (t + 1).toNatClampNeg = bxa lr t.toNatClampNeg ∧ f_X9_within (t + 1) 0 (lc - 1) = true) ∧ JJ B Tm L lc (f_X2_move b t lc lr) rc rl rm rd ro sf vT vG vM vO vN vD vA tm k1 k2 k3 k4 k5 qi qt qc qp
  rw [eb, et]
  by_cases c : b.toInt ≤ t.toInt
  · have hrow := mv_rowU (lr := lr) hc hw ht c
    have r1 : bxa (f_X2_move b t lc lr) t.toInt.toNat = bxa lr b.toInt.toNat := by
      rw [hrow _ (by omega)]; unfold pmU; rw [if_pos rfl]
    refine ⟨rfl, r1, fun q => ?_, fun q => absurd q (by omega), hJR, fun k hk => ?_, hW, hS, hH, ?_, a2, a3, a4, a5, a6⟩
    · have s1 : (t - 1).toInt = t.toInt - 1 := by rw [xsubI (by omega) (by omega), e1]
      have s2 : (t - 1).toNatClampNeg = t.toInt.toNat - 1 := by show (t - 1).toInt.toNat = _; omega
      refine ⟨?_, (wi_k hc).mpr ⟨by omega, by omega⟩⟩
      rw [s2, hrow _ (by omega)]
      unfold pmU
      rw [if_neg (by omega), if_pos (by omega), show t.toInt.toNat - 1 + 1 = t.toInt.toNat by omega]
    · rw [hrow k (by omega)]
      exact hX _ (by have := pmU_lt (n := lc.toInt.toNat) (a := b.toInt.toNat) (t := t.toInt.toNat) (k := k) (by omega) (by omega) (by omega); omega)
    · have e7 : smC (f_X2_move b t lc lr) qc lc.toInt.toNat = sm (fun k => (fun j => (qc (bxa lr j)).toInt) (pmU b.toInt.toNat t.toInt.toNat k)) lc.toInt.toNat := sm_ext fun k hk => by
        show (qc (bxa (f_X2_move b t lc lr) k)).toInt = _
        rw [hrow k (by omega)]
      rw [e7, sm_U (f := fun j => (qc (bxa lr j)).toInt) (a := b.toInt.toNat) (t := t.toInt.toNat) (by omega) (by omega)]
      exact a1
  · have hrow := mv_rowD (lr := lr) hc hw ht (by omega)
    have r1 : bxa (f_X2_move b t lc lr) t.toInt.toNat = bxa lr b.toInt.toNat := by
      rw [hrow _ (by omega)]; unfold pmD; rw [if_pos rfl]
    refine ⟨rfl, r1, fun q => absurd q (by omega), fun q => ?_, hJR, fun k hk => ?_, hW, hS, hH, ?_, a2, a3, a4, a5, a6⟩
    · have s1 : (t + 1).toInt = t.toInt + 1 := by rw [xaddI (by omega) (by omega), e1]
      have s2 : (t + 1).toNatClampNeg = t.toInt.toNat + 1 := by show (t + 1).toInt.toNat = _; omega
      refine ⟨?_, (wi_k hc).mpr ⟨by omega, by omega⟩⟩
      rw [s2, hrow _ (by omega)]
      unfold pmD
      rw [if_neg (by omega), if_pos (by omega), show t.toInt.toNat + 1 - 1 = t.toInt.toNat by omega]
    · rw [hrow k (by omega)]
      exact hX _ (by have := pmD_lt (n := lc.toInt.toNat) (a := b.toInt.toNat) (t := t.toInt.toNat) (k := k) (by omega) (by omega); omega)
    · have e7 : smC (f_X2_move b t lc lr) qc lc.toInt.toNat = sm (fun k => (fun j => (qc (bxa lr j)).toInt) (pmD b.toInt.toNat t.toInt.toNat k)) lc.toInt.toNat := sm_ext fun k hk => by
        show (qc (bxa (f_X2_move b t lc lr) k)).toInt = _
        rw [hrow k (by omega)]
      rw [e7, sm_D (f := fun j => (qc (bxa lr j)).toInt) (a := b.toInt.toNat) (t := t.toInt.toNat) (by omega) (by omega)]
      exact a1
end BX
