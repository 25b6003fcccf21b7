/-! what the reference keeps, method by method: its invariant, its settings, mode and time -/
theorem tj {x y : Int32} (h : x.toInt = y.toInt) : x = y := Int32.toInt_inj.mp h
theorem tjL {x y : Int64} (h : x.toInt = y.toInt) : x = y := Int64.toInt_inj.mp h
theorem xaddL {x y : Int64} (h1 : -9223372036854775808 ≤ x.toInt + y.toInt) (h2 : x.toInt + y.toInt < 9223372036854775808) : (x + y).toInt = x.toInt + y.toInt := by
  rw [Int64.toInt_add, Int.bmod_eq_of_le (by omega) (by omega)]
theorem xsubL {x y : Int64} (h1 : -9223372036854775808 ≤ x.toInt - y.toInt) (h2 : x.toInt - y.toInt < 9223372036854775808) : (x - y).toInt = x.toInt - y.toInt := by
  rw [Int64.toInt_sub, Int.bmod_eq_of_le (by omega) (by omega)]
theorem xL0 : (0 : Int64).toInt = 0 := by decide
theorem xL1 : (1 : Int64).toInt = 1 := by decide
/-- settings and mode -/
def kS (j : Nat) : Bool := (decide (64 ≤ j) && decide (j < 75)) || j == 80
/-- settings, mode and time -/
def kT (j : Nat) : Bool := kS j || j == 77
theorem kT_r {j : Nat} (h : kT j = true) : (64 ≤ j ∧ j < 75) ∨ j = 80 ∨ j = 77 := by
  simp only [kT, kS, Bool.or_eq_true, Bool.and_eq_true, decide_eq_true_eq, beq_iff_eq] at h
  omega
theorem kS_r {j : Nat} (h : kS j = true) : (64 ≤ j ∧ j < 75) ∨ j = 80 := by
  simp only [kS, Bool.or_eq_true, Bool.and_eq_true, decide_eq_true_eq, beq_iff_eq] at h
  omega
theorem kS_T {j : Nat} (h : kS j = true) : kT j = true := by rw [kT, h]; rfl
theorem kT_f {j : Nat} (h : ¬ ((64 ≤ j ∧ j < 75) ∨ j = 80 ∨ j = 77)) : kT j = false := by
  cases e : kT j with
  | false => rfl
  | true => exact absurd (kT_r e) h
theorem kT_lo {j : Nat} (h : j < 64) : kT j = false := kT_f (by omega)
theorem kT_km {j : Nat} (h : kT j = true) : xkm j = true := by
  have h1 := kT_r h
  simp only [xkm, Bool.not_eq_true', Bool.or_eq_false_iff, Bool.and_eq_false_iff, beq_eq_false_iff_ne, decide_eq_false_iff_not]
  omega
theorem kS_km2 {j : Nat} (h : kS j = true) : xkm2 j = true := by
  have h1 := kS_r h
  simp only [xkm2, xkm, Bool.and_eq_true, Bool.not_eq_true', Bool.or_eq_false_iff, Bool.and_eq_false_iff, beq_eq_false_iff_ne, decide_eq_false_iff_not]
  omega
def KQ (f g : Nat → Int64) : Prop := okM g ∧ xsm kT f g
theorem kq_r {f : Nat → Int64} (h : okM f) : KQ f f := ⟨h, xsm_r⟩
theorem ks_lay {f g : Nat → Int64} {a k : Int32} {v : Int64} (ha : 0 ≤ a.toInt ∧ a.toInt < 10) (hk : 0 ≤ k.toInt ∧ k.toInt < 4) (h : xsm kT f g) : xsm kT f (f_X10_lay a k v g) := by
  unfold f_X10_lay
  exact xsm_u (kT_lo (by rw [ix_n ha hk]; omega)) h
theorem okM_add {f : Nat → Int64} {n : Int32} {v : Int64} (h : okM f) (hn : n.toInt = (f 75).toInt ∧ 0 ≤ n.toInt ∧ n.toInt < 10) (hv : 1 ≤ v.toInt ∧ v.toInt ≤ 100) : okM (f_X10_lay n 0 v (vp_updL f 75 (f 75 + 1))) := by
  obtain ⟨h1, h2, h3, h4, h5, h6, h7, h8⟩ := h
  unfold f_X10_lay
  have e0 : (0 : Int32).toInt = 0 := by decide
  have hi : (0 + 4 * n + 0).toNatClampNeg = 4 * n.toInt.toNat := by rw [ix_n hn.2 ⟨by decide, by decide⟩, e0]; omega
  rw [hi]
  have e : ∀ j, j ≠ 4 * n.toInt.toNat → j ≠ 75 → vp_updL (vp_updL f 75 (f 75 + 1)) (4 * n.toInt.toNat) v j = f j := fun j q1 q2 => by rw [uL_ne q1, uL_ne q2]
  have e1 := xL1
  have e75 : (vp_updL (vp_updL f 75 (f 75 + 1)) (4 * n.toInt.toNat) v 75).toInt = (f 75).toInt + 1 := by
    rw [uL_ne (by omega), uL_eq, xaddL (by omega) (by omega), e1]
  refine ⟨by rw [e75]; omega, by rw [e 76 (by omega) (by omega)]; exact h2, by rw [e 84 (by omega) (by omega)]; exact h3, by rw [e 65 (by omega) (by omega)]; exact h4, by rw [e 73 (by omega) (by omega)]; exact h5, by rw [e 74 (by omega) (by omega)]; exact h6, by rw [e 86 (by omega) (by omega), e 84 (by omega) (by omega)]; exact h7, fun b hb => ?_⟩
  rw [e75] at hb
  by_cases q : b = n.toInt.toNat
  · subst q; rw [uL_eq]; exact hv
  · rw [e (4 * b) (by omega) (by omega)]; exact h8 b (by omega)
theorem kq_load {a b c : Int32} {f : Nat → Int64} (h : okM f) : KQ f (f_X10_load a b c f).2 := by
  unfold f_X10_load
  by_cases c1 : f_X10_in a.toInt64 1 100 = true
  · rw [if_pos c1]
    by_cases c2 : f_X10_in b.toInt64 0 5000000 = true
    · rw [if_pos c2]
      by_cases c3 : f_X10_in c.toInt64 0 20000000 = true
      · rw [if_pos c3]
        by_cases c4 : f_X10_boxes f = 10
        · rw [if_pos c4]; exact kq_r h
        · rw [if_neg c4]
          by_cases c5 : f_X10_isDoorOpen f = true
          · rw [if_pos c5]
            have hn := load_b h c4
            have hv := in_iff.mp c1
            have hb : (f_X10_boxes f).toInt = (f 75).toInt := okM_nb h
            have g0 := okM_add (v := a.toInt64) h ⟨hb, hn⟩ hv
            have s0 : xsm kT f (f_X10_lay (f_X10_boxes f) 0 a.toInt64 (vp_updL f 75 (f 75 + 1))) := ks_lay hn ⟨by decide, by decide⟩ (xsm_u rfl xsm_r)
            refine ⟨okM_u rfl (okM_lay hn (Or.inr (Or.inr rfl)) (okM_lay hn (Or.inr (Or.inl rfl)) (okM_lay hn (Or.inl rfl) g0))), xsm_u rfl (ks_lay hn ⟨by decide, by decide⟩ (ks_lay hn ⟨by decide, by decide⟩ (ks_lay hn ⟨by decide, by decide⟩ s0)))⟩
          · rw [if_neg c5]; exact kq_r h
      · rw [if_neg c3]; exact kq_r h
    · rw [if_neg c2]; exact kq_r h
  · rw [if_neg c1]; exact kq_r h
/-- with the count that it had before one was taken out -/
def okD (m : Int64) (f : Nat → Int64) : Prop := okM (vp_updL f 75 m)
theorem okD_m {m : Int64} {f : Nat → Int64} (h : okD m f) (h0 : 0 ≤ (f 75).toInt ∧ (f 75).toInt ≤ m.toInt) : okM f := by
  obtain ⟨h1, h2, h3, h4, h5, h6, h7, h8⟩ := h
  have e : ∀ j, j ≠ 75 → vp_updL f 75 m j = f j := fun j q => uL_ne q
  rw [e 76 (by decide)] at h2
  rw [e 84 (by decide)] at h3
  rw [e 65 (by decide)] at h4
  rw [e 73 (by decide)] at h5
  rw [e 74 (by decide)] at h6
  rw [e 86 (by decide), e 84 (by decide)] at h7
  rw [uL_eq] at h1 h8
  refine ⟨by omega, h2, h3, h4, h5, h6, h7, fun b hb => ?_⟩
  have h9 := h8 b (by omega)
  rw [e _ (by omega)] at h9
  exact h9
theorem unl_n {x : Int32} (h : 0 ≤ x.toInt ∧ x.toInt < 40) : (0 + x).toNatClampNeg = x.toInt.toNat ∧ (0 + x + 4).toNatClampNeg = x.toInt.toNat + 4 := by
  have e4 : (4 : Int32).toInt = 4 := by decide
  refine ⟨?_, ?_⟩
  · show (0 + x).toInt.toNat = _
    rw [Int32.zero_add]
  · show (0 + x + 4).toInt.toNat = _
    rw [Int32.zero_add, xaddI (by rw [e4]; omega) (by rw [e4]; omega), e4]; omega
theorem okD_st {m : Int64} {f : Nat → Int64} {x : Int32} (h : okD m f) (hx : 0 ≤ x.toInt ∧ x.toInt + 4 < 4 * m.toInt) (hm : m.toInt ≤ 10) : okD m (vp_updL f (0 + x).toNatClampNeg (f (0 + x + 4).toNatClampNeg)) := by
  have hn := unl_n (x := x) (by omega)
  rw [hn.1, hn.2]
  obtain ⟨h1, h2, h3, h4, h5, h6, h7, h8⟩ := h
  have e : ∀ j, j ≠ x.toInt.toNat → vp_updL (vp_updL f x.toInt.toNat (f (x.toInt.toNat + 4))) 75 m j = vp_updL f 75 m j := fun j q => by
    unfold vp_updL
    by_cases q2 : j = 75
    · rw [if_pos q2, if_pos q2]
    · rw [if_neg q2, if_neg q2, if_neg q]
  refine ⟨by rw [e 75 (by omega)]; exact h1, by rw [e 76 (by omega)]; exact h2, by rw [e 84 (by omega)]; exact h3, by rw [e 65 (by omega)]; exact h4, by rw [e 73 (by omega)]; exact h5, by rw [e 74 (by omega)]; exact h6, by rw [e 86 (by omega), e 84 (by omega)]; exact h7, fun b hb => ?_⟩
  rw [e 75 (by omega)] at hb
  by_cases q : 4 * b = x.toInt.toNat
  · rw [q, uL_ne (by omega), uL_eq]
    have h9 := h8 (b + 1) (by rw [uL_eq] at hb ⊢; omega)
    rw [uL_ne (by omega)] at h9
    rw [← q]
    exact h9
  · rw [e _ q]; exact h8 b hb
theorem kq_unl_lp {a0 : Int32} {f0 : Nat → Int64} {m : Int64} (hm : 1 ≤ m.toInt ∧ m.toInt ≤ 10) : ∀ (n : Nat) (x : Int32) (f yf : Nat → Int64), okD m yf → xsm kT f yf → (yf 75).toInt = m.toInt - 1 → 0 ≤ x.toInt → (40 - x.toInt).toNat < n → KQ f (f_X10_unload_lp55 a0 f0 n x yf).2 := by
  intro n
  induction n with
  | zero => intro x f yf _ _ _ _ h; exact absurd h (Nat.not_lt_zero _)
  | succ n ih =>
    intro x f yf hd hs h75 h0 hn
    have hB : okB yf := okM_B (okD_m hd (by omega))
    rw [f_X10_unload_lp55]
    by_cases c : 4 * f_X10_boxes yf ≤ x
    · rw [if_pos c]
      have hz : okM yf := okD_m hd (by omega)
      exact ⟨hz, hs⟩
    · rw [if_neg c]
      have hx := unl_lt hB h0 c
      have h4 := okB_4 hB
      have hc := xnle.mp c
      refine ih _ f _ (okD_st hd ⟨h0, by omega⟩ hm.2) (xsm_u (kT_lo (by rw [(unl_n hx).1]; omega)) hs) (by rw [unl_75 hx]; exact h75) ?_ (un_mu hx hn)
      have e1 := xI1
      rw [xaddI (by omega) (by omega)]; omega
theorem kq_unload {a : Int32} {f : Nat → Int64} (h : okM f) : KQ f (f_X10_unload a f).2 := by
  unfold f_X10_unload
  by_cases c1 : f_X10_isBox a f = true
  · rw [if_pos c1]
    by_cases c2 : f_X10_isDoorOpen f = true
    · rw [if_pos c2]
      have hb := isBox_in c1 h
      have h1 := h.1
      have e1 := xL1
      have e75 : (f 75 - 1).toInt = (f 75).toInt - 1 := by rw [xsubL (by omega) (by omega), e1]
      refine kq_unl_lp (m := f 75) ⟨by omega, by omega⟩ _ _ _ _ ?_ (xsm_u rfl (xsm_u rfl xsm_r)) (by rw [uL_eq]; exact e75) (ub_0 h c1) (Nat.lt_succ_self _)
      refine okM_ag h fun j hj => ?_
      by_cases q : j = 75
      · subst q; rw [uL_eq]
      · rw [uL_ne q, uL_ne q, uL_ne fun q2 => by rw [q2] at hj; cases hj]
    · rw [if_neg c2]; exact kq_r h
  · rw [if_neg c1]; exact kq_r h
theorem ks_sw_lp (a b : Int32) (ha : 0 ≤ a.toInt ∧ a.toInt < 10) (hb : 0 ≤ b.toInt ∧ b.toInt < 10) : ∀ (n : Nat) (xi : Int32) (f yf : Nat → Int64), xsm kT f yf → 0 ≤ xi.toInt → ((4 : Int32).toInt - xi.toInt).toNat < n → xsm kT f (f_X10_swap_lp2 a b n xi yf) := by
  intro n
  induction n with
  | zero => intro xi f yf _ _ h; exact absurd h (Nat.not_lt_zero _)
  | succ n ih =>
    intro xi f yf hs h0 hn
    rw [f_X10_swap_lp2]
    by_cases c : 4 ≤ xi
    · rw [if_pos c]; exact hs
    · rw [if_neg c]
      have hk := sw_k h0 c
      exact ih _ f _ (ks_lay hb hk (ks_lay ha hk hs)) (up_0 h0 c) (up_mu c hn)
theorem ks_swap {a b : Int32} {f g : Nat → Int64} (ha : 0 ≤ a.toInt ∧ a.toInt < 10) (hb : 0 ≤ b.toInt ∧ b.toInt < 10) (h : xsm kT f g) : xsm kT f (f_X10_swap a b g) :=
  ks_sw_lp a b ha hb _ _ f g h (by decide) (Nat.lt_succ_self _)
theorem ks_mv23 (t : Int32) (ht : 0 ≤ t.toInt ∧ t.toInt < 10) : ∀ (n : Nat) (xi : Int32) (f yf : Nat → Int64), xsm kT f yf → (0 ≤ xi.toInt ∧ xi.toInt < 10) → (xi.toInt - t.toInt).toNat < n → xsm kT f (f_X10_move_lp23 t n xi yf) := by
  intro n
  induction n with
  | zero => intro xi f yf _ _ h; exact absurd h (Nat.not_lt_zero _)
  | succ n ih =>
    intro xi f yf hs hx hn
    rw [f_X10_move_lp23]
    by_cases c : xi ≤ t
    · rw [if_pos c]; exact hs
    · rw [if_neg c]
      exact ih _ f _ (ks_swap hx (mv_ds hx ht c) hs) (mv_dn hx ht c) (dn_mu c hn)
theorem ks_mv2 (a t : Int32) (ha : 0 ≤ a.toInt ∧ a.toInt < 10) (ht : 0 ≤ t.toInt ∧ t.toInt < 10) : ∀ (n : Nat) (xi : Int32) (f yf : Nat → Int64), xsm kT f yf → (0 ≤ xi.toInt ∧ xi.toInt < 10) → (t.toInt - xi.toInt).toNat < n → xsm kT f (f_X10_move_lp2 a t n xi yf) := by
  intro n
  induction n with
  | zero => intro xi f yf _ _ h; exact absurd h (Nat.not_lt_zero _)
  | succ n ih =>
    intro xi f yf hs hx hn
    rw [f_X10_move_lp2]
    by_cases c : t ≤ xi
    · rw [if_pos c]; exact ks_mv23 t ht _ _ f _ hs ha (Nat.lt_succ_self _)
    · rw [if_neg c]
      exact ih _ f _ (ks_swap hx (mv_up hx ht c) hs) (mv_up hx ht c) (up_mu c hn)
theorem ks_move {a t : Int32} {f g : Nat → Int64} (ha : 0 ≤ a.toInt ∧ a.toInt < 10) (ht : 0 ≤ t.toInt ∧ t.toInt < 10) (h : xsm kT f g) : xsm kT f (f_X10_move a t g) :=
  ks_mv2 a t ha ht _ _ f g h ha (Nat.lt_succ_self _)
theorem isBox_75 {a : Int32} {f : Nat → Int64} (h : f_X10_isBox a f = true) (hok : okM f) : 0 ≤ a.toInt ∧ a.toInt < (f 75).toInt := ⟨(isBox_in h hok).1, (isBox_in h hok).2.1⟩
theorem kq_shift {a b : Int32} {f : Nat → Int64} (h : okM f) : KQ f (f_X10_shift a b f).2 := by
  unfold f_X10_shift
  by_cases c1 : f_X10_isBox a f = true
  · rw [if_pos c1]
    by_cases c2 : f_X10_isBox b f = true
    · rw [if_pos c2]
      exact ⟨(okM_move h (isBox_75 c1 h) (isBox_75 c2 h)).1, ks_move (isBox_10 c1 h) (isBox_10 c2 h) xsm_r⟩
    · rw [if_neg c2]; exact kq_r h
  · rw [if_neg c1]; exact kq_r h
theorem kq_leg {a b : Int32} {f : Nat → Int64} (h : okM f) : KQ f (f_X10_leg a b f).2 := by
  unfold f_X10_leg
  by_cases c1 : f_X10_in a.toInt64 1 600 = true
  · rw [if_pos c1]
    by_cases c2 : f_X10_in b.toInt64 (-4000) 5000 = true
    · rw [if_pos c2]
      by_cases c3 : f_X10_legs f = 12
      · rw [if_pos c3]; exact kq_r h
      · rw [if_neg c3]
        have hl := leg_ok h c3
        have h76 : (f_X10_legs f).toInt = (f 76).toInt := okM_nl h
        have hn := rl_n h (by omega)
        have hg : ∀ k, (k < 40 ∨ 64 ≤ k) → vp_updL (vp_updL f (40 + 2 * f_X10_legs f).toNatClampNeg a.toInt64) (40 + 2 * f_X10_legs f + 1).toNatClampNeg b.toInt64 k = f k := fun k hk => by
          rw [uL_ne (by omega), uL_ne (by omega)]
        refine ⟨(rl_k h (by omega) hg).1, xsm_u rfl fun j hj => hg j (by have := kT_r hj; omega)⟩
    · rw [if_neg c2]; exact kq_r h
  · rw [if_neg c1]; exact kq_r h
theorem okM_76 {f : Nat → Int64} {v : Int64} (h : okM f) (hv : 0 ≤ v.toInt ∧ v.toInt ≤ 12) : okM (vp_updL f 76 v) := by
  obtain ⟨h1, h2, h3, h4, h5, h6, h7, h8⟩ := h
  refine ⟨by rw [uL_ne (by decide)]; exact h1, by rw [uL_eq]; exact hv, by rw [uL_ne (by decide)]; exact h3, by rw [uL_ne (by decide)]; exact h4, by rw [uL_ne (by decide)]; exact h5, by rw [uL_ne (by decide)]; exact h6, by rw [uL_ne (by decide), uL_ne (by decide)]; exact h7, fun b hb => ?_⟩
  rw [uL_ne (by decide)] at hb
  have h9 := h8 b hb
  have hq : (f 75).toInt ≤ 10 := h1.2
  rw [uL_ne (by omega)]; exact h9
theorem kq_cut {f : Nat → Int64} (h : okM f) : KQ f (f_X10_cut f).2 := by
  unfold f_X10_cut
  by_cases c1 : f_X10_legs f = 0
  · rw [if_pos c1]; exact kq_r h
  · rw [if_neg c1]
    by_cases c2 : f 84 = (f_X10_legs f - 1).toInt64
    · rw [if_pos c2]; exact kq_r h
    · rw [if_neg c2]
      have h76 : (f_X10_legs f).toInt = (f 76).toInt := okM_nl h
      have hne : (f_X10_legs f).toInt ≠ 0 := fun q => c1 (tj (by rw [q, xI0]))
      have h2 := h.2.1
      have e1 := xL1
      exact ⟨okM_76 h (by rw [xsubL (by omega) (by omega), e1]; omega), xsm_u rfl xsm_r⟩
theorem kq_depart {f : Nat → Int64} (h : okM f) : KQ f (f_X10_depart f).2 := by
  unfold f_X10_depart
  by_cases c1 : f_X10_isAway f = true
  · rw [if_pos c1]; exact kq_r h
  · rw [if_neg c1]
    by_cases c2 : f_X10_isDoorOpen f = true
    · rw [if_pos c2]; exact kq_r h
    · rw [if_neg c2]
      by_cases c3 : f_X10_hasNext f = true
      · rw [if_pos c3]
        exact ⟨okM_begin h (hasNext_lt h c3), by show xsm kT f (f_X10_begin f); unfold f_X10_begin; exact xsm_u rfl (xsm_u rfl (xsm_u rfl xsm_r))⟩
      · rw [if_neg c3]; exact kq_r h
theorem kq_openVent {f : Nat → Int64} (h : okM f) : KQ f (f_X10_openVent f) := ⟨okM_sm h sm_openVent, xsm_w sm_openVent fun _ => kT_km⟩
theorem kq_open {f : Nat → Int64} (h : okM f) : KQ f (f_X10_open f).2 := by
  unfold f_X10_open
  by_cases c1 : f_X10_isAway f = true
  · rw [if_pos c1]; exact kq_r h
  · rw [if_neg c1]
    by_cases c2 : f_X10_isDoorOpen f = true
    · rw [if_pos c2]; exact kq_r h
    · rw [if_neg c2]
      by_cases c3 : (f_X10_concentration f).toInt64 < f 72
      · rw [if_pos c3]; exact ⟨okM_u rfl h, xsm_u rfl xsm_r⟩
      · rw [if_neg c3]; exact kq_openVent h
theorem kq_shut {f : Nat → Int64} (h : okM f) : KQ f (f_X10_shut f).2 := by
  unfold f_X10_shut
  by_cases c2 : f_X10_isDoorOpen f = true
  · rw [if_pos c2]; exact ⟨okM_u rfl h, xsm_u rfl xsm_r⟩
  · rw [if_neg c2]; exact kq_r h
theorem kq_sell {a : Int32} {f : Nat → Int64} (h : okM f) : KQ f (f_X10_sell a f).2 := by
  unfold f_X10_sell
  by_cases c1 : f_X10_in a.toInt64 1 50000000 = true
  · rw [if_pos c1]
    by_cases c2 : f_X10_isDoorOpen f = true
    · rw [if_pos c2]
      by_cases c3 : a.toInt64 ≤ f_X10_allIce f
      · rw [if_pos c3]
        have h1 : okM (vp_updL f 91 (f 91 + a.toInt64)) := okM_u rfl h
        exact ⟨okM_sm h1 (sm_take (okM_B h1)), xsm_t (xsm_u rfl xsm_r) (xsm_w (sm_take (okM_B h1)) fun _ => kT_km)⟩
      · rw [if_neg c3]; exact kq_r h
    · rw [if_neg c2]; exact kq_r h
  · rw [if_neg c1]; exact kq_r h
theorem kq_spill {a b : Int32} {f : Nat → Int64} (h : okM f) : KQ f (f_X10_spill a b f).2 := by
  unfold f_X10_spill
  by_cases c1 : f_X10_isBox a f = true
  · rw [if_pos c1]
    by_cases c2 : f_X10_in b.toInt64 1 20000000 = true
    · rw [if_pos c2]
      by_cases c3 : b.toInt64 ≤ f_X10_of a 2 f
      · rw [if_pos c3]
        exact ⟨okM_u rfl (okM_lay (isBox_10 c1 h) (Or.inr (Or.inl rfl)) h), xsm_u rfl (ks_lay (isBox_10 c1 h) ⟨by decide, by decide⟩ xsm_r)⟩
      · rw [if_neg c3]; exact kq_r h
    · rw [if_neg c2]; exact kq_r h
  · rw [if_neg c1]; exact kq_r h
theorem kq_check {a : Int32} {f : Nat → Int64} (h : okM f) : KQ f (f_X10_check a f).2 := by
  unfold f_X10_check
  by_cases c1 : f_X10_isBox a f = true
  · rw [if_pos c1]
    by_cases c2 : f_X10_isAway f = true
    · rw [if_pos c2]; exact kq_r h
    · rw [if_neg c2]
      exact ⟨okM_lay (isBox_10 c1 h) (Or.inr (Or.inr rfl)) h, ks_lay (isBox_10 c1 h) ⟨by decide, by decide⟩ xsm_r⟩
  · rw [if_neg c1]; exact kq_r h
theorem kq_93 {f g : Nat → Int64} (h : okM f) (e : ∀ k, k < 93 → g k = f k) : KQ f g := ⟨okM_93 h e, fun j hj => e j (by have := kT_r hj; omega)⟩
theorem pp_k {f g x : Nat → Int64} {k : Nat} (hk : k < 93) : f_X10_putBack x (f_X10_putAside f g) k = f k := by rw [pb_k hk, pa_k hk]
theorem e93_worst_lp (a0 : Int32) (f g : Nat → Int64) : ∀ (n : Nat) (ym xi : Int32) (yf : Nat → Int64), (a0.toInt - xi.toInt).toNat < n → ∀ k, k < 93 → (f_X10_worst_lp23 a0 f g n ym xi yf).2.1 k = f k := by
  intro n
  induction n with
  | zero => intro ym xi yf h; exact absurd h (Nat.not_lt_zero _)
  | succ n ih =>
    intro ym xi yf hn k hk
    rw [f_X10_worst_lp23]
    by_cases c : a0 ≤ xi
    · rw [if_pos c]; dsimp only; exact pp_k hk
    · rw [if_neg c, f_X10_worst_k1]
      by_cases c2 : f_X10_concentration (f_X10_makeMinute yf) ≤ ym
      · rw [if_pos c2]; exact ih _ _ _ (up_mu c hn) k hk
      · rw [if_neg c2]; exact ih _ _ _ (up_mu c hn) k hk
theorem kq_worst {a : Int32} {f g : Nat → Int64} (h : okM f) : KQ f (f_X10_worst a f g).2.1 := by
  unfold f_X10_worst
  by_cases c1 : f_X10_in a.toInt64 1 1000 = true
  · rw [if_pos c1]; exact kq_93 h (e93_worst_lp a f g _ _ _ _ (Nat.lt_succ_self _))
  · rw [if_neg c1]; exact kq_r h
theorem e93_purge_lp (a0 : Int32) (f g : Nat → Int64) : ∀ (n : Nat) (yn : Int32) (yf : Nat → Int64), (a0.toInt - yn.toInt).toNat < n → ∀ k, k < 93 → (f_X10_purge_lp34 a0 f g n yn yf).2.1 k = f k := by
  intro n
  induction n with
  | zero => intro yn yf h; exact absurd h (Nat.not_lt_zero _)
  | succ n ih =>
    intro yn yf hn k hk
    rw [f_X10_purge_lp34]
    by_cases c1 : (f_X10_concentration yf).toInt64 < yf 72
    · rw [if_pos c1]
      by_cases c2 : yf 72 ≤ (f_X10_concentration yf).toInt64
      · rw [if_pos c2]; dsimp only; exact pp_k hk
      · rw [if_neg c2]; dsimp only; exact pp_k hk
    · rw [if_neg c1]
      by_cases c : a0 ≤ yn
      · rw [if_pos c]
        by_cases c2 : yf 72 ≤ (f_X10_concentration yf).toInt64
        · rw [if_pos c2]; dsimp only; exact pp_k hk
        · rw [if_neg c2]; dsimp only; exact pp_k hk
      · rw [if_neg c, f_X10_purge_k2]; exact ih _ _ (up_mu c hn) k hk
theorem kq_purge {a : Int32} {f g : Nat → Int64} (h : okM f) : KQ f (f_X10_purge a f g).2.1 := by
  unfold f_X10_purge
  by_cases c1 : f_X10_in a.toInt64 1 1000 = true
  · rw [if_pos c1, f_X10_purge_k1]; exact kq_93 h (e93_purge_lp a f g _ _ _ (Nat.lt_succ_self _))
  · rw [if_neg c1]; exact kq_r h
theorem at_step {f g : Nat → Int64} (hok : okM f) (hn : f_X10_hasNext f = true) (h1 : xsm xkm2 f g) (hg : okM g) {k : Nat} (hm : ((f 76).toInt - (f 84).toInt).toNat < k + 1) : okM (f_X10_goToStop (f_X10_begin g)) ∧ ((f_X10_goToStop (f_X10_begin g) 76).toInt - (f_X10_goToStop (f_X10_begin g) 84).toInt).toNat < k := by
  have hb := okM_bg hok hn h1 hg
  obtain ⟨hs1, hs2⟩ := sm_stop hb
  have h3 := begin_84 hg
  have h4 := hasNext_lt hok hn
  refine ⟨hs1, ?_⟩
  rw [hs2 76 rfl, hs2 84 rfl, h3.1, h3.2, h1 76 rfl, h1 84 rfl]
  omega
theorem e93_atEnd_lp (a0 a1 : Int32) (f g : Nat → Int64) : ∀ (n : Nat) (yd : Bool) (yf : Nat → Int64), okM yf → ((yf 76).toInt - (yf 84).toInt).toNat < n → ∀ k, k < 93 → (f_X10_atEnd_lp46 a0 a1 f g n yd yf).2.1 k = f k := by
  intro n
  induction n with
  | zero => intro yd yf _ h; exact absurd h (Nat.not_lt_zero _)
  | succ n ih =>
    intro yd yf hok hn k hk
    rw [f_X10_atEnd_lp46]
    by_cases c1 : f_X10_hasNext yf = true
    · rw [if_pos c1]
      by_cases c2 : yd = true
      · rw [if_pos c2, f_X10_atEnd_k5, f_X10_atEnd_k6, f_X10_atEnd_k7]
        have h1 := sm_stay (a := a1) hok
        have h2 := at_step hok c1 h1.2 h1.1 hn
        exact ih _ _ h2.1 h2.2 k hk
      · rw [if_neg c2, f_X10_atEnd_k2, f_X10_atEnd_k3, f_X10_atEnd_k4]
        have h1 := sm_stay (a := 0) hok
        have h2 := at_step hok c1 h1.2 h1.1 hn
        exact ih _ _ h2.1 h2.2 k hk
    · rw [if_neg c1]; dsimp only; exact pp_k hk
theorem kq_atEnd {a b : Int32} {f g : Nat → Int64} (h : okM f) : KQ f (f_X10_atEnd a b f g).2.1 := by
  unfold f_X10_atEnd
  by_cases c1 : f_X10_isBox a f = true
  · rw [if_pos c1]
    by_cases c2 : f_X10_in b.toInt64 0 100 = true
    · rw [if_pos c2, f_X10_atEnd_k1]
      have h1 : okM (vp_updL f 83 0) := okM_u rfl h
      exact kq_93 h (e93_atEnd_lp a b f g _ _ _ (sm_stop h1).1 (Nat.lt_succ_self _))
    · rw [if_neg c2]; exact kq_r h
  · rw [if_neg c1]; exact kq_r h
theorem e93_front_lp (a0 a1 : Int32) (f o4 : Nat → Int64) (hf : okM f) (ho : ∀ k, k < 93 → o4 k = f k) : ∀ (n : Nat) (yb : Int32) (ym : Int64) (xi : Int32) (yf : Nat → Int64), (∀ k, k < 93 → yf k = f k) → 0 ≤ xi.toInt → (10 - xi.toInt).toNat < n → ∀ k, k < 93 → (f_X10_front_lp54 a0 a1 o4 n yb ym xi yf).2.1 k = f k := by
  intro n
  induction n with
  | zero => intro yb ym xi yf _ _ h; exact absurd h (Nat.not_lt_zero _)
  | succ n ih =>
    intro yb ym xi yf he h0 hn k hk
    rw [f_X10_front_lp54]
    by_cases c1 : f_X10_boxes yf ≤ xi
    · rw [if_pos c1]; exact he k hk
    · rw [if_neg c1, f_X10_front_k2, f_X10_front_k3, f_X10_front_k4]
      have hx := bx_tn (okM_B (okM_93 hf he)) h0 c1
      have h2 : ∀ z : Nat → Int64, ∀ k, k < 93 → f_X10_putBack z o4 k = f k := fun z k hk => by rw [pb_k hk, ho k hk]
      have h3 := ten_up hx
      have h4 := ten_mu hx hn
      split
      · rw [f_X10_front_k5]; exact ih _ _ _ _ (h2 _) h3.1 h4 k hk
      · split
        · rw [f_X10_front_k6]; exact ih _ _ _ _ (h2 _) h3.1 h4 k hk
        · rw [f_X10_front_k7]; exact ih _ _ _ _ (h2 _) h3.1 h4 k hk
theorem kq_front {a b : Int32} {f g : Nat → Int64} (h : okM f) : KQ f (f_X10_front a b f g).2.1 := by
  unfold f_X10_front
  by_cases c1 : f_X10_in a.toInt64 1 50000000 = true
  · rw [if_pos c1]
    by_cases c2 : f_X10_in b.toInt64 1 100 = true
    · rw [if_pos c2]
      by_cases c3 : a.toInt64 ≤ f_X10_allIce f
      · rw [if_pos c3, f_X10_front_k1]
        exact kq_93 h (e93_front_lp a b f _ h (fun k hk => pa_k hk) _ _ _ _ _ (fun _ _ => rfl) (by decide) (Nat.lt_succ_self _))
      · rw [if_neg c3]; exact kq_r h
    · rw [if_neg c2]; exact kq_r h
  · rw [if_neg c1]; exact kq_r h
theorem kq_read_lp {o : Int32 × Int32 × Bool × Int32 × (Nat → Int32)} (hr : 0 ≤ o.2.2.2.1.toInt ∧ o.2.2.2.1.toInt ≤ 21) : ∀ (n : Nat) (xi : Int32) (f yf : Nat → Int64), okM yf → xsm kT f yf → (yf 76).toInt + o.2.2.2.1.toInt ≤ 12 + xi.toInt → 0 ≤ xi.toInt → (o.2.2.2.1.toInt - xi.toInt).toNat < n → KQ f (f_X10_read_lp31 o n xi yf).2.2.2.2.2.1 := by
  intro n
  induction n with
  | zero => intro xi f yf _ _ _ _ h; exact absurd h (Nat.not_lt_zero _)
  | succ n ih =>
    intro xi f yf hok hs hl h0 hn
    rw [f_X10_read_lp31]
    by_cases c : o.2.2.2.1 ≤ xi
    · rw [if_pos c]; exact ⟨hok, hs⟩
    · rw [if_neg c]
      have h11 := rl_b hok hr hl c
      have hg := fun v w => rl_g (v := v) (w := w) hok h11
      have hk := rl_k hok h11 (hg (o.2.2.2.2 (2 * xi).toNatClampNeg).toInt64 (o.2.2.2.2 (2 * xi + 1).toNatClampNeg).toInt64)
      refine ih _ f _ hk.1 (xsm_u rfl fun j hj => (hg _ _ j (by have := kT_r hj; omega)).trans (hs j hj)) ?_ (up_0 h0 c) (up_mu c hn)
      have e := hk.2
      rw [up_i c]
      omega
theorem kq_read {pm : Int32} {mp mr : Nat → Int32} {f : Nat → Int64} (h : okM f) (hp : okC pm 80) : KQ f (f_X10_read pm f mp mr).2.2.2.2.2.1 ∧ okC (f_X10_read pm f mp mr).2.1 80 := by
  unfold f_X10_read
  have hr := ft_f (mp := mp) (mr := mr) hp
  generalize f_X10_fault pm mp mr = o at hr
  unfold f_X10_read_k1
  by_cases c1 : o.1 = (-6)
  · rw [if_pos c1]
    by_cases c2 : f_X10_legs f + o.2.2.2.1 ≤ 12
    · rw [if_pos c2]
      refine ⟨kq_read_lp hr _ _ f f h xsm_r (rl_0 h hr c2) (by decide) (Nat.lt_succ_self _), ?_⟩
      have hz : ∀ (n : Nat) (xi : Int32) (yf : Nat → Int64), (f_X10_read_lp31 o n xi yf).2.1 = 0 := by
        intro n
        induction n with
        | zero => intro xi yf; rfl
        | succ n ih =>
          intro xi yf
          rw [f_X10_read_lp31]
          by_cases c : o.2.2.2.1 ≤ xi
          · rw [if_pos c]
          · rw [if_neg c]; exact ih _ _
      rw [hz]; exact ⟨by decide, by decide⟩
    · rw [if_neg c2]; exact ⟨kq_r h, hp⟩
  · rw [if_neg c1]; exact ⟨kq_r h, hp⟩
