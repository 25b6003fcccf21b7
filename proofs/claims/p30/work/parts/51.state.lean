/-! what both sides keep alike: settings, mode, time; the slots -/
theorem mm_77 {f : Nat → Int64} (h : okB f) : f_X10_makeMinute f 77 = f 77 + 1 := by
  have h1 : xsm xkm f (f_X10_goOff f).2 := sm_goOff h
  have h2 : xsm xkm (f_X10_goOff f).2 (f_X10_warm (f_X10_goOff f).1 (f_X10_goOff f).2) := sm_warm
  have h3 : xsm xkm _ (f_X10_blow (f_X10_warm (f_X10_goOff f).1 (f_X10_goOff f).2)) := sm_blow
  have h4 : xsm xkm _ (f_X10_turnVent (f_X10_blow (f_X10_warm (f_X10_goOff f).1 (f_X10_goOff f).2))) := sm_turnVent
  have h5 := xsm_t h1 (xsm_t h2 (xsm_t h3 h4)) 77 rfl
  show f_X10_makeMinute_k4 (f_X10_turnVent (f_X10_blow (f_X10_warm (f_X10_goOff f).1 (f_X10_goOff f).2))) 77 = f 77 + 1
  rw [← h5]
  generalize f_X10_turnVent (f_X10_blow (f_X10_warm (f_X10_goOff f).1 (f_X10_goOff f).2)) = g
  unfold f_X10_makeMinute_k4
  repeat' split
  all_goals (repeat rw [uL_ne (by decide)]); rw [uL_eq]
/-- alike: the reference's row against the class's settings, mode and time -/
def relM (f : Nat → Int64) (sf : Nat → Int32) (vM tm : Int32) : Prop :=
  okM f ∧ (∀ k, k < 11 → f (64 + k) = (sf k).toInt64) ∧ f 80 = vM.toInt64 ∧ f 77 = tm.toInt64 ∧ 0 ≤ tm.toInt ∧ tm.toInt ≤ 100000
theorem relM_kq {f g : Nat → Int64} {sf : Nat → Int32} {vM tm : Int32} (h : relM f sf vM tm) (k : KQ f g) : relM g sf vM tm := by
  obtain ⟨h1, h2, h3, h4, h5⟩ := h
  exact ⟨k.1, fun j hj => (k.2 _ (by simp only [kT, kS, Bool.or_eq_true, Bool.and_eq_true, decide_eq_true_eq, beq_iff_eq]; omega)).trans (h2 j hj), (k.2 80 rfl).trans h3, (k.2 77 rfl).trans h4, h5⟩
theorem relM_93 {f g : Nat → Int64} {sf sf' : Nat → Int32} {vM tm : Int32} (h : relM f sf vM tm) (e : ∀ k, k < 93 → g k = f k) (es : ∀ k, k < 11 → sf' k = sf k) : relM g sf' vM tm := by
  obtain ⟨h1, h2, h3, h4, h5⟩ := relM_kq h (kq_93 h.1 e)
  exact ⟨h1, fun j hj => by rw [es j hj]; exact h2 j hj, h3, h4, h5⟩
-- set
theorem tI64 (x : Int32) : x.toInt64.toInt32 = x := by
  have h1 := xrng x
  refine tj ?_
  rw [tI (by rw [tL]; omega) (by rw [tL]; omega), tL]
theorem fit_6 : ∀ k : Fin 11, ∀ b : Bool, True := fun _ _ => trivial
theorem allows_takes {a b : Int32} : f_X6_allows a b = f_X10_takes a b := by
  have hd : ∀ lo hi : Int32, f_X9_within b lo hi = true ↔ f_X10_in b.toInt64 lo.toInt64 hi.toInt64 = true := fun lo hi => by
    rw [within_iff, in_iff, tL, tL, tL]
  have hq : ∀ lo hi : Int32, (if f_X9_within b lo hi = true then true else false) = f_X10_in b.toInt64 lo.toInt64 hi.toInt64 := fun lo hi => by
    by_cases c : f_X9_within b lo hi = true
    · rw [if_pos c]; exact ((hd lo hi).mp c).symm
    · rw [if_neg c]
      cases e : f_X10_in b.toInt64 lo.toInt64 hi.toInt64 with
      | false => rfl
      | true => exact absurd ((hd lo hi).mpr e) c
  unfold f_X6_allows f_X10_takes
  by_cases c : f_X9_within a 0 10 = true
  · rw [if_pos c]
    have h := within_iff.mp c
    have e0 : (0 : Int32).toInt = 0 := by decide
    have e10 : (10 : Int32).toInt = 10 := by decide
    rw [e0, e10] at h
    have hc : ∀ k : Int32, a.toInt = k.toInt → a = k := fun k q => tj q
    rcases (show a.toInt = 0 ∨ a.toInt = 1 ∨ a.toInt = 2 ∨ a.toInt = 3 ∨ a.toInt = 4 ∨ a.toInt = 5 ∨ a.toInt = 6 ∨ a.toInt = 7 ∨ a.toInt = 8 ∨ a.toInt = 9 ∨ a.toInt = 10 by omega) with q | q | q | q | q | q | q | q | q | q | q
    · rw [hc 0 (q.trans (by decide))]; exact hq 0 1000
    · rw [hc 1 (q.trans (by decide))]; exact hq 1 100
    · rw [hc 2 (q.trans (by decide))]; exact hq 0 500
    · rw [hc 3 (q.trans (by decide))]; exact hq 0 100
    · rw [hc 4 (q.trans (by decide))]; exact hq 0 900
    · rw [hc 5 (q.trans (by decide))]; exact hq 1 50000
    · rw [hc 6 (q.trans (by decide))]; exact hq 0 50000
    · rw [hc 7 (q.trans (by decide))]; exact hq 0 100
    · rw [hc 8 (q.trans (by decide))]; exact hq 1 50000
    · rw [hc 9 (q.trans (by decide))]; exact hq 1 200
    · rw [hc 10 (q.trans (by decide))]
      refine (hq 1 100000).trans ?_
      show f_X10_in b.toInt64 1 100000 = if f_X10_in b.toInt64 1 100000 = true then true else false
      cases f_X10_in b.toInt64 1 100000 <;> rfl
  · rw [if_neg c]
    have hn : ∀ k : Int32, 0 ≤ k.toInt ∧ k.toInt ≤ 10 → ¬ a = k := fun k hk q => c (by rw [q]; exact within_iff.mpr hk)
    rw [if_neg (hn 0 (by decide)), if_neg (hn 1 (by decide)), if_neg (hn 2 (by decide)), if_neg (hn 3 (by decide)), if_neg (hn 4 (by decide)), if_neg (hn 5 (by decide)), if_neg (hn 6 (by decide)), if_neg (hn 7 (by decide)), if_neg (hn 8 (by decide)), if_neg (hn 9 (by decide)), if_neg (hn 10 (by decide))]
theorem set_n {a : Int32} (h : 0 ≤ a.toInt ∧ a.toInt < 11) : (64 + a).toNatClampNeg = 64 + a.toInt.toNat ∧ a.toNatClampNeg = a.toInt.toNat := by
  have e : (64 : Int32).toInt = 64 := by decide
  refine ⟨?_, rfl⟩
  show (64 + a).toInt.toNat = _
  rw [xaddI (by rw [e]; omega) (by rw [e]; omega), e]; omega
theorem takes_v {a b : Int32} (h : f_X10_takes a b = true) : (a.toInt = 1 → 1 ≤ b.toInt ∧ b.toInt ≤ 100) ∧ (a.toInt = 9 → 1 ≤ b.toInt) ∧ (a.toInt = 10 → 1 ≤ b.toInt) := by
  refine ⟨fun q => ?_, fun q => ?_, fun q => ?_⟩
  · obtain rfl : a = 1 := tj (q.trans (by decide))
    have h1 := in_iff.mp (show f_X10_in b.toInt64 1 100 = true from h)
    rw [tL] at h1; exact h1
  · obtain rfl : a = 9 := tj (q.trans (by decide))
    have h1 := in_iff.mp (show f_X10_in b.toInt64 1 200 = true from h)
    rw [tL] at h1; exact h1.1
  · obtain rfl : a = 10 := tj (q.trans (by decide))
    have h0 : (if f_X10_in b.toInt64 1 100000 = true then true else false) = true := h
    have h1 : f_X10_in b.toInt64 1 100000 = true := by
      cases e : f_X10_in b.toInt64 1 100000 with
      | true => rfl
      | false => rw [e] at h0; exact h0
    have h2 := in_iff.mp h1
    rw [tL] at h2; exact h2.1
theorem okM_set {f : Nat → Int64} {k : Nat} {v : Int64} (hk : 64 ≤ k ∧ k < 75) (hv : (k = 65 → 1 ≤ v.toInt ∧ v.toInt ≤ 100) ∧ (k = 73 → 1 ≤ v.toInt) ∧ (k = 74 → 1 ≤ v.toInt)) (h : okM f) : okM (vp_updL f k v) := by
  obtain ⟨h1, h2, h3, h4, h5, h6, h7, h8⟩ := h
  refine ⟨by rw [uL_ne (by omega)]; exact h1, by rw [uL_ne (by omega)]; exact h2, by rw [uL_ne (by omega)]; exact h3, ?_, ?_, ?_, by rw [uL_ne (by omega), uL_ne (by omega)]; exact h7, fun b hb => ?_⟩
  · by_cases q : 65 = k
    · rw [q, uL_eq]; exact hv.1 q.symm
    · rw [uL_ne q]; exact h4
  · by_cases q : 73 = k
    · rw [q, uL_eq]; exact hv.2.1 q.symm
    · rw [uL_ne q]; exact h5
  · by_cases q : 74 = k
    · rw [q, uL_eq]; exact hv.2.2 q.symm
    · rw [uL_ne q]; exact h6
  · rw [uL_ne (by omega)] at hb
    have h9 := h8 b hb
    have hq : (f 75).toInt ≤ 10 := h1.2
    rw [uL_ne (by omega)]; exact h9
/-- set: the same answer, and alike behind it -/
theorem st_set {a b : Int32} {f : Nat → Int64} {sf : Nat → Int32} {vM tm : Int32} (h : relM f sf vM tm) : (f_X9_set a b sf).1 = (f_X10_set a b f).1 ∧ relM (f_X10_set a b f).2 (f_X9_set a b sf).2 vM tm := by
  unfold f_X9_set f_X10_set
  rw [allows_takes]
  by_cases c : f_X10_takes a b = true
  · rw [if_pos c, if_pos c]
    unfold f_X6_change
    rw [allows_takes, if_pos c]
    have hi := takes_in c
    have hn := set_n hi
    have e10 : (10 : Int32).toInt = 10 := by decide
    have hw : f_X9_within a 0 10 = true := within_iff.mpr ⟨hi.1, by omega⟩
    obtain ⟨h1, h2, h3, h4, h5⟩ := h
    refine ⟨?_, ?_⟩
    · show f_X6_value a sf = _
      unfold f_X6_value
      rw [if_pos hw, hn.1, hn.2, h2 _ (by omega), tI64]
    · have hv := takes_v c
      show relM (vp_updL f (64 + a).toNatClampNeg b.toInt64) (upd sf a.toNatClampNeg b) vM tm
      refine ⟨okM_set (by rw [hn.1]; omega) ⟨fun q => ?_, fun q => ?_, fun q => ?_⟩ h1, fun k hk => ?_, ?_, ?_, h5⟩
      · rw [tL]; rw [hn.1] at q; exact hv.1 (by omega)
      · rw [tL]; rw [hn.1] at q; exact hv.2.1 (by omega)
      · rw [tL]; rw [hn.1] at q; exact hv.2.2 (by omega)
      · rw [hn.1]
        show _ = (upd sf a.toNatClampNeg b k).toInt64
        rw [hn.2]
        unfold upd vp_updL
        by_cases q : k = a.toInt.toNat
        · rw [if_pos (by omega), if_pos q]
        · rw [if_neg (by omega), if_neg q]; exact h2 k hk
      · rw [hn.1, uL_ne (by omega)]; exact h3
      · rw [hn.1, uL_ne (by omega)]; exact h4
  · rw [if_neg c, if_neg c]
    exact ⟨rfl, h⟩
-- vent
theorem within_in {b lo hi : Int32} : (f_X9_within b lo hi = true) = (f_X10_in b.toInt64 lo.toInt64 hi.toInt64 = true) :=
  propext (by rw [within_iff, in_iff, tL, tL, tL])
theorem setMode_k {a : Int32} {f : Nat → Int64} : (f_X10_setMode a f) 80 = a.toInt64 ∧ ∀ j, kT j = true → j ≠ 80 → f_X10_setMode a f j = f j := by
  have hs : ∀ g : Nat → Int64, xsm xkm g (f_X10_shutVent g) := fun g => sm_shutVent
  have ho : ∀ g : Nat → Int64, xsm xkm g (f_X10_openVent g) := fun g => sm_openVent
  unfold f_X10_setMode
  by_cases c1 : a = 1
  · rw [if_pos c1]
    exact ⟨(hs _ 80 rfl).trans uL_eq, fun j hj q => (hs _ j (kT_km hj)).trans (uL_ne q)⟩
  · rw [if_neg c1]
    by_cases c2 : a = 2
    · rw [if_pos c2]
      exact ⟨(ho _ 80 rfl).trans uL_eq, fun j hj q => (ho _ j (kT_km hj)).trans (uL_ne q)⟩
    · rw [if_neg c2]
      exact ⟨uL_eq, fun j _ q => uL_ne q⟩
theorem st_vent {a : Int32} {f : Nat → Int64} {sf : Nat → Int32} {vM tm vN : Int32} {vO : Bool} (h : relM f sf vM tm) : (f_X9_vent a vM vO vN).1 = (f_X10_vent a f).1 ∧ relM (f_X10_vent a f).2 sf (f_X9_vent a vM vO vN).2.1 tm := by
  unfold f_X9_vent f_X10_vent
  have e : (f_X9_within a 0 2 = true) = (f_X10_in a.toInt64 0 2 = true) := within_in
  simp only [e]
  by_cases c : f_X10_in a.toInt64 0 2 = true
  · rw [if_pos c, if_pos c]
    obtain ⟨h1, h2, h3, h4, h5⟩ := h
    have hk := setMode_k (a := a) (f := f)
    refine ⟨?_, okM_setMode h1, fun k hk2 => ?_, hk.1, ?_, h5⟩
    · show vM = (f 80).toInt32
      rw [h3, tI64]
    · exact (hk.2 _ (by simp only [kT, kS, Bool.or_eq_true, Bool.and_eq_true, decide_eq_true_eq, beq_iff_eq]; omega) (by omega)).trans (h2 k hk2)
    · exact (hk.2 77 rfl (by decide)).trans h4
  · rw [if_neg c, if_neg c]
    exact ⟨rfl, h⟩
-- pass
theorem pass_lpM (a0 : Int32) (T : Int) (hT : 0 ≤ T ∧ T + a0.toInt ≤ 100000) : ∀ (n : Nat) (yn xi : Int32) (f yf : Nat → Int64), okM yf → xsm kS f yf → (yf 77).toInt = T + xi.toInt → 0 ≤ xi.toInt → xi.toInt ≤ a0.toInt → (a0.toInt - xi.toInt).toNat < n → okM (f_X10_pass_lp39 a0 n yn xi yf).2 ∧ xsm kS f (f_X10_pass_lp39 a0 n yn xi yf).2 ∧ ((f_X10_pass_lp39 a0 n yn xi yf).2 77).toInt = T + a0.toInt := by
  intro n
  induction n with
  | zero => intro yn xi f yf _ _ _ _ _ h; exact absurd h (Nat.not_lt_zero _)
  | succ n ih =>
    intro yn xi f yf hok hs h77 h0 hle hn
    rw [f_X10_pass_lp39]
    by_cases c : a0 ≤ xi
    · rw [if_pos c]
      have := xle.mp c
      exact ⟨hok, hs, by rw [h77]; omega⟩
    · rw [if_neg c]
      have hc := xnle.mp c
      have hu := up_i c
      have e1 := xL1
      have h3 : (f_X10_makeMinute yf 77).toInt = T + (xi + 1).toInt := by
        rw [mm_77 (okM_B hok), xaddL (by omega) (by omega), e1, h77, hu]; omega
      have h4 : xsm kS f (f_X10_makeMinute yf) := xsm_t hs (xsm_w (sm_mm (okM_B hok)) fun _ => kS_km2)
      by_cases c2 : f_X10_isAway yf = true
      · rw [if_pos c2]; exact ih _ _ f _ (okM_mm hok) h4 h3 (up_0 h0 c) (by omega) (up_mu c hn)
      · rw [if_neg c2]; exact ih _ _ f _ (okM_mm hok) h4 h3 (up_0 h0 c) (by omega) (up_mu c hn)
theorem pass_lpC (a0 : Int32) {sf : Nat → Int32} {lc : Int32} {lr : Nat → Option Nat} {vM : Int32} {vD : Bool} {rc rl : Int32} {ro qi : Nat → Int32} (T : Int) (hT : 0 ≤ T ∧ T + a0.toInt ≤ 100000) : ∀ (n : Nat) (xi yT : Int32) (yG : Int64) (yO : Bool) (yN yA ym yt_ : Int32) (yk : Int64) (yc yp : Nat → Int32), yt_.toInt = T + xi.toInt → 0 ≤ xi.toInt → xi.toInt ≤ a0.toInt → (a0.toInt - xi.toInt).toNat < n → (f_X8_letPass_lp2 a0 sf lc lr vM vD rc rl ro qi n xi yT yG yO yN yA ym yt_ yk yc yp).1.toInt = T + a0.toInt := by
  intro n
  induction n with
  | zero => intro xi yT yG yO yN yA ym yt_ yk yc yp _ _ _ h; exact absurd h (Nat.not_lt_zero _)
  | succ n ih =>
    intro xi yT yG yO yN yA ym yt_ yk yc yp ht h0 hle hn
    rw [f_X8_letPass_lp2]
    by_cases c : a0 ≤ xi
    · rw [if_pos c]
      have := xle.mp c
      show yt_.toInt = _
      omega
    · rw [if_neg c, f_X8_letPass_k1]
      have hc := xnle.mp c
      have hu := up_i c
      have e1 := xI1
      refine ih _ _ _ _ _ _ _ _ _ _ _ ?_ (up_0 h0 c) (by omega) (up_mu c hn)
      show (yt_ + 1).toInt = _
      rw [xaddI (by omega) (by omega)]; omega
theorem st_pass {a : Int32} {k3 : Int64} {lc : Int32} {lr : Nat → Option Nat} {vT : Int32} {vG : Int64} {vO : Bool} {vN : Int32} {vD : Bool} {vA rc rl rm : Int32} {ro qi qc qp : Nat → Int32} {f : Nat → Int64} {sf : Nat → Int32} {vM tm : Int32} (h : relM f sf vM tm) : relM (f_X10_pass a f).2 sf vM (f_X9_pass a tm k3 sf lc lr vT vG vM vO vN vD vA rc rl rm ro qi qc qp).2.1 := by
  unfold f_X9_pass f_X10_pass
  have e : (f_X9_within a 1 1000 = true) = (f_X10_in a.toInt64 1 1000 = true) := within_in
  simp only [e]
  by_cases c : f_X10_in a.toInt64 1 1000 = true
  · rw [if_pos c, if_pos c]
    obtain ⟨h1, h2, h3, h4, h5⟩ := h
    have hv := in_iff.mp c
    rw [tL] at hv
    have ea : (1 : Int64).toInt = 1 := by decide
    have eb : (1000 : Int64).toInt = 1000 := by decide
    have ec : (100000 : Int64).toInt = 100000 := by decide
    have ed : (100000 : Int32).toInt = 100000 := by decide
    have et : (f 77).toInt = tm.toInt := by rw [h4, tL]
    have s1 : (tm + a).toInt = tm.toInt + a.toInt := xaddI (by omega) (by omega)
    have s2 : (f 77 + a.toInt64).toInt = tm.toInt + a.toInt := by rw [xaddL (by rw [tL]; omega) (by rw [tL]; omega), tL, et]
    by_cases c2 : tm + a ≤ 100000
    · have q := xle.mp c2
      rw [if_pos c2, if_pos (xleL.mpr (by omega))]
      have m1 := pass_lpM a tm.toInt ⟨by omega, by omega⟩ _ 0 0 f f h1 xsm_r (by rw [et, xI0]; omega) (by decide) (by rw [xI0]; omega) (Nat.lt_succ_self _)
      have m2 := pass_lpC a (sf := sf) (lc := lc) (lr := lr) (vM := vM) (vD := vD) (rc := rc) (rl := rl) (ro := ro) (qi := qi) tm.toInt ⟨by omega, by omega⟩ _ 0 vT vG vO vN vA rm tm k3 qc qp (by rw [xI0]; omega) (by decide) (by rw [xI0]; omega) (Nat.lt_succ_self _)
      obtain ⟨m3, m4, m5⟩ := m1
      have m6 : (f_X9_pass_k1 a rm (f_X8_letPass a tm k3 sf lc lr vT vG vM vO vN vD vA rc rl rm ro qi qc qp)).2.1.toInt = tm.toInt + a.toInt := m2
      refine ⟨m3, fun k hk => (m4 _ (by simp only [kS, Bool.or_eq_true, Bool.and_eq_true, decide_eq_true_eq, beq_iff_eq]; omega)).trans (h2 k hk), (m4 80 rfl).trans h3, tjL ?_, by rw [m6]; omega, by rw [m6]; omega⟩
      rw [tL, m6]; exact m5
    · have q := xnle.mp c2
      rw [if_neg c2, if_neg (xnleL.mpr (by omega))]
      exact ⟨h1, h2, h3, h4, h5⟩
  · rw [if_neg c, if_neg c]
    exact h
