/-! both sides at the start: one call answers the same -/
def mf0 : Nat → Int64 := vp_updL (vp_updL (vp_updL (vp_updL (vp_updL (vp_updL (vp_updL (vp_updL (vp_updL (vp_updL (vp_updL (vp_updL (vp_updL (fun _ => 0) 78 2000) 84 (-1)) 64 100) 65 10) 66 100) 67 5) 68 300) 69 5000) 70 1000) 71 5) 72 5000) 73 20) 74 5000
theorem ok_mf0 : okM mf0 := by
  refine ⟨by decide +kernel, by decide +kernel, by decide +kernel, by decide +kernel, by decide +kernel, by decide +kernel, fun h => absurd h (by decide +kernel), fun b hb => ?_⟩
  have h : (mf0 75).toInt = 0 := by decide +kernel
  omega
theorem wi {a l h : Int32} {l' h' : Int64} (e1 : l' = l.toInt64) (e2 : h' = h.toInt64) : f_X10_in a.toInt64 l' h' = f_X9_within a l h := by
  rw [Bool.eq_iff_iff, in_iff, within_iff, e1, e2, tL, tL, tL]
theorem bx0 : f_X10_boxes mf0 = 0 := by decide +kernel
theorem lg0 : f_X10_legs mf0 = 0 := by decide +kernel
theorem dr0 : f_X10_isDoorOpen mf0 = false := by decide +kernel
theorem aw0 : f_X10_isAway mf0 = false := by decide +kernel
theorem ib0 (a : Int32) : f_X10_isBox a mf0 = false := by
  rw [Bool.eq_false_iff]
  intro h
  have h1 := isBox_in h ok_mf0
  have e : (mf0 75).toInt = 0 := by decide +kernel
  omega
theorem ba0 (a : Int32) (lr : Nat → Option Nat) : f_X2_boxAt a 0 lr = none := by
  unfold f_X2_boxAt
  rw [if_neg]
  intro h
  have h1 := within_iff.mp h
  have e : ((0 : Int32) - 1).toInt = -1 := by decide
  have e0 : (0 : Int32).toInt = 0 := by decide
  omega
theorem e_load {a0 a1 a2 : Int32} {lr : Nat → Option Nat} {qi qt qc qp : Nat → Int32} : (f_X9_load a0 a1 a2 0 0 lr false qi qt qc qp).1 = (f_X10_load a0 a1 a2 mf0).1 := by
  unfold f_X9_load f_X10_load
  rw [wi (a := a0) (l := 1) (h := 100) (l' := 1) (h' := 100) (by decide) (by decide), wi (a := a1) (l := 0) (h := 5000000) (l' := 0) (h' := 5000000) (by decide) (by decide), wi (a := a2) (l := 0) (h := 20000000) (l' := 0) (h' := 20000000) (by decide) (by decide), bx0, dr0]
  by_cases h1 : f_X9_within a0 1 100 = true <;> by_cases h2 : f_X9_within a1 0 5000000 = true <;> by_cases h3 : f_X9_within a2 0 20000000 = true <;> simp [h1, h2, h3]
theorem e_unload {a0 : Int32} {lr : Nat → Option Nat} {qc : Nat → Int32} : (f_X9_unload a0 0 0 lr false qc).1 = (f_X10_unload a0 mf0).1 := by
  unfold f_X9_unload f_X10_unload
  rw [ba0, ib0]; rfl
theorem e_shift {a0 a1 : Int32} {lr : Nat → Option Nat} {qc : Nat → Int32} : (f_X9_shift a0 a1 0 lr qc).1 = (f_X10_shift a0 a1 mf0).1 := by
  unfold f_X9_shift f_X10_shift
  rw [ba0, ib0]; rfl
theorem e_leg {a0 a1 : Int32} {rd ro : Nat → Int32} : (f_X9_leg a0 a1 0 rd ro).1 = (f_X10_leg a0 a1 mf0).1 := by
  unfold f_X9_leg f_X10_leg
  rw [wi (a := a0) (l := 1) (h := 600) (l' := 1) (h' := 600) (by decide) (by decide), wi (a := a1) (l := -4000) (h := 5000) (l' := -4000) (h' := 5000) (by decide) (by decide), lg0]
  by_cases h1 : f_X9_within a0 1 600 = true <;> by_cases h2 : f_X9_within a1 (-4000) 5000 = true <;> simp [h1, h2]
  all_goals (unfold f_X9_leg_k1 f_X4_append; simp)
theorem e_cut : (f_X9_cut 0 (-1)).1 = (f_X10_cut mf0).1 := by decide +kernel
theorem e_depart {rd : Nat → Int32} : (f_X9_depart false 0 (-1) 0 rd).1 = (f_X10_depart mf0).1 := by
  have h : (f_X10_depart mf0).1 = -5 := by decide +kernel
  rw [h]; rfl
theorem e_vent {a0 : Int32} : (f_X9_vent a0 0 false 0).1 = (f_X10_vent a0 mf0).1 := by
  unfold f_X9_vent f_X10_vent
  rw [wi (a := a0) (l := 0) (h := 2) (l' := 0) (h' := 2) (by decide) (by decide)]
  by_cases h1 : f_X9_within a0 0 2 = true
  · rw [if_pos h1, if_pos h1]; rfl
  · rw [if_neg h1, if_neg h1]
theorem e_open : (f_X9_open sfirst 0 false false 0).1 = (f_X10_open mf0).1 := by decide +kernel
theorem e_shut : (f_X9_shut sfirst 0 false).1 = (f_X10_shut mf0).1 := by decide +kernel
theorem e_sell {a0 : Int32} {lr : Nat → Option Nat} {qc qp : Nat → Int32} : (f_X9_sell a0 0 0 lr false qc qp).1 = (f_X10_sell a0 mf0).1 := by
  unfold f_X9_sell f_X10_sell
  rw [wi (a := a0) (l := 1) (h := 50000000) (l' := 1) (h' := 50000000) (by decide) (by decide), dr0]
  by_cases h1 : f_X9_within a0 1 50000000 = true <;> simp [h1]
theorem e_spill {a0 a1 : Int32} {lr : Nat → Option Nat} {qc : Nat → Int32} : (f_X9_spill a0 a1 0 0 lr qc).1 = (f_X10_spill a0 a1 mf0).1 := by
  unfold f_X9_spill f_X10_spill
  rw [ba0, ib0]; rfl
theorem e_weigh {a0 : Int32} {lr : Nat → Option Nat} {qt qc : Nat → Int32} : f_X9_weigh a0 0 lr 0 qt qc = f_X10_weigh a0 mf0 := by
  unfold f_X9_weigh f_X10_weigh
  rw [ba0, ib0]; rfl
theorem e_check {a0 : Int32} {lr : Nat → Option Nat} {qp qc : Nat → Int32} : (f_X9_check a0 0 lr 0 qc qp).1 = (f_X10_check a0 mf0).1 := by
  unfold f_X9_check f_X10_check
  rw [ba0, ib0]; rfl
theorem e_box {a0 a1 : Int32} {lr : Nat → Option Nat} {sf qi qt qp qc : Nat → Int32} {vT : Int32} : f_X9_box a0 a1 sf 0 lr vT qi qt qc qp = f_X10_box a0 a1 mf0 := by
  unfold f_X9_box f_X10_box
  rw [ba0, ib0]; rfl
theorem e_say {a0 : Int32} {pf mp : Nat → Int32} : (f_X9_say a0 0 pf).1 = (f_X10_say a0 0 mp).1 := by
  unfold f_X9_say f_X10_say
  rw [wi (a := a0) (l := 33) (h := 126) (l' := 33) (h' := 126) (by decide) (by decide)]
  by_cases h1 : f_X9_within a0 33 126 = true
  · rw [if_pos h1, if_pos h1]; rfl
  · rw [if_neg h1, if_neg h1]
theorem e_wipe : (f_X9_wipe 0).1 = (f_X10_wipe 0).1 := rfl
theorem e_fault : (f_X9_fault 0 (fun _ => 0) 0 0 false (fun _ => 0) (fun _ => 0)).1 = (f_X10_fault 0 (fun _ => 0) (fun _ => 0)).1 := by decide +kernel
theorem e_read : (f_X9_read 0 (fun _ => 0) 0 0 false (fun _ => 0) (fun _ => 0) 0 (fun _ => 0) (fun _ => 0)).1 = (f_X10_read 0 mf0 (fun _ => 0) (fun _ => 0)).1 := by decide +kernel
theorem e_way {a0 a1 : Int32} {rd ro : Nat → Int32} : f_X9_way a0 a1 0 rd ro = f_X10_way a0 a1 mf0 := by
  have h : ∀ x : Int32, ¬ f_X9_within x 0 ((0 : Int32) - 1) = true := fun x h => by
    have h1 := within_iff.mp h
    have e : ((0 : Int32) - 1).toInt = -1 := by decide
    have e0 : (0 : Int32).toInt = 0 := by decide
    omega
  have h2 : ∀ x : Int32, ¬ f_X4_hasLeg x 0 = true := fun x q => h x (by unfold f_X4_hasLeg at q; exact q)
  unfold f_X9_way f_X10_way
  rw [lg0, wi (a := a0) (l := 0) (h := 0 - 1) (l' := 0) (h' := ((0 : Int32) - 1).toInt64) (by decide) rfl, if_neg (h a0)]
  first | rw [if_neg (h2 a0)] | rw [if_neg (h a0)]

theorem ia0 (lr : Nat → Option Nat) (qc : Nat → Int32) : f_X2_iceOfAll 0 lr qc = 0 := by
  unfold f_X2_iceOfAll
  rw [f_X2_iceOfAll_lp4, if_pos (by decide)]
theorem al0 : f_X10_allIce mf0 = 0 := by decide +kernel
theorem e_atEnd {a0 a1 : Int32} {tm : Int32} {k1 k2 k3 k4 k5 : Int64} {sf : Nat → Int32} {lr : Nat → Option Nat} {vT : Int32} {vG : Int64} {vM : Int32} {vO : Bool} {vN : Int32} {vD : Bool} {vA rc rl rm : Int32} {rd ro : Nat → Int32} {tmk : Int32} {k1k k2k k3k k4k k5k : Int64} {sfk : Nat → Int32} {lck : Int32} {lrk : Nat → Option Nat} {vTk : Int32} {vGk : Int64} {vMk : Int32} {vOk : Bool} {vNk : Int32} {vDk : Bool} {vAk rck rlk rmk : Int32} {rdk rok qi qt qc qp : Nat → Int32} {mg : Nat → Int64} :
    (f_X9_atEnd a0 a1 tm k1 k2 k3 k4 k5 sf 0 lr vT vG vM vO vN vD vA rc rl rm rd ro tmk k1k k2k k3k k4k k5k sfk lck lrk vTk vGk vMk vOk vNk vDk vAk rck rlk rmk rdk rok qi qt qc qp).1 = (f_X10_atEnd a0 a1 mf0 mg).1 := by
  unfold f_X9_atEnd f_X10_atEnd
  rw [if_pos (ba0 a0 lr), if_neg (by rw [ib0]; decide)]
theorem w1 {a h : Int32} (q : f_X9_within a 1 h = true) : ¬ a ≤ 0 := by
  have h1 := (within_iff.mp q).1
  have e := xI1
  have e0 := xI0
  rw [xle]; omega
theorem w1L {a h : Int32} (q : f_X9_within a 1 h = true) : ¬ a.toInt64 ≤ 0 := by
  have h1 := (within_iff.mp q).1
  have e := xI1
  have e0 : (0 : Int64).toInt = 0 := by decide
  rw [xleL, tL]; omega
theorem e_front {a0 a1 : Int32} {tm : Int32} {k1 k2 k3 k4 k5 : Int64} {sf : Nat → Int32} {lr : Nat → Option Nat} {vT : Int32} {vG : Int64} {vM : Int32} {vO : Bool} {vN : Int32} {vD : Bool} {vA rc rl rm : Int32} {rd ro : Nat → Int32} {tmk : Int32} {k1k k2k k3k k4k k5k : Int64} {sfk : Nat → Int32} {lck : Int32} {lrk : Nat → Option Nat} {vTk : Int32} {vGk : Int64} {vMk : Int32} {vOk : Bool} {vNk : Int32} {vDk : Bool} {vAk rck rlk rmk : Int32} {rdk rok qi qt qc qp : Nat → Int32} {mg : Nat → Int64} :
    (f_X9_front a0 a1 tm k1 k2 k3 k4 k5 sf 0 lr vT vG vM vO vN vD vA rc rl rm rd ro tmk k1k k2k k3k k4k k5k sfk lck lrk vTk vGk vMk vOk vNk vDk vAk rck rlk rmk rdk rok qi qt qc qp).1 = (f_X10_front a0 a1 mf0 mg).1 := by
  unfold f_X9_front f_X10_front
  rw [wi (a := a0) (l := 1) (h := 50000000) (l' := 1) (h' := 50000000) (by decide) (by decide), wi (a := a1) (l := 1) (h := 100) (l' := 1) (h' := 100) (by decide) (by decide), ia0, al0]
  by_cases h1 : f_X9_within a0 1 50000000 = true
  · rw [if_pos h1, if_pos h1]
    by_cases h2 : f_X9_within a1 1 100 = true
    · rw [if_pos h2, if_pos h2, if_neg (w1 h1), if_neg (w1L h1)]
    · rw [if_neg h2, if_neg h2]
  · rw [if_neg h1, if_neg h1]
theorem mm_aw {f : Nat → Int64} (hok : okM f) (h : f_X10_isAway f = false) : f_X10_isAway (f_X10_makeMinute f) = false := by
  have h86 : ¬ f 86 = 1 := fun q => by unfold f_X10_isAway at h; rw [if_pos q] at h; cases h
  have hs := mm_same hok
  have e86 := hs 86 rfl
  have hM : f_X10_makeMinute f = f_X10_makeMinute_k4 (f_X10_turnVent (f_X10_blow (f_X10_warm (f_X10_goOff f).1 (f_X10_goOff f).2))) := rfl
  rw [hM]
  generalize f_X10_turnVent (f_X10_blow (f_X10_warm (f_X10_goOff f).1 (f_X10_goOff f).2)) = g at e86 ⊢
  have g86 : ¬ g 86 = 1 := by rw [e86]; exact h86
  have ha : ∀ v w : Int64, f_X10_isAway (vp_updL (vp_updL g 87 v) 77 w) = false := fun v w => by
    unfold f_X10_isAway
    rw [uL_ne (by decide), uL_ne (by decide), if_neg g86]
  unfold f_X10_makeMinute_k4
  simp only [ha, Bool.false_eq_true, if_false]
  repeat' split
  all_goals exact ha _ _
theorem pass_0 (a0 : Int32) : ∀ (n : Nat) (xi : Int32) (yf : Nat → Int64), okM yf → f_X10_isAway yf = false → (f_X10_pass_lp39 a0 n 0 xi yf).1 = 0 := by
  intro n
  induction n with
  | zero => intro xi yf _ _; rfl
  | succ n ih =>
    intro xi yf hok h
    rw [f_X10_pass_lp39]
    have hn : ¬ f_X10_isAway yf = true := by rw [h]; decide
    by_cases c : a0 ≤ xi
    · rw [if_pos c]
    · rw [if_neg c, if_neg hn]
      exact ih _ _ (okM_mm hok) (mm_aw hok h)
theorem e_pass {a0 : Int32} {k3 : Int64} {sf : Nat → Int32} {lc : Int32} {lr : Nat → Option Nat} {vT : Int32} {vG : Int64} {vM : Int32} {vO : Bool} {vN : Int32} {vD : Bool} {vA rc rl : Int32} {ro qi qc qp : Nat → Int32} : (f_X9_pass a0 0 k3 sf lc lr vT vG vM vO vN vD vA rc rl 0 ro qi qc qp).1 = (f_X10_pass a0 mf0).1 := by
  unfold f_X9_pass f_X10_pass
  rw [wi (a := a0) (l := 1) (h := 1000) (l' := 1) (h' := 1000) (by decide) (by decide)]
  by_cases h1 : f_X9_within a0 1 1000 = true
  · have h2 := within_iff.mp h1
    have e1 := xI1
    have e2 : (1000 : Int32).toInt = 1000 := by decide
    have e3 : (100000 : Int32).toInt = 100000 := by decide
    have e4 : (100000 : Int64).toInt = 100000 := by decide
    have e5 : mf0 77 = 0 := by decide +kernel
    rw [if_pos h1, if_pos h1, Int32.zero_add, e5, Int64.zero_add, if_pos (by rw [xle]; omega), if_pos (by rw [xleL, tL]; omega)]
    rw [pass_0 a0 _ _ _ ok_mf0 aw0]
    unfold f_X9_pass_k1
    show (if 0 < a0 then 0 else a0) = 0
    rw [if_pos (by rw [xlt, xI0]; omega)]
  · rw [if_neg h1, if_neg h1]
theorem g9z (x : Int64) : (0 : Int64) - 0 * x / 1000 = 0 := by rw [Int64.zero_mul]; decide
theorem q_0 {d : Int64} : f_X9_quotient 0 d = 0 := by
  unfold f_X9_quotient
  rw [Int64.zero_div]
  first | rfl | simp
theorem c_0 {sf : Nat → Int32} : f_X8_concentration sf 0 = 0 := by
  unfold f_X8_concentration f_X1_concentration
  exact q_0
theorem safe_0 {sf : Nat → Int32} (h : (1 : Int32).toInt ≤ (sf 8).toInt) : f_X8_isSafe sf 0 = true := by
  unfold f_X8_isSafe
  rw [c_0, if_neg]
  have e1 := xI1
  have e0 : (0 : Int64).toInt = 0 := by decide
  have e : f_X6_value 8 sf = sf 8 := by unfold f_X6_value; rw [if_pos (by decide)]; rfl
  rw [e, xleL, tL]
  omega
theorem e_purge {a0 : Int32} {k1 k2 k3 k4 k5 : Int64} {tm : Int32} {lr : Nat → Option Nat} {vT vM : Int32} {vO : Bool} {vN : Int32} {vD : Bool} {vA rc rl rm : Int32} {rd ro : Nat → Int32} {tmk : Int32} {k1k k2k k3k k4k k5k : Int64} {sfk : Nat → Int32} {lck : Int32} {lrk : Nat → Option Nat} {vTk : Int32} {vGk : Int64} {vMk : Int32} {vOk : Bool} {vNk : Int32} {vDk : Bool} {vAk rck rlk rmk : Int32} {rdk rok qi qt qc qp : Nat → Int32} {mg : Nat → Int64} :
    (f_X9_purge a0 tm k1 k2 k3 k4 k5 sfirst 0 lr vT 0 vM vO vN vD vA rc rl rm rd ro tmk k1k k2k k3k k4k k5k sfk lck lrk vTk vGk vMk vOk vNk vDk vAk rck rlk rmk rdk rok qi qt qc qp).1 = (f_X10_purge a0 mf0 mg).1 := by
  unfold f_X9_purge f_X10_purge
  rw [wi (a := a0) (l := 1) (h := 1000) (l' := 1) (h' := 1000) (by decide) (by decide)]
  by_cases h1 : f_X9_within a0 1 1000 = true
  · rw [if_pos h1, if_pos h1]
    have hR : (f_X10_purge_k1 a0 mf0 mg (f_X10_setMode 2 (vp_updL mf0 83 0))).1 = 0 := by
      unfold f_X10_purge_k1
      rw [f_X10_purge_lp34, if_pos (by decide +kernel), if_neg (by decide +kernel)]
    rw [hR]
    unfold f_X9_purge_k1 f_X9_purge_k2
    rw [f_X9_purge_lp49, if_neg (by have h2 := within_iff.mp h1; have e1 := xI1; have e0 := xI0; rw [xlt]; omega)]
    have hh : (1 : Int32).toInt ≤ (va_cpy sfirst sfk 0 0 11 8).toInt := (show (1 : Int32).toInt ≤ (sfirst 8).toInt by decide +kernel)
    split
    · rfl
    · rename_i q
      exact absurd (safe_0 hh) q
  · rw [if_neg h1, if_neg h1]
theorem e_save_lp (a0 : Int32) (mf : Nat → Int64) (mz : Nat → Int32) (h : (mf 77).toInt32 = 0) : ∀ (n : Nat) (xi : Int32) (yg : Nat → Int64), (f_X10_save_lp15 a0 mf mz n xi yg).1 = 0 := by
  intro n
  induction n with
  | zero => intro xi yg; rfl
  | succ n ih =>
    intro xi yg
    rw [f_X10_save_lp15]
    by_cases c : 93 ≤ xi
    · rw [if_pos c]; exact h
    · rw [if_neg c]; exact ih _ _
theorem e_restore_10 {a0 : Int32} {ms_ : Nat → Int64} : (f_X10_restore a0 mf0 ms_ (fun _ => 0)).1 = if f_X9_within a0 0 1 = true then -5 else -2 := by
  unfold f_X10_restore
  rw [wi (a := a0) (l := 0) (h := 1) (l' := 0) (h' := 1) (by decide) (by decide)]
  by_cases h1 : f_X9_within a0 0 1 = true
  · rw [if_pos h1, if_pos h1, if_pos rfl]
  · rw [if_neg h1, if_neg h1]
theorem e_save_10 {a0 : Int32} {ms_ : Nat → Int64} {mz : Nat → Int32} : (f_X10_save a0 mf0 ms_ mz).1 = if f_X9_within a0 0 1 = true then 0 else -2 := by
  unfold f_X10_save
  rw [wi (a := a0) (l := 0) (h := 1) (l' := 0) (h' := 1) (by decide) (by decide)]
  by_cases h1 : f_X9_within a0 0 1 = true
  · rw [if_pos h1, if_pos h1, e_save_lp _ _ _ (by decide +kernel)]
  · rw [if_neg h1, if_neg h1]
theorem c26 {a : Int32} {lo hi : Int} (h : lo ≤ a.toInt ∧ a.toInt ≤ hi) (P : Int32 → Prop) (hP : ∀ k : Int32, lo ≤ k.toInt → k.toInt ≤ hi → P k) : P a := hP a h.1 h.2
theorem e_acc {a0 : Int32} {lr : Nat → Option Nat} {qc : Nat → Int32} : f_X9_account a0 0 0 0 0 0 0 lr qc = f_X10_account a0 mf0 := by
  have r1 : f_X10_account 1 mf0 = 0 := by decide +kernel
  have r2 : f_X10_account 2 mf0 = 0 := by decide +kernel
  have r3 : f_X10_account 3 mf0 = 0 := by decide +kernel
  have r4 : f_X10_account 4 mf0 = 0 := by decide +kernel
  have r5 : f_X10_account 5 mf0 = 0 := by decide +kernel
  by_cases c0 : a0 = 0
  · subst c0
    unfold f_X9_account f_X10_account
    rw [if_pos rfl, if_pos rfl, ia0, al0]; rfl
  by_cases c1 : a0 = 1
  · subst c1; rw [r1]; rfl
  by_cases c2 : a0 = 2
  · subst c2; rw [r2]; rfl
  by_cases c3 : a0 = 3
  · subst c3; rw [r3]; rfl
  by_cases c4 : a0 = 4
  · subst c4; rw [r4]; rfl
  by_cases c5 : a0 = 5
  · subst c5; rw [r5]; rfl
  unfold f_X9_account f_X10_account
  rw [if_neg c0, if_neg c1, if_neg c2, if_neg c3, if_neg c4, if_neg c5, if_neg c0, if_neg]
  intro q
  obtain ⟨q1, q2⟩ := in_iff.mp q
  rw [tL] at q1 q2
  have e1 : (1 : Int64).toInt = 1 := by decide
  have e5 : (5 : Int64).toInt = 5 := by decide
  have h : a0.toInt = 1 ∨ a0.toInt = 2 ∨ a0.toInt = 3 ∨ a0.toInt = 4 ∨ a0.toInt = 5 := by omega
  rcases h with h | h | h | h | h
  · exact c1 (Int32.toInt_inj.mp (h.trans (by decide)))
  · exact c2 (Int32.toInt_inj.mp (h.trans (by decide)))
  · exact c3 (Int32.toInt_inj.mp (h.trans (by decide)))
  · exact c4 (Int32.toInt_inj.mp (h.trans (by decide)))
  · exact c5 (Int32.toInt_inj.mp (h.trans (by decide)))
theorem e_set {a0 a1 : Int32} : (f_X9_set a0 a1 sfirst).1 = (f_X10_set a0 a1 mf0).1 := by
  have key : ∀ (k lo hi : Int32) (lo' hi' : Int64) (v : Int32), f_X9_within k 0 10 = true → sleast k.toNatClampNeg = lo → smost k.toNatClampNeg = hi → f_X10_takes k v = f_X10_in v.toInt64 lo' hi' → lo' = lo.toInt64 → hi' = hi.toInt64 → sfirst k.toNatClampNeg = (mf0 (64 + k).toNatClampNeg).toInt32 → (f_X9_set k v sfirst).1 = (f_X10_set k v mf0).1 := by
    intro k lo hi lo' hi' v h1 h2 h3 h4 h5 h6 h7
    have hA : f_X6_allows k v = f_X9_within v lo hi := by
      unfold f_X6_allows
      rw [if_pos h1, h2, h3]
      by_cases c : f_X9_within v lo hi = true
      · rw [if_pos c, c]
      · rw [if_neg c]; exact (Bool.eq_false_iff.mpr c).symm
    unfold f_X9_set f_X10_set
    rw [hA, h4, wi h5 h6]
    by_cases c : f_X9_within v lo hi = true
    · rw [if_pos c, if_pos c]
      unfold f_X6_change f_X6_value
      rw [hA, if_pos c, if_pos h1]
      exact h7
    · rw [if_neg c, if_neg c]
  by_cases c : f_X9_within a0 0 10 = true
  · have h := within_iff.mp c
    have e0 := xI0
    have e10 : (10 : Int32).toInt = 10 := by decide
    have hc : a0.toInt = 0 ∨ a0.toInt = 1 ∨ a0.toInt = 2 ∨ a0.toInt = 3 ∨ a0.toInt = 4 ∨ a0.toInt = 5 ∨ a0.toInt = 6 ∨ a0.toInt = 7 ∨ a0.toInt = 8 ∨ a0.toInt = 9 ∨ a0.toInt = 10 := by omega
    have inj : ∀ k : Int32, a0.toInt = k.toInt → a0 = k := fun k q => Int32.toInt_inj.mp q
    rcases hc with q | q | q | q | q | q | q | q | q | q | q
    · have := inj 0 (q.trans (by decide)); subst this; exact key 0 0 1000 0 1000 a1 c rfl rfl rfl (by decide) (by decide) (by decide +kernel)
    · have := inj 1 (q.trans (by decide)); subst this; exact key 1 1 100 1 100 a1 c rfl rfl rfl (by decide) (by decide) (by decide +kernel)
    · have := inj 2 (q.trans (by decide)); subst this; exact key 2 0 500 0 500 a1 c rfl rfl rfl (by decide) (by decide) (by decide +kernel)
    · have := inj 3 (q.trans (by decide)); subst this; exact key 3 0 100 0 100 a1 c rfl rfl rfl (by decide) (by decide) (by decide +kernel)
    · have := inj 4 (q.trans (by decide)); subst this; exact key 4 0 900 0 900 a1 c rfl rfl rfl (by decide) (by decide) (by decide +kernel)
    · have := inj 5 (q.trans (by decide)); subst this; exact key 5 1 50000 1 50000 a1 c rfl rfl rfl (by decide) (by decide) (by decide +kernel)
    · have := inj 6 (q.trans (by decide)); subst this; exact key 6 0 50000 0 50000 a1 c rfl rfl rfl (by decide) (by decide) (by decide +kernel)
    · have := inj 7 (q.trans (by decide)); subst this; exact key 7 0 100 0 100 a1 c rfl rfl rfl (by decide) (by decide) (by decide +kernel)
    · have := inj 8 (q.trans (by decide)); subst this; exact key 8 1 50000 1 50000 a1 c rfl rfl rfl (by decide) (by decide) (by decide +kernel)
    · have := inj 9 (q.trans (by decide)); subst this; exact key 9 1 200 1 200 a1 c rfl rfl rfl (by decide) (by decide) (by decide +kernel)
    · have := inj 10 (q.trans (by decide)); subst this
      refine key 10 1 100000 1 100000 a1 c rfl rfl ?_ (by decide) (by decide) (by decide +kernel)
      first | rfl | (unfold f_X10_takes; simp)
  · have hA : f_X6_allows a0 a1 = false := by unfold f_X6_allows; rw [if_neg c]
    have hB : f_X10_takes a0 a1 = false := Bool.eq_false_iff.mpr fun q => c (within_iff.mpr (by
      have h := takes_in q
      have e0 := xI0
      have e10 : (10 : Int32).toInt = 10 := by decide
      omega))
    unfold f_X9_set f_X10_set
    rw [hA, hB]; rfl

theorem lgo_0 {a b : Int32} {lr : Nat → Option Nat} {qi qc qp : Nat → Int32} : f_X2_letGoOff a b 0 lr qi qc qp = (0, qc, qp) := by
  unfold f_X2_letGoOff
  rw [f_X2_letGoOff_lp5, if_pos (by decide)]
theorem lgas_0 {vO vD : Bool} {sf : Nat → Int32} : f_X1_loseGas 0 vO vD sf = 0 := by
  unfold f_X1_loseGas
  simp only [g9z]
  repeat' split
  all_goals rfl
theorem h_gas {a1 vT vM vN vA : Int32} {vO vD : Bool} {sf : Nat → Int32} : (f_X1_letMinutePass 0 a1 vT 0 vM vO vN vD vA sf).2.1 = 0 := by
  unfold f_X1_letMinutePass
  have e : (0 : Int64) + (0 : Int32).toInt64 = 0 := by decide
  simp only [e, lgas_0]
  repeat' split
  all_goals rfl
theorem v_gas {tm : Int32} {k3 : Int64} {sf : Nat → Int32} {lr : Nat → Option Nat} {vT vM : Int32} {vO : Bool} {vN : Int32} {vD : Bool} {vA rc rl rm : Int32} {ro qi qc qp : Nat → Int32} : (f_X8_letMinutePass tm k3 sf 0 lr vT 0 vM vO vN vD vA rc rl rm ro qi qc qp).2.2.2.1 = 0 := by
  unfold f_X8_letMinutePass
  rw [lgo_0]
  unfold f_X8_letMinutePass_k1 f_X8_letMinutePass_k2
  exact h_gas
theorem vlc_0 {tm : Int32} {k3 : Int64} {sf : Nat → Int32} {lc : Int32} (hlc : lc = 0) {lr : Nat → Option Nat} {vT vM : Int32} {vO : Bool} {vN : Int32} {vD : Bool} {vA rc rl rm : Int32} {ro qi qc qp : Nat → Int32} : (f_X8_letMinutePass tm k3 sf lc lr vT 0 vM vO vN vD vA rc rl rm ro qi qc qp).2.2.2.1 = 0 := by
  subst hlc; exact v_gas
theorem wo9 (a0 : Int32) (lrk : Nat → Option Nat) (o : Int32 × Int64 × Int64 × Int64 × Int64 × Int64 × (Nat → Int32) × Int32 × Int32 × Int64 × Int32 × Bool × Int32 × Bool × Int32 × Int32 × Int32 × Int32 × (Nat → Int32) × (Nat → Int32) × (Nat → Int32) × (Nat → Int32) × (Nat → Int32) × (Nat → Int32)) (hlc : o.2.2.2.2.2.2.2.1 = 0) : ∀ (n : Nat) (xi yT : Int32) (yO : Bool) (yN yA ym yt : Int32) (yk : Int64) (yc yp : Nat → Int32), (f_X9_worst_lp30 a0 lrk o n 0 xi yT 0 yO yN yA ym yt yk yc yp).1 = 0 := by
  intro n
  induction n with
  | zero => intro xi yT yO yN yA ym yt yk yc yp; rfl
  | succ n ih =>
    intro xi yT yO yN yA ym yt yk yc yp
    rw [f_X9_worst_lp30]
    by_cases c : a0 ≤ xi
    · rw [if_pos c]; rfl
    · rw [if_neg c]
      have hg := fun (tm : Int32) (k3 : Int64) (sf : Nat → Int32) (lr : Nat → Option Nat) (vT vM : Int32) (vO : Bool) (vN : Int32) (vD : Bool) (vA rc rl rm : Int32) (ro qi qc qp : Nat → Int32) => vlc_0 (tm := tm) (k3 := k3) (sf := sf) hlc (lr := lr) (vT := vT) (vM := vM) (vO := vO) (vN := vN) (vD := vD) (vA := vA) (rc := rc) (rl := rl) (rm := rm) (ro := ro) (qi := qi) (qc := qc) (qp := qp)
      unfold f_X9_worst_k2
      simp only [hg, c_0]
      rw [if_neg (by decide)]
      exact ih _ _ _ _ _ _ _ _ _ _
theorem sm79_warm {a : Int64} {f : Nat → Int64} : f_X10_warm a f 79 = f 79 := by
  unfold f_X10_warm
  repeat' split
  all_goals repeat' first | rfl | rw [uL_ne (by decide)]
theorem sm79_turn {f : Nat → Int64} : f_X10_turnVent f 79 = f 79 := by
  unfold f_X10_turnVent f_X10_openVent f_X10_shutVent
  repeat' split
  all_goals repeat' first | rfl | rw [uL_ne (by decide)]
theorem sm79_k4 {f : Nat → Int64} : f_X10_makeMinute_k4 f 79 = f 79 := by
  unfold f_X10_makeMinute_k4
  repeat' split
  all_goals repeat' first | rfl | rw [uL_ne (by decide)]
theorem blow79 {f : Nat → Int64} (h : f 79 = 0) : f_X10_blow f 79 = 0 := by
  unfold f_X10_blow
  simp only [h, g9z]
  repeat' split
  all_goals rw [uL_eq]
theorem goOff79 {f : Nat → Int64} (h75 : f 75 = 0) (h : f 79 = 0) : (f_X10_goOff f).2 79 = 0 := by
  unfold f_X10_goOff
  have hb : f_X10_boxes f = 0 := by unfold f_X10_boxes; rw [h75]; rfl
  rw [f_X10_goOff_lp4, hb, if_pos (by decide), h]
  show vp_updL (vp_updL f 79 (0 + 0)) 90 (f 90 + 0) 79 = 0
  rw [uL_ne (by decide), uL_eq]; rfl
theorem mm79 {f : Nat → Int64} (h75 : f 75 = 0) (h : f 79 = 0) : f_X10_makeMinute f 79 = 0 := by
  have hM : f_X10_makeMinute f = f_X10_makeMinute_k4 (f_X10_turnVent (f_X10_blow (f_X10_warm (f_X10_goOff f).1 (f_X10_goOff f).2))) := rfl
  rw [hM, sm79_k4, sm79_turn, blow79]
  rw [sm79_warm]
  exact goOff79 h75 h
theorem conc79 {f : Nat → Int64} (h : f 79 = 0) : f_X10_concentration f = 0 := by
  unfold f_X10_concentration
  rw [h, Int64.zero_div]; rfl
theorem wo10 (a0 : Int32) (mf mg : Nat → Int64) : ∀ (n : Nat) (xi : Int32) (yf : Nat → Int64), okM yf → yf 75 = 0 → yf 79 = 0 → (f_X10_worst_lp23 a0 mf mg n 0 xi yf).1 = 0 := by
  intro n
  induction n with
  | zero => intro xi yf _ _ _; rfl
  | succ n ih =>
    intro xi yf hok h75 h79
    rw [f_X10_worst_lp23]
    by_cases c : a0 ≤ xi
    · rw [if_pos c]
    · rw [if_neg c]
      have h1 := mm79 h75 h79
      unfold f_X10_worst_k1
      rw [conc79 h1, if_pos (by decide)]
      exact ih _ _ (okM_mm hok) ((sm_mm (okM_B hok) 75 rfl).trans h75) h1
theorem e_worst {a0 : Int32} {k1 k2 k3 k4 k5 : Int64} {tm : Int32} {sf : Nat → Int32} {lr : Nat → Option Nat} {vT vM : Int32} {vO : Bool} {vN : Int32} {vD : Bool} {vA rc rl rm : Int32} {rd ro : Nat → Int32} {tmk : Int32} {k1k k2k k3k k4k k5k : Int64} {sfk : Nat → Int32} {lck : Int32} {lrk : Nat → Option Nat} {vTk : Int32} {vGk : Int64} {vMk : Int32} {vOk : Bool} {vNk : Int32} {vDk : Bool} {vAk rck rlk rmk : Int32} {rdk rok qi qt qc qp : Nat → Int32} {mg : Nat → Int64} :
    (f_X9_worst a0 tm k1 k2 k3 k4 k5 sf 0 lr vT 0 vM vO vN vD vA rc rl rm rd ro tmk k1k k2k k3k k4k k5k sfk lck lrk vTk vGk vMk vOk vNk vDk vAk rck rlk rmk rdk rok qi qt qc qp).1 = (f_X10_worst a0 mf0 mg).1 := by
  unfold f_X9_worst f_X10_worst
  rw [wi (a := a0) (l := 1) (h := 1000) (l' := 1) (h' := 1000) (by decide) (by decide)]
  by_cases h1 : f_X9_within a0 1 1000 = true
  · rw [if_pos h1, if_pos h1, wo10 a0 mf0 mg _ _ _ ok_mf0 (by decide +kernel) (by decide +kernel)]
    unfold f_X9_worst_k1
    exact wo9 a0 lrk _ (bl_lc rfl) _ _ _ _ _ _ _ _ _ _ _
  · rw [if_neg h1, if_neg h1]

theorem e_van {a0 : Int32} : f_X9_van a0 0 sfirst 0 f_X1_init.1 0 f_X1_init.2 false 0 false 0 0 (-1) 0 (fun _ => 0) 0 = f_X10_van a0 0 mf0 := by
  by_cases c : f_X9_within a0 0 25 = true
  · have h := within_iff.mp c
    have e0 := xI0
    have e10 : (25 : Int32).toInt = 25 := by decide
    have V : ∀ k : Int32, f_X9_van k 0 sfirst 0 f_X1_init.1 0 f_X1_init.2 false 0 false 0 0 (-1) 0 (fun _ => 0) 0 = f_X10_van k 0 mf0 → a0.toInt = k.toInt → f_X9_van a0 0 sfirst 0 f_X1_init.1 0 f_X1_init.2 false 0 false 0 0 (-1) 0 (fun _ => 0) 0 = f_X10_van a0 0 mf0 := fun k h q => by
      have := Int32.toInt_inj.mp q
      subst this; exact h
    have hc : a0.toInt = 0 ∨ a0.toInt = 1 ∨ a0.toInt = 2 ∨ a0.toInt = 3 ∨ a0.toInt = 4 ∨ a0.toInt = 5 ∨ a0.toInt = 6 ∨ a0.toInt = 7 ∨ a0.toInt = 8 ∨ a0.toInt = 9 ∨ a0.toInt = 10 ∨ a0.toInt = 11 ∨ a0.toInt = 12 ∨ a0.toInt = 13 ∨ a0.toInt = 14 ∨ a0.toInt = 15 ∨ a0.toInt = 16 ∨ a0.toInt = 17 ∨ a0.toInt = 18 ∨ a0.toInt = 19 ∨ a0.toInt = 20 ∨ a0.toInt = 21 ∨ a0.toInt = 22 ∨ a0.toInt = 23 ∨ a0.toInt = 24 ∨ a0.toInt = 25 := by omega
    rcases hc with q | q | q | q | q | q | q | q | q | q | q | q | q | q | q | q | q | q | q | q | q | q | q | q | q | q
    · exact V 0 (by decide +kernel) (q.trans (by decide))
    · exact V 1 (by decide +kernel) (q.trans (by decide))
    · exact V 2 (by decide +kernel) (q.trans (by decide))
    · exact V 3 (by decide +kernel) (q.trans (by decide))
    · exact V 4 (by decide +kernel) (q.trans (by decide))
    · exact V 5 (by decide +kernel) (q.trans (by decide))
    · exact V 6 (by decide +kernel) (q.trans (by decide))
    · exact V 7 (by decide +kernel) (q.trans (by decide))
    · exact V 8 (by decide +kernel) (q.trans (by decide))
    · exact V 9 (by decide +kernel) (q.trans (by decide))
    · exact V 10 (by decide +kernel) (q.trans (by decide))
    · exact V 11 (by decide +kernel) (q.trans (by decide))
    · exact V 12 (by decide +kernel) (q.trans (by decide))
    · exact V 13 (by decide +kernel) (q.trans (by decide))
    · exact V 14 (by decide +kernel) (q.trans (by decide))
    · exact V 15 (by decide +kernel) (q.trans (by decide))
    · exact V 16 (by decide +kernel) (q.trans (by decide))
    · exact V 17 (by decide +kernel) (q.trans (by decide))
    · exact V 18 (by decide +kernel) (q.trans (by decide))
    · exact V 19 (by decide +kernel) (q.trans (by decide))
    · exact V 20 (by decide +kernel) (q.trans (by decide))
    · exact V 21 (by decide +kernel) (q.trans (by decide))
    · exact V 22 (by decide +kernel) (q.trans (by decide))
    · exact V 23 (by decide +kernel) (q.trans (by decide))
    · exact V 24 (by decide +kernel) (q.trans (by decide))
    · exact V 25 (by decide +kernel) (q.trans (by decide))
  · have n : ∀ k : Int32, (0 ≤ k.toInt ∧ k.toInt ≤ 25) → ¬ a0 = k := fun k hk q => c (within_iff.mpr (by
      have e0 := xI0
      have e10 : (25 : Int32).toInt = 25 := by decide
      rw [q]; omega))
    have hR : f_X10_van a0 0 mf0 = -1000000002 := by
      unfold f_X10_van
      rw [wi (a := a0) (l := 15) (h := 25) (l' := 15) (h' := 25) (by decide) (by decide), if_neg (fun q => c (within_iff.mpr (by
        have h := within_iff.mp q
        have e0 := xI0
        have e10 : (25 : Int32).toInt = 25 := by decide
        have e15 : (15 : Int32).toInt = 15 := by decide
        omega)))]
      rw [if_neg (n 0 (by decide)), if_neg (n 1 (by decide)), if_neg (n 2 (by decide)), if_neg (n 3 (by decide)), if_neg (n 4 (by decide)), if_neg (n 5 (by decide)), if_neg (n 6 (by decide)), if_neg (n 7 (by decide)), if_neg (n 8 (by decide)), if_neg (n 9 (by decide)), if_neg (n 10 (by decide)), if_neg (n 11 (by decide)), if_neg (n 12 (by decide)), if_neg (n 13 (by decide)), if_neg (n 14 (by decide))]
    rw [hR]
    unfold f_X9_van
    rw [if_neg c]
theorem e_save {a0 : Int32} {k1 k2 k3 k4 k5 : Int64} {sf : Nat → Int32} {lc : Int32} {lr : Nat → Option Nat} {vT : Int32} {vG : Int64} {vM : Int32} {vO : Bool} {vN : Int32} {vD : Bool} {vA rc rl rm : Int32} {rd ro : Nat → Int32} {fu : Bool} {tmu : Int32} {k1u k2u k3u k4u k5u : Int64} {sfu : Nat → Int32} {lcu : Int32} {lru : Nat → Option Nat} {vTu : Int32} {vGu : Int64} {vMu : Int32} {vOu : Bool} {vNu : Int32} {vDu : Bool} {vAu rcu rlu rmu : Int32} {rdu rou : Nat → Int32} {fw : Bool} {tmw : Int32} {k1w k2w k3w k4w k5w : Int64} {sfw : Nat → Int32} {lcw : Int32} {lrw : Nat → Option Nat} {vTw : Int32} {vGw : Int64} {vMw : Int32} {vOw : Bool} {vNw : Int32} {vDw : Bool} {vAw rcw rlw rmw : Int32} {rdw row qi qt qc qp : Nat → Int32} {ms_ : Nat → Int64} {mz : Nat → Int32} :
    (f_X9_save a0 0 k1 k2 k3 k4 k5 sf lc lr vT vG vM vO vN vD vA rc rl rm rd ro fu tmu k1u k2u k3u k4u k5u sfu lcu lru vTu vGu vMu vOu vNu vDu vAu rcu rlu rmu rdu rou fw tmw k1w k2w k3w k4w k5w sfw lcw lrw vTw vGw vMw vOw vNw vDw vAw rcw rlw rmw rdw row qi qt qc qp).1 = (f_X10_save a0 mf0 ms_ mz).1 := by
  rw [e_save_10]
  unfold f_X9_save
  by_cases h1 : f_X9_within a0 0 1 = true
  · rw [if_pos h1, if_pos h1]
    by_cases h2 : a0 = 0
    · rw [if_pos h2]; rfl
    · rw [if_neg h2]; rfl
  · rw [if_neg h1, if_neg h1]
theorem e_restore {a0 : Int32} {tm : Int32} {k1 k2 k3 k4 k5 : Int64} {sf : Nat → Int32} {lc : Int32} {lr : Nat → Option Nat} {vT : Int32} {vG : Int64} {vM : Int32} {vO : Bool} {vN : Int32} {vD : Bool} {vA rc rl rm : Int32} {rd ro : Nat → Int32} {tmu : Int32} {k1u k2u k3u k4u k5u : Int64} {sfu : Nat → Int32} {lcu : Int32} {lru : Nat → Option Nat} {vTu : Int32} {vGu : Int64} {vMu : Int32} {vOu : Bool} {vNu : Int32} {vDu : Bool} {vAu rcu rlu rmu : Int32} {rdu rou : Nat → Int32} {tmw : Int32} {k1w k2w k3w k4w k5w : Int64} {sfw : Nat → Int32} {lcw : Int32} {lrw : Nat → Option Nat} {vTw : Int32} {vGw : Int64} {vMw : Int32} {vOw : Bool} {vNw : Int32} {vDw : Bool} {vAw rcw rlw rmw : Int32} {rdw row qi qt qc qp : Nat → Int32} {ms_ : Nat → Int64} :
    (f_X9_restore a0 tm k1 k2 k3 k4 k5 sf lc lr vT vG vM vO vN vD vA rc rl rm rd ro false tmu k1u k2u k3u k4u k5u sfu lcu lru vTu vGu vMu vOu vNu vDu vAu rcu rlu rmu rdu rou false tmw k1w k2w k3w k4w k5w sfw lcw lrw vTw vGw vMw vOw vNw vDw vAw rcw rlw rmw rdw row qi qt qc qp).1 = (f_X10_restore a0 mf0 ms_ (fun _ => 0)).1 := by
  rw [e_restore_10]
  unfold f_X9_restore
  by_cases h1 : f_X9_within a0 0 1 = true
  · rw [if_pos h1, if_pos h1]
    by_cases h2 : a0 = 0
    · rw [if_pos h2, if_neg (by decide)]
    · rw [if_neg h2, if_neg (by decide)]
  · rw [if_neg h1, if_neg h1]
