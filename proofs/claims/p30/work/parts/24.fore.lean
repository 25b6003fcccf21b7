theorem tt1 (a b : Int64) : a - (b + 1) - 1 = a - b - 1 - 1 := by grind
theorem tt2 {a b : Int64} (h : a - b - 1 = 0) : b + 1 = a := by grind
/-- how many minutes are left of the leg, as the reference counts -/
def awl (f : Nat → Int64) : Nat := (f (40 + 2 * (f 84).toInt32).toNatClampNeg - f 85 - 1).toBitVec.toNat
def awm (f : Nat → Int64) : Nat := if f 86 = 1 then awl f + 1 else 0
theorem aw_dn {x : Int64} (h : ¬ x = 0) : (x - 1).toBitVec.toNat + 1 = x.toBitVec.toNat := by
  have h1 : x.toBitVec.toNat ≠ 0 := fun q => h (by
    apply Int64.toBitVec_inj.mp
    apply BitVec.eq_of_toNat_eq
    rw [q]; rfl)
  have h2 : (x - 1).toBitVec = x.toBitVec - 1#64 := Int64.toBitVec_sub
  rw [h2, BitVec.toNat_sub]
  have h3 := x.toBitVec.isLt
  have h4 : (1#64).toNat = 1 := rfl
  rw [h4]
  omega
theorem aw_lit {f : Nat → Int64} {i : Int32} {k : Nat} {v : Int64} (h : 0 ≤ i.toInt ∧ i.toInt < 64) (hk : 64 ≤ k) : vp_updL f k v i.toNatClampNeg = f i.toNatClampNeg := by
  refine uL_ne fun q => ?_
  have : i.toInt.toNat = k := q
  omega
/-- while away: the minute counts, and ends the leg when it is full -/
theorem mm_k4 {f : Nat → Int64} (hi : 0 ≤ (40 + 2 * (f 84).toInt32).toInt ∧ (40 + 2 * (f 84).toInt32).toInt < 64) (h : f 86 = 1) : f_X10_makeMinute_k4 f 85 = f 85 + 1 ∧ f_X10_makeMinute_k4 f 86 = (if f 85 + 1 = f (40 + 2 * (f 84).toInt32).toNatClampNeg then 0 else 1) := by
  have ha : ∀ v w : Int64, f_X10_isAway (vp_updL (vp_updL f 87 v) 77 w) = true := fun v w => by
    unfold f_X10_isAway
    have e : vp_updL (vp_updL f 87 v) 77 w 86 = 1 := by rw [uL_ne (by decide), uL_ne (by decide)]; exact h
    rw [if_pos e]
  have hc : ∀ u v w : Int64, vp_updL (vp_updL (vp_updL f 87 u) 77 v) 85 w (40 + 2 * (f 84).toInt32).toNatClampNeg = f (40 + 2 * (f 84).toInt32).toNatClampNeg := fun u v w => by
    rw [aw_lit hi (by decide), aw_lit hi (by decide), aw_lit hi (by decide)]
  unfold f_X10_makeMinute_k4
  simp only [ha, hc, if_true]
  repeat' split
  all_goals exact ⟨by first | (rw [uL_ne (by decide), uL_eq]) | rfl, by rw [uL_eq]⟩

theorem mm_same {f : Nat → Int64} (h : okM f) : xsm xkm f (f_X10_turnVent (f_X10_blow (f_X10_warm (f_X10_goOff f).1 (f_X10_goOff f).2))) :=
  xsm_t (sm_goOff (okM_B h)) (xsm_t sm_warm (xsm_t sm_blow sm_turnVent))
theorem lg_nat {x : Int32} (h : 0 ≤ x.toInt ∧ x.toInt < 12) : xkm2 (40 + 2 * x).toNatClampNeg = true := by
  have h1 : (40 + 2 * x).toNatClampNeg = (40 + 2 * x.toInt).toNat := by show (40 + 2 * x).toInt.toNat = _; rw [lg_i (by omega)]
  rw [h1]
  have h2 : x.toInt = 0 ∨ x.toInt = 1 ∨ x.toInt = 2 ∨ x.toInt = 3 ∨ x.toInt = 4 ∨ x.toInt = 5 ∨ x.toInt = 6 ∨ x.toInt = 7 ∨ x.toInt = 8 ∨ x.toInt = 9 ∨ x.toInt = 10 ∨ x.toInt = 11 := by omega
  rcases h2 with h2 | h2 | h2 | h2 | h2 | h2 | h2 | h2 | h2 | h2 | h2 | h2 <;> rw [h2] <;> rfl
theorem aw_mu {f : Nat → Int64} {k : Nat} (hok : okM f) (h : f_X10_isAway f = true) (hm : awm f < k + 1) : awm (f_X10_makeMinute f) < k := by
  have h86 : f 86 = 1 := isAway_1 h
  have hs := mm_same hok
  have hla : 0 ≤ (f 84).toInt32.toInt ∧ (f 84).toInt32.toInt < 12 := ⟨by rw [okM_la hok]; exact hok.2.2.2.2.2.2.1 h86, (lg_la hok).2⟩
  have e84 := hs 84 rfl
  have e85 := hs 85 rfl
  have e86 := hs 86 rfl
  have el := hs (40 + 2 * (f 84).toInt32).toNatClampNeg (xkm2_km (lg_nat hla))
  generalize hg : f_X10_turnVent (f_X10_blow (f_X10_warm (f_X10_goOff f).1 (f_X10_goOff f).2)) = g at *
  have hM : f_X10_makeMinute f = f_X10_makeMinute_k4 g := by rw [← hg]; rfl
  have hi : 0 ≤ (40 + 2 * (g 84).toInt32).toInt ∧ (40 + 2 * (g 84).toInt32).toInt < 64 := by
    rw [e84, lg_i (by omega)]; omega
  have h4 := mm_k4 hi (e86.trans h86)
  rw [e84, e85, el] at h4
  have hs2 := sm_mm_k4 (f := g)
  rw [hM]
  have f84 : f_X10_makeMinute_k4 g 84 = f 84 := (hs2 84 rfl).trans e84
  have fl : f_X10_makeMinute_k4 g (40 + 2 * (f 84).toInt32).toNatClampNeg = f (40 + 2 * (f 84).toInt32).toNatClampNeg := (hs2 _ (lg_nat hla)).trans el
  unfold awm at hm ⊢
  rw [if_pos h86] at hm
  rw [h4.2]
  by_cases c : f 85 + 1 = f (40 + 2 * (f 84).toInt32).toNatClampNeg
  · rw [if_pos c, if_neg (by decide)]; omega
  · rw [if_neg c, if_pos rfl]
    unfold awl at hm ⊢
    rw [f84, fl, h4.1]
    have e : f (40 + 2 * (f 84).toInt32).toNatClampNeg - (f 85 + 1) - 1 = (f (40 + 2 * (f 84).toInt32).toNatClampNeg - f 85 - 1) - 1 := by
      exact tt1 _ _
    rw [e]
    have h0 : ¬ (f (40 + 2 * (f 84).toInt32).toNatClampNeg - f 85 - 1) = 0 := fun q => c (by
      exact tt2 q)
    have := aw_dn h0
    omega

def f_X10_goToStop_lp0 : Nat → (Nat → Int64) → (Nat → Int64)
  | 0, _ => (fun _ => 0)
  | n + 1, yf =>
    if (f_X10_isAway yf) = true then
      f_X10_goToStop_lp0 n (f_X10_makeMinute yf)
    else
      yf
def f_X10_goToStop (mf : Nat → Int64) : (Nat → Int64) :=
  f_X10_goToStop_lp0 (awm mf + 1) mf
set_option maxHeartbeats 4000000 in
set_option maxRecDepth 100000 in
theorem c_X10_goToStop (l : Launch) (D : va_G) (cI cJ cZ cB : ClassId) (sz : Nat) (aM : Nat) (mA : Nat) (mB : Nat) (mC : Nat) (mD : Nat) (mE : Nat) (pm : Int32) (sp : Int32) (iw : Bool) (mF : Nat) (rn : Int32) (mf : Nat → Int64) (hok : okM mf) (o : (Nat → Int64)) (ho : f_X10_goToStop mf = o) : Met l yX10_goToStop wsX10_goToStop ({ frames := 4, cells := 0, slots := 0, locals := 92 } : Room) (xPre D (xT cI cJ cZ cB) [.ref aM] [(aM, .inr (10, [.ref mA, .ref mB, .ref mC, .ref mD, .ref mE, .int pm, .int sp, .int (bi iw), .ref mF, .int rn])), (mA, .inl (cJ, 93, .inr (.inl mf)))] sz) (va_Qv (fun _ : Unit => True) (fun _ t => xB D ([(aM, .inr (10, [.ref mA, .ref mB, .ref mC, .ref mD, .ref mE, .int pm, .int sp, .int (bi iw), .ref mF, .int rn])), (mA, .inl (cJ, 93, .inr (.inl o)))]) (va_A [(aM, .inr (10, [.ref mA, .ref mB, .ref mC, .ref mD, .ref mE, .int pm, .int sp, .int (bi iw), .ref mF, .int rn])), (mA, .inl (cJ, 93, .inr (.inl mf)))] sz) t) (va_A [(aM, .inr (10, [.ref mA, .ref mB, .ref mC, .ref mD, .ref mE, .int pm, .int sp, .int (bi iw), .ref mF, .int rn])), (mA, .inl (cJ, 93, .inr (.inl mf)))] sz)) 0 0 (va_A [(aM, .inr (10, [.ref mA, .ref mB, .ref mC, .ref mD, .ref mE, .int pm, .int sp, .int (bi iw), .ref mF, .int rn])), (mA, .inl (cJ, 93, .inr (.inl mf)))] sz) := by
  refine xofW (Qc := fun A0 => va_Qv (fun _ : Unit => True) (fun _ t => xB D ([(aM, .inr (10, [.ref mA, .ref mB, .ref mC, .ref mD, .ref mE, .int pm, .int sp, .int (bi iw), .ref mF, .int rn])), (mA, .inl (cJ, 93, .inr (.inl o)))]) A0 t) A0) (fr := fun A => A) (cc := cX10_goToStop) (maxL := 1) (ret := none) (by decide) rfl (Nat.le_of_ble_eq_true rfl) ?_
  intro p e s m below meth c A ⟨hx, hb, hml, hown, hts⟩ hrt hlocks hnm hsz hK hW hA hG ls hl
  have hown : s.vm.findClass RX10 = some m.cls := hown
  have hl : lv_has ls 1 [(0, .ref aM)] := hl
  obtain ⟨H, hH⟩ : ∃ H, H = s.heap := ⟨_, rfl⟩
  have hW : xW D A s.heap ([(aM, .inr (10, [.ref mA, .ref mB, .ref mC, .ref mD, .ref mE, .int pm, .int sp, .int (bi iw), .ref mF, .int rn])), (mA, .inl (cJ, 93, .inr (.inl mf)))] ++ []) H [] := by rw [hH]; exact hW
  rw [← hH]
  have hl0_ : ∀ (n : Nat) (yf : Nat → Int64), f_X10_goToStop_lp0 n yf = o → (okM yf) → awm yf < n → ∀ (H : Heap) (locs : List Loc) (ls : Array Slot), xW D A s.heap ([(aM, .inr (10, [.ref mA, .ref mB, .ref mC, .ref mD, .ref mE, .int pm, .int sp, .int (bi iw), .ref mF, .int rn])), (mA, .inl (cJ, 93, .inr (.inl yf)))] ++ []) H locs → lv_has ls 1 [(0, .ref aM)] → W p l e ({ frames := 4, cells := 0, slots := 0, locals := 92 } : Room) s m [.ref aM].toArray below meth c H locs 0 0 (MQ below (va_Qv (fun _ : Unit => True) (fun _ t => xB D ([(aM, .inr (10, [.ref mA, .ref mB, .ref mC, .ref mD, .ref mE, .int pm, .int sp, .int (bi iw), .ref mF, .int rn])), (mA, .inl (cJ, 93, .inr (.inl o)))]) A t) A) [.ref aM].toArray s 0 0 A) (F0 m 0 ls []) := by
    intro n
    induction n with
    | zero =>
      intro yf _ _ hm
      exact absurd hm (Nat.not_lt_zero _)
    | succ n ih0 =>
      intro yf hlp0 hoy hm0 H locs ls hW hl
      refine lv_aload_n hx hb dX10_goToStop_0 rfl (lv_at hl 0 rfl) ?_
      refine vp_callSi (va_Run.run (xrunV (As := []) (rest := []) ⟨hx, hb, hml, hown, hts⟩ (c_X10_isAway l D cI cJ cZ cB H.size aM mA mB mC mD mE pm sp iw mF rn yf _ rfl) (cwV 0 hts gX10_goToStop_X10_isAway rfl rfl rfl (by decide +kernel) ⟨Nat.le_of_ble_eq_true rfl, Nat.le_of_ble_eq_true rfl⟩) hK hG hW.2.2 (xsubQ hW hA [0, 1] rfl (by decide)) (va_recv hK hW.1 (ci := 10) (q0 := 0) rfl rfl) rfl hl.1 rfl (Nat.le_of_ble_eq_true rfl) dX10_goToStop_1 ⟨Nat.le_of_ble_eq_true rfl, Nat.le_of_ble_eq_true rfl⟩)) (fun r1 hq => ?_)
      subst hq
      refine xb_eq (tgt := 14) hx hb dX10_goToStop_4 (by decide) (fun c1 => ?_) (fun c1 => ?_)
      · skip
        have hF : f_X10_goToStop_lp0 (n + 1) yf = yf := by
          rw [f_X10_goToStop_lp0, if_neg c1]
        obtain rfl : yf = o := hF.symm.trans hlp0
        exact W.vret hx hb hrt (fun t ht hM => ⟨⟨(), rfl, trivial, ⟨by rw [ht]; exact hW.1, hW.2.1⟩⟩, hW.2.2.F ht⟩) hW.2.2.2.2 dX10_goToStop_14 hlocks
      · skip
        refine lv_aload_n hx hb dX10_goToStop_7 rfl (lv_at hl 0 rfl) ?_
        refine xQv (wr := []) hW hA [0, 1] [] rfl rfl (by decide) (by decide) (by decide) (xrunV (As := []) (rest := []) ⟨hx, hb, hml, hown, hts⟩ (c_X10_makeMinute l D cI cJ cZ cB H.size aM mA mB mC mD mE pm sp iw mF rn yf (hoy) _ rfl) (cwV 0 hts gX10_goToStop_X10_makeMinute rfl rfl rfl (by decide +kernel) ⟨Nat.le_of_ble_eq_true rfl, Nat.le_of_ble_eq_true rfl⟩) hK hG hW.2.2 (xsubQ hW hA [0, 1] rfl (by decide)) (va_recv hK hW.1 (ci := 10) (q0 := 0) rfl rfl) rfl hl.1 rfl (Nat.le_of_ble_eq_true rfl) dX10_goToStop_8 ⟨Nat.le_of_ble_eq_true rfl, Nat.le_of_ble_eq_true rfl⟩) (fun _ H locs _ hW => ?_)
        have hW : xW D A s.heap ([(aM, .inr (10, [.ref mA, .ref mB, .ref mC, .ref mD, .ref mE, .int pm, .int sp, .int (bi iw), .ref mF, .int rn])), (mA, .inl (cJ, 93, .inr (.inl (f_X10_makeMinute yf))))] ++ []) H _ := hW
        refine lv_goto (tgt := 0) hx hb dX10_goToStop_11 (by decide) ?_
        have hF : f_X10_goToStop_lp0 (n + 1) yf = f_X10_goToStop_lp0 n (f_X10_makeMinute yf) := by
          rw [f_X10_goToStop_lp0, if_pos c1]
        refine W.widen (k := 0) (n := 0) (Nat.le_of_ble_eq_true rfl) (Nat.le_of_ble_eq_true rfl) ?_
        exact ih0 (f_X10_makeMinute yf) (hF.symm.trans hlp0) (okM_mm hoy) (aw_mu hoy c1 hm0) _ _ _ hW (lv_sub hl [0] rfl)
  have hF : f_X10_goToStop mf = f_X10_goToStop_lp0 (awm mf + 1) mf := by
    rw [f_X10_goToStop]
  refine W.widen (k := 0) (n := 0) (Nat.le_of_ble_eq_true rfl) (Nat.le_of_ble_eq_true rfl) ?_
  exact hl0_ (awm mf + 1) mf (hF.symm.trans ho) (hok) (Nat.lt_succ_self _) _ _ _ hW (lv_sub hl [0] rfl)

def f_X10_stay_lp2 (a0 : Int32) : Nat → Int32 → (Nat → Int64) → (Nat → Int64)
  | 0, _, _ => (fun _ => 0)
  | n + 1, xi, yf =>
    if a0 ≤ xi then
      yf
    else
      f_X10_stay_lp2 a0 n (xi + 1) (f_X10_makeMinute yf)
def f_X10_stay (a0 : Int32) (mf : Nat → Int64) : (Nat → Int64) :=
  f_X10_stay_lp2 a0 ((a0.toInt - (0 : Int32).toInt).toNat + 1) 0 mf
set_option maxHeartbeats 4000000 in
set_option maxRecDepth 100000 in
theorem c_X10_stay (l : Launch) (D : va_G) (cI cJ cZ cB : ClassId) (sz : Nat) (aM : Nat) (mA : Nat) (a0 : Int32) (mB : Nat) (mC : Nat) (mD : Nat) (mE : Nat) (pm : Int32) (sp : Int32) (iw : Bool) (mF : Nat) (rn : Int32) (mf : Nat → Int64) (hok : okM mf) (o : (Nat → Int64)) (ho : f_X10_stay a0 mf = o) : Met l yX10_stay wsX10_stay ({ frames := 4, cells := 0, slots := 0, locals := 92 } : Room) (xPre D (xT cI cJ cZ cB) [.ref aM, .int a0] [(aM, .inr (10, [.ref mA, .ref mB, .ref mC, .ref mD, .ref mE, .int pm, .int sp, .int (bi iw), .ref mF, .int rn])), (mA, .inl (cJ, 93, .inr (.inl mf)))] sz) (va_Qv (fun _ : Unit => True) (fun _ t => xB D ([(aM, .inr (10, [.ref mA, .ref mB, .ref mC, .ref mD, .ref mE, .int pm, .int sp, .int (bi iw), .ref mF, .int rn])), (mA, .inl (cJ, 93, .inr (.inl o)))]) (va_A [(aM, .inr (10, [.ref mA, .ref mB, .ref mC, .ref mD, .ref mE, .int pm, .int sp, .int (bi iw), .ref mF, .int rn])), (mA, .inl (cJ, 93, .inr (.inl mf)))] sz) t) (va_A [(aM, .inr (10, [.ref mA, .ref mB, .ref mC, .ref mD, .ref mE, .int pm, .int sp, .int (bi iw), .ref mF, .int rn])), (mA, .inl (cJ, 93, .inr (.inl mf)))] sz)) 0 0 (va_A [(aM, .inr (10, [.ref mA, .ref mB, .ref mC, .ref mD, .ref mE, .int pm, .int sp, .int (bi iw), .ref mF, .int rn])), (mA, .inl (cJ, 93, .inr (.inl mf)))] sz) := by
  refine xofW (Qc := fun A0 => va_Qv (fun _ : Unit => True) (fun _ t => xB D ([(aM, .inr (10, [.ref mA, .ref mB, .ref mC, .ref mD, .ref mE, .int pm, .int sp, .int (bi iw), .ref mF, .int rn])), (mA, .inl (cJ, 93, .inr (.inl o)))]) A0 t) A0) (fr := fun A => A) (cc := cX10_stay) (maxL := 3) (ret := none) (by decide) rfl (Nat.le_of_ble_eq_true rfl) ?_
  intro p e s m below meth c A ⟨hx, hb, hml, hown, hts⟩ hrt hlocks hnm hsz hK hW hA hG ls hl
  have hown : s.vm.findClass RX10 = some m.cls := hown
  have hl : lv_has ls 3 [(0, .ref aM), (1, .int a0)] := hl
  obtain ⟨H, hH⟩ : ∃ H, H = s.heap := ⟨_, rfl⟩
  have hW : xW D A s.heap ([(aM, .inr (10, [.ref mA, .ref mB, .ref mC, .ref mD, .ref mE, .int pm, .int sp, .int (bi iw), .ref mF, .int rn])), (mA, .inl (cJ, 93, .inr (.inl mf)))] ++ []) H [] := by rw [hH]; exact hW
  rw [← hH]
  refine lv_iconst (v := 0) hx hb dX10_stay_0 (by decide) ?_
  refine lv_istore_n (lv' := [(2, .int 0), (0, .ref aM), (1, .int a0)]) hx hb dX10_stay_1 rfl hl (by decide) rfl (fun ls hl => ?_)
  have hl2_ : ∀ (n : Nat) (xi : Int32) (yf : Nat → Int64), f_X10_stay_lp2 a0 n xi yf = o → (okM yf) → (a0.toInt - xi.toInt).toNat < n → ∀ (H : Heap) (locs : List Loc) (ls : Array Slot), xW D A s.heap ([(aM, .inr (10, [.ref mA, .ref mB, .ref mC, .ref mD, .ref mE, .int pm, .int sp, .int (bi iw), .ref mF, .int rn])), (mA, .inl (cJ, 93, .inr (.inl yf)))] ++ []) H locs → lv_has ls 3 [(0, .ref aM), (1, .int a0), (2, .int xi)] → W p l e ({ frames := 4, cells := 0, slots := 0, locals := 92 } : Room) s m [.ref aM, .int a0].toArray below meth c H locs 0 0 (MQ below (va_Qv (fun _ : Unit => True) (fun _ t => xB D ([(aM, .inr (10, [.ref mA, .ref mB, .ref mC, .ref mD, .ref mE, .int pm, .int sp, .int (bi iw), .ref mF, .int rn])), (mA, .inl (cJ, 93, .inr (.inl o)))]) A t) A) [.ref aM, .int a0].toArray s 0 0 A) (F0 m 2 ls []) := by
    intro n
    induction n with
    | zero =>
      intro xi yf _ _ hm
      exact absurd hm (Nat.not_lt_zero _)
    | succ n ih2 =>
      intro xi yf hlp2 hoy hm2 H locs ls hW hl
      refine lv_iload_n hx hb dX10_stay_2 rfl (lv_at hl 2 rfl) ?_
      refine lv_iload_n hx hb dX10_stay_3 rfl (lv_at hl 1 rfl) ?_
      refine lv_icmp_ge (tgt := 17) hx hb dX10_stay_4 (by decide) (fun c1 => ?_) (fun c1 => ?_)
      · skip
        have hF : f_X10_stay_lp2 a0 (n + 1) xi yf = yf := by
          rw [f_X10_stay_lp2, if_pos c1]
        obtain rfl : yf = o := hF.symm.trans hlp2
        exact W.vret hx hb hrt (fun t ht hM => ⟨⟨(), rfl, trivial, ⟨by rw [ht]; exact hW.1, hW.2.1⟩⟩, hW.2.2.F ht⟩) hW.2.2.2.2 dX10_stay_17 hlocks
      · skip
        refine lv_aload_n hx hb dX10_stay_7 rfl (lv_at hl 0 rfl) ?_
        refine xQv (wr := []) hW hA [0, 1] [] rfl rfl (by decide) (by decide) (by decide) (xrunV (As := []) (rest := []) ⟨hx, hb, hml, hown, hts⟩ (c_X10_makeMinute l D cI cJ cZ cB H.size aM mA mB mC mD mE pm sp iw mF rn yf (hoy) _ rfl) (cwV 0 hts gX10_stay_X10_makeMinute rfl rfl rfl (by decide +kernel) ⟨Nat.le_of_ble_eq_true rfl, Nat.le_of_ble_eq_true rfl⟩) hK hG hW.2.2 (xsubQ hW hA [0, 1] rfl (by decide)) (va_recv hK hW.1 (ci := 10) (q0 := 0) rfl rfl) rfl hl.1 rfl (Nat.le_of_ble_eq_true rfl) dX10_stay_8 ⟨Nat.le_of_ble_eq_true rfl, Nat.le_of_ble_eq_true rfl⟩) (fun _ H locs _ hW => ?_)
        have hW : xW D A s.heap ([(aM, .inr (10, [.ref mA, .ref mB, .ref mC, .ref mD, .ref mE, .int pm, .int sp, .int (bi iw), .ref mF, .int rn])), (mA, .inl (cJ, 93, .inr (.inl (f_X10_makeMinute yf))))] ++ []) H _ := hW
        refine lv_iinc (v := xi + 1) (lv' := [(2, .int (xi + 1)), (0, .ref aM), (1, .int a0)]) hx hb dX10_stay_11 hl (k := 2) rfl rfl (by decide) rfl (fun ls hl => ?_)
        refine lv_goto (tgt := 2) hx hb dX10_stay_14 (by decide) ?_
        have hF : f_X10_stay_lp2 a0 (n + 1) xi yf = f_X10_stay_lp2 a0 n (xi + 1) (f_X10_makeMinute yf) := by
          rw [f_X10_stay_lp2, if_neg c1]
        refine W.widen (k := 0) (n := 0) (Nat.le_of_ble_eq_true rfl) (Nat.le_of_ble_eq_true rfl) ?_
        exact ih2 (xi + 1) (f_X10_makeMinute yf) (hF.symm.trans hlp2) (okM_mm hoy) (up_mu c1 hm2) _ _ _ hW (lv_sub hl [1, 2, 0] rfl)
  have hF : f_X10_stay a0 mf = f_X10_stay_lp2 a0 ((a0.toInt - (0 : Int32).toInt).toNat + 1) 0 mf := by
    rw [f_X10_stay]
  refine W.widen (k := 0) (n := 0) (Nat.le_of_ble_eq_true rfl) (Nat.le_of_ble_eq_true rfl) ?_
  exact hl2_ ((a0.toInt - (0 : Int32).toInt).toNat + 1) 0 mf (hF.symm.trans ho) (hok) (Nat.lt_succ_self _) _ _ _ hW (lv_sub hl [1, 2, 0] rfl)
