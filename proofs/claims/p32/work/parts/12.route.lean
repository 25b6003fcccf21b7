def f_X4_becomeLike (rd : Nat → Int32) (ro : Nat → Int32) (rcb : Int32) (rlb : Int32) (rmb : Int32) (rdb : Nat → Int32) (rob : Nat → Int32) : Int32 × Int32 × Int32 × (Nat → Int32) × (Nat → Int32) :=
  (rcb, rlb, rmb, va_cpy rdb rd 0 0 12, va_cpy rob ro 0 0 12)
def f_X4_hasLeg (a0 : Int32) (rc : Int32) : Bool :=
  f_X9_within a0 0 (rc - 1)
set_option maxHeartbeats 4000000 in
set_option maxRecDepth 100000 in
theorem c_X4_hasLeg (l : Launch) (D : va_G) (cI cJ cZ cB : ClassId) (sz : Nat) (aR : Nat) (a0 : Int32) (aRd : Nat) (aRo : Nat) (rc : Int32) (rl : Int32) (rm : Int32) (o : Bool) (ho : f_X4_hasLeg a0 rc = o) : Met l yX4_hasLeg wsX4_hasLeg ({ frames := 1, cells := 0, slots := 0, locals := 22 } : Room) (xPre D (xT cI cJ cZ cB) [.ref aR, .int a0] [(aR, .inr (4, [.ref aRd, .ref aRo, .int rc, .int rl, .int rm]))] sz) (vp_Si (fun r => r = bi o)) 0 0 (fun _ => False) := by
  refine xofW (Qc := fun _ => vp_Si (fun r => r = bi o)) (fr := fun _ _ => False) (cc := cX4_hasLeg) (maxL := 2) (ret := (some .boolean)) (by decide) rfl (Nat.le_of_ble_eq_true rfl) ?_
  intro p e s m below meth c A ⟨hx, hb, hml, hown, hts⟩ hrt hlocks hnm hsz hK hW hA hG ls hl
  have hown : s.vm.findClass RX4 = some m.cls := hown
  have hl : lv_has ls 2 [(0, .ref aR), (1, .int a0)] := hl
  obtain ⟨H, hH⟩ : ∃ H, H = s.heap := ⟨_, rfl⟩
  have hW : xW D A s.heap ([(aR, .inr (4, [.ref aRd, .ref aRo, .int rc, .int rl, .int rm]))] ++ []) H [] := by rw [hH]; exact hW
  have w1 := hts (.fieldLink RX4 28 "DryIceLane$Route" "count" "I") (by decide +kernel)
  have hin4 : ∀ w ∈ u_ws RX4 TX4 5, w ∈ wsX4_hasLeg := by decide +kernel
  have w3 := hts (.initialized RX9) (by decide +kernel)
  have w4 := hts (.static yX9_within) (by decide +kernel)
  rw [← hH]
  refine lv_iload_n hx hb dX4_hasLeg_0 rfl (lv_at hl 1 rfl) ?_
  refine lv_iconst (v := 0) hx hb dX4_hasLeg_1 (by decide) ?_
  refine lv_aload_n hx hb dX4_hasLeg_2 rfl (lv_at hl 0 rfl) ?_
  refine xget (ci := 4) (C := RX4) (T := TX4) (N := 5) hx hb hts hin4 hown hK hW.1 0 rfl rfl 2 (by decide) w1 rfl dX4_hasLeg_3 ?_
  refine lv_iconst (v := 1) hx hb dX4_hasLeg_6 (by decide) ?_
  refine lv_isub hx hb dX4_hasLeg_7 ?_
  refine vp_callSi (va_Run.run (xrunSN (As := [.int a0, .int 0, .int (rc - 1)]) (rest := []) ⟨hx, hb, hml, hown, hts⟩ (c_X9_within l D cI cJ cZ cB H.size a0 0 (rc - 1) _ rfl) ⟨va_cnB (host := "DryIceLane") 3 hts gX4_hasLeg_X9_within_n34 rfl rfl rfl (hG.1.1 (.methodLinkNest RX4 34 yX9_within "DryIceLane") (by decide +kernel)) w3 (by decide +kernel) ⟨Nat.le_of_ble_eq_true rfl, Nat.le_of_ble_eq_true rfl⟩, w4, trivial⟩ hK hG hW.2.2 (xsubQ hW hA [] rfl (by decide)) rfl hl.1 rfl (Nat.le_of_ble_eq_true rfl) dX4_hasLeg_8 ⟨Nat.le_of_ble_eq_true rfl, Nat.le_of_ble_eq_true rfl⟩)) (fun r1 hq => ?_)
  subst hq
  have hF : f_X4_hasLeg a0 rc = f_X9_within a0 0 (rc - 1) := by
    rw [f_X4_hasLeg]
  obtain rfl : f_X9_within a0 0 (rc - 1) = o := hF.symm.trans ho
  exact W.zret (v := bi (f_X9_within a0 0 (rc - 1))) hx hb hrt (bi_nar _) (fun t ht hM => ⟨_, rfl, rfl, ht.trans hH⟩) (fun q h => by cases h) dX4_hasLeg_11 hlocks

theorem hl_in {x n : Int32} {N : Nat} (h : f_X4_hasLeg x n = true) (hc : okC n N) : vp_in x N := w_in h hc

def f_X4_hasNextLeg (rc : Int32) (rl : Int32) : Bool :=
  f_X4_hasLeg (rl + 1) rc
set_option maxHeartbeats 4000000 in
set_option maxRecDepth 100000 in
theorem c_X4_hasNextLeg (l : Launch) (D : va_G) (cI cJ cZ cB : ClassId) (sz : Nat) (aR : Nat) (aRd : Nat) (aRo : Nat) (rc : Int32) (rl : Int32) (rm : Int32) (o : Bool) (ho : f_X4_hasNextLeg rc rl = o) : Met l yX4_hasNextLeg wsX4_hasNextLeg ({ frames := 2, cells := 0, slots := 0, locals := 43 } : Room) (xPre D (xT cI cJ cZ cB) [.ref aR] [(aR, .inr (4, [.ref aRd, .ref aRo, .int rc, .int rl, .int rm]))] sz) (vp_Si (fun r => r = bi o)) 0 0 (fun _ => False) := by
  refine xofW (Qc := fun _ => vp_Si (fun r => r = bi o)) (fr := fun _ _ => False) (cc := cX4_hasNextLeg) (maxL := 1) (ret := (some .boolean)) (by decide) rfl (Nat.le_of_ble_eq_true rfl) ?_
  intro p e s m below meth c A ⟨hx, hb, hml, hown, hts⟩ hrt hlocks hnm hsz hK hW hA hG ls hl
  have hown : s.vm.findClass RX4 = some m.cls := hown
  have hl : lv_has ls 1 [(0, .ref aR)] := hl
  obtain ⟨H, hH⟩ : ∃ H, H = s.heap := ⟨_, rfl⟩
  have hW : xW D A s.heap ([(aR, .inr (4, [.ref aRd, .ref aRo, .int rc, .int rl, .int rm]))] ++ []) H [] := by rw [hH]; exact hW
  have w1 := hts (.fieldLink RX4 18 "DryIceLane$Route" "latest" "I") (by decide +kernel)
  have hin4 : ∀ w ∈ u_ws RX4 TX4 5, w ∈ wsX4_hasNextLeg := by decide +kernel
  rw [← hH]
  refine lv_aload_n hx hb dX4_hasNextLeg_0 rfl (lv_at hl 0 rfl) ?_
  refine lv_aload_n hx hb dX4_hasNextLeg_1 rfl (lv_at hl 0 rfl) ?_
  refine xget (ci := 4) (C := RX4) (T := TX4) (N := 5) hx hb hts hin4 hown hK hW.1 0 rfl rfl 3 (by decide) w1 rfl dX4_hasNextLeg_2 ?_
  refine lv_iconst (v := 1) hx hb dX4_hasNextLeg_5 (by decide) ?_
  refine lv_iadd hx hb dX4_hasNextLeg_6 ?_
  refine vp_callSi (va_Run.run (xrunV (As := [.int (rl + 1)]) (rest := []) ⟨hx, hb, hml, hown, hts⟩ (c_X4_hasLeg l D cI cJ cZ cB H.size aR (rl + 1) aRd aRo rc rl rm _ rfl) (cwV 1 hts gX4_hasNextLeg_X4_hasLeg rfl rfl rfl (by decide +kernel) ⟨Nat.le_of_ble_eq_true rfl, Nat.le_of_ble_eq_true rfl⟩) hK hG hW.2.2 (xsubQ hW hA [0] rfl (by decide)) (va_recv hK hW.1 (ci := 4) (q0 := 0) rfl rfl) rfl hl.1 rfl (Nat.le_of_ble_eq_true rfl) dX4_hasNextLeg_7 ⟨Nat.le_of_ble_eq_true rfl, Nat.le_of_ble_eq_true rfl⟩)) (fun r1 hq => ?_)
  subst hq
  have hF : f_X4_hasNextLeg rc rl = f_X4_hasLeg (rl + 1) rc := by
    rw [f_X4_hasNextLeg]
  obtain rfl : f_X4_hasLeg (rl + 1) rc = o := hF.symm.trans ho
  exact W.zret (v := bi (f_X4_hasLeg (rl + 1) rc)) hx hb hrt (bi_nar _) (fun t ht hM => ⟨_, rfl, rfl, ht.trans hH⟩) (fun q h => by cases h) dX4_hasNextLeg_10 hlocks

def f_X4_isOnTheWay (rm : Int32) : Bool :=
  if rm ≤ 0 then
    false
  else
    true
set_option maxHeartbeats 4000000 in
set_option maxRecDepth 100000 in
theorem c_X4_isOnTheWay (l : Launch) (D : va_G) (cI cJ cZ cB : ClassId) (sz : Nat) (aR : Nat) (aRd : Nat) (aRo : Nat) (rc : Int32) (rl : Int32) (rm : Int32) (o : Bool) (ho : f_X4_isOnTheWay rm = o) : Met l yX4_isOnTheWay wsX4_isOnTheWay ({ frames := 0, cells := 0, slots := 0, locals := 0 } : Room) (xPre D (xT cI cJ cZ cB) [.ref aR] [(aR, .inr (4, [.ref aRd, .ref aRo, .int rc, .int rl, .int rm]))] sz) (vp_Si (fun r => r = bi o)) 0 0 (fun _ => False) := by
  refine xofW (Qc := fun _ => vp_Si (fun r => r = bi o)) (fr := fun _ _ => False) (cc := cX4_isOnTheWay) (maxL := 1) (ret := (some .boolean)) (by decide) rfl (Nat.le_of_ble_eq_true rfl) ?_
  intro p e s m below meth c A ⟨hx, hb, hml, hown, hts⟩ hrt hlocks hnm hsz hK hW hA hG ls hl
  have hown : s.vm.findClass RX4 = some m.cls := hown
  have hl : lv_has ls 1 [(0, .ref aR)] := hl
  obtain ⟨H, hH⟩ : ∃ H, H = s.heap := ⟨_, rfl⟩
  have hW : xW D A s.heap ([(aR, .inr (4, [.ref aRd, .ref aRo, .int rc, .int rl, .int rm]))] ++ []) H [] := by rw [hH]; exact hW
  have w1 := hts (.fieldLink RX4 31 "DryIceLane$Route" "minutesLeft" "I") (by decide +kernel)
  have hin4 : ∀ w ∈ u_ws RX4 TX4 5, w ∈ wsX4_isOnTheWay := by decide +kernel
  rw [← hH]
  refine lv_aload_n hx hb dX4_isOnTheWay_0 rfl (lv_at hl 0 rfl) ?_
  refine xget (ci := 4) (C := RX4) (T := TX4) (N := 5) hx hb hts hin4 hown hK hW.1 0 rfl rfl 4 (by decide) w1 rfl dX4_isOnTheWay_1 ?_
  refine lv_if_le (tgt := 11) hx hb dX4_isOnTheWay_4 (by decide) (fun c1 => ?_) (fun c1 => ?_)
  · skip
    refine lv_iconst (v := 0) hx hb dX4_isOnTheWay_11 (by decide) ?_
    have hF : f_X4_isOnTheWay rm = false := by
      rw [f_X4_isOnTheWay, if_pos c1]
    obtain rfl : false = o := hF.symm.trans ho
    exact W.zret (v := bi false) hx hb hrt (bi_nar _) (fun t ht hM => ⟨_, rfl, rfl, ht.trans hH⟩) (fun q h => by cases h) dX4_isOnTheWay_12 hlocks
  · skip
    refine lv_iconst (v := 1) hx hb dX4_isOnTheWay_7 (by decide) ?_
    refine lv_goto (tgt := 12) hx hb dX4_isOnTheWay_8 (by decide) ?_
    have hF : f_X4_isOnTheWay rm = true := by
      rw [f_X4_isOnTheWay, if_neg c1]
    obtain rfl : true = o := hF.symm.trans ho
    exact W.zret (v := bi true) hx hb hrt (bi_nar _) (fun t ht hM => ⟨_, rfl, rfl, ht.trans hH⟩) (fun q h => by cases h) dX4_isOnTheWay_12 hlocks

def f_X4_durationOf (a0 : Int32) (rc : Int32) (rd : Nat → Int32) : Int32 :=
  if (f_X4_hasLeg a0 rc) = true then
    rd a0.toNatClampNeg
  else
    0
set_option maxHeartbeats 4000000 in
set_option maxRecDepth 100000 in
theorem c_X4_durationOf (l : Launch) (D : va_G) (cI cJ cZ cB : ClassId) (sz : Nat) (aR : Nat) (aRd : Nat) (a0 : Int32) (aRo : Nat) (rc : Int32) (rl : Int32) (rm : Int32) (rd : Nat → Int32) (hrc : okC rc 12) (o : Int32) (ho : f_X4_durationOf a0 rc rd = o) : Met l yX4_durationOf wsX4_durationOf ({ frames := 2, cells := 0, slots := 0, locals := 43 } : Room) (xPre D (xT cI cJ cZ cB) [.ref aR, .int a0] [(aR, .inr (4, [.ref aRd, .ref aRo, .int rc, .int rl, .int rm])), (aRd, .inl (cI, 12, .inl rd))] sz) (vp_Si (fun r => r = o)) 0 0 (fun _ => False) := by
  refine xofW (Qc := fun _ => vp_Si (fun r => r = o)) (fr := fun _ _ => False) (cc := cX4_durationOf) (maxL := 2) (ret := (some .int)) (by decide) rfl (Nat.le_of_ble_eq_true rfl) ?_
  intro p e s m below meth c A ⟨hx, hb, hml, hown, hts⟩ hrt hlocks hnm hsz hK hW hA hG ls hl
  have hown : s.vm.findClass RX4 = some m.cls := hown
  have hl : lv_has ls 2 [(0, .ref aR), (1, .int a0)] := hl
  obtain ⟨H, hH⟩ : ∃ H, H = s.heap := ⟨_, rfl⟩
  have hW : xW D A s.heap ([(aR, .inr (4, [.ref aRd, .ref aRo, .int rc, .int rl, .int rm])), (aRd, .inl (cI, 12, .inl rd))] ++ []) H [] := by rw [hH]; exact hW
  have w1 := hts (.fieldLink RX4 9 "DryIceLane$Route" "durations" "[I") (by decide +kernel)
  have hin4 : ∀ w ∈ u_ws RX4 TX4 5, w ∈ wsX4_durationOf := by decide +kernel
  rw [← hH]
  refine lv_aload_n hx hb dX4_durationOf_0 rfl (lv_at hl 0 rfl) ?_
  refine lv_iload_n hx hb dX4_durationOf_1 rfl (lv_at hl 1 rfl) ?_
  refine vp_callSi (va_Run.run (xrunV (As := [.int a0]) (rest := []) ⟨hx, hb, hml, hown, hts⟩ (c_X4_hasLeg l D cI cJ cZ cB H.size aR a0 aRd aRo rc rl rm _ rfl) (cwV 1 hts gX4_durationOf_X4_hasLeg rfl rfl rfl (by decide +kernel) ⟨Nat.le_of_ble_eq_true rfl, Nat.le_of_ble_eq_true rfl⟩) hK hG hW.2.2 (xsubQ hW hA [0] rfl (by decide)) (va_recv hK hW.1 (ci := 4) (q0 := 0) rfl rfl) rfl hl.1 rfl (Nat.le_of_ble_eq_true rfl) dX4_durationOf_2 ⟨Nat.le_of_ble_eq_true rfl, Nat.le_of_ble_eq_true rfl⟩)) (fun r1 hq => ?_)
  subst hq
  refine xb_eq (tgt := 17) hx hb dX4_durationOf_5 (by decide) (fun c1 => ?_) (fun c1 => ?_)
  · skip
    refine lv_iconst (v := 0) hx hb dX4_durationOf_17 (by decide) ?_
    have hF : f_X4_durationOf a0 rc rd = 0 := by
      rw [f_X4_durationOf, if_neg c1]
    obtain rfl : 0 = o := hF.symm.trans ho
    exact W.iret (v := 0) hx hb hrt (fun t ht hM => ⟨_, rfl, rfl, ht.trans hH⟩) (fun q h => by cases h) dX4_durationOf_18 hlocks
  · skip
    refine lv_aload_n hx hb dX4_durationOf_8 rfl (lv_at hl 0 rfl) ?_
    refine xget (ci := 4) (C := RX4) (T := TX4) (N := 5) hx hb hts hin4 hown hK hW.1 0 rfl rfl 0 (by decide) w1 rfl dX4_durationOf_9 ?_
    refine lv_iload_n hx hb dX4_durationOf_12 rfl (lv_at hl 1 rfl) ?_
    refine xiald hx hb hK hW.1 1 0 rfl rfl (hl_in c1 hrc) a0.toNatClampNeg rfl (v := rd a0.toNatClampNeg) rfl dX4_durationOf_13 ?_
    refine lv_goto (tgt := 18) hx hb dX4_durationOf_14 (by decide) ?_
    have hF : f_X4_durationOf a0 rc rd = rd a0.toNatClampNeg := by
      rw [f_X4_durationOf, if_pos c1]
    obtain rfl : rd a0.toNatClampNeg = o := hF.symm.trans ho
    exact W.iret (v := rd a0.toNatClampNeg) hx hb hrt (fun t ht hM => ⟨_, rfl, rfl, ht.trans hH⟩) (fun q h => by cases h) dX4_durationOf_18 hlocks

def f_X4_outsideOf (a0 : Int32) (rc : Int32) (ro : Nat → Int32) : Int32 :=
  if (f_X4_hasLeg a0 rc) = true then
    ro a0.toNatClampNeg
  else
    0
set_option maxHeartbeats 4000000 in
set_option maxRecDepth 100000 in
theorem c_X4_outsideOf (l : Launch) (D : va_G) (cI cJ cZ cB : ClassId) (sz : Nat) (aR : Nat) (aRo : Nat) (a0 : Int32) (aRd : Nat) (rc : Int32) (rl : Int32) (rm : Int32) (ro : Nat → Int32) (hrc : okC rc 12) (o : Int32) (ho : f_X4_outsideOf a0 rc ro = o) : Met l yX4_outsideOf wsX4_outsideOf ({ frames := 2, cells := 0, slots := 0, locals := 43 } : Room) (xPre D (xT cI cJ cZ cB) [.ref aR, .int a0] [(aR, .inr (4, [.ref aRd, .ref aRo, .int rc, .int rl, .int rm])), (aRo, .inl (cI, 12, .inl ro))] sz) (vp_Si (fun r => r = o)) 0 0 (fun _ => False) := by
  refine xofW (Qc := fun _ => vp_Si (fun r => r = o)) (fr := fun _ _ => False) (cc := cX4_outsideOf) (maxL := 2) (ret := (some .int)) (by decide) rfl (Nat.le_of_ble_eq_true rfl) ?_
  intro p e s m below meth c A ⟨hx, hb, hml, hown, hts⟩ hrt hlocks hnm hsz hK hW hA hG ls hl
  have hown : s.vm.findClass RX4 = some m.cls := hown
  have hl : lv_has ls 2 [(0, .ref aR), (1, .int a0)] := hl
  obtain ⟨H, hH⟩ : ∃ H, H = s.heap := ⟨_, rfl⟩
  have hW : xW D A s.heap ([(aR, .inr (4, [.ref aRd, .ref aRo, .int rc, .int rl, .int rm])), (aRo, .inl (cI, 12, .inl ro))] ++ []) H [] := by rw [hH]; exact hW
  have w1 := hts (.fieldLink RX4 15 "DryIceLane$Route" "outsides" "[I") (by decide +kernel)
  have hin4 : ∀ w ∈ u_ws RX4 TX4 5, w ∈ wsX4_outsideOf := by decide +kernel
  rw [← hH]
  refine lv_aload_n hx hb dX4_outsideOf_0 rfl (lv_at hl 0 rfl) ?_
  refine lv_iload_n hx hb dX4_outsideOf_1 rfl (lv_at hl 1 rfl) ?_
  refine vp_callSi (va_Run.run (xrunV (As := [.int a0]) (rest := []) ⟨hx, hb, hml, hown, hts⟩ (c_X4_hasLeg l D cI cJ cZ cB H.size aR a0 aRd aRo rc rl rm _ rfl) (cwV 1 hts gX4_outsideOf_X4_hasLeg rfl rfl rfl (by decide +kernel) ⟨Nat.le_of_ble_eq_true rfl, Nat.le_of_ble_eq_true rfl⟩) hK hG hW.2.2 (xsubQ hW hA [0] rfl (by decide)) (va_recv hK hW.1 (ci := 4) (q0 := 0) rfl rfl) rfl hl.1 rfl (Nat.le_of_ble_eq_true rfl) dX4_outsideOf_2 ⟨Nat.le_of_ble_eq_true rfl, Nat.le_of_ble_eq_true rfl⟩)) (fun r1 hq => ?_)
  subst hq
  refine xb_eq (tgt := 17) hx hb dX4_outsideOf_5 (by decide) (fun c1 => ?_) (fun c1 => ?_)
  · skip
    refine lv_iconst (v := 0) hx hb dX4_outsideOf_17 (by decide) ?_
    have hF : f_X4_outsideOf a0 rc ro = 0 := by
      rw [f_X4_outsideOf, if_neg c1]
    obtain rfl : 0 = o := hF.symm.trans ho
    exact W.iret (v := 0) hx hb hrt (fun t ht hM => ⟨_, rfl, rfl, ht.trans hH⟩) (fun q h => by cases h) dX4_outsideOf_18 hlocks
  · skip
    refine lv_aload_n hx hb dX4_outsideOf_8 rfl (lv_at hl 0 rfl) ?_
    refine xget (ci := 4) (C := RX4) (T := TX4) (N := 5) hx hb hts hin4 hown hK hW.1 0 rfl rfl 1 (by decide) w1 rfl dX4_outsideOf_9 ?_
    refine lv_iload_n hx hb dX4_outsideOf_12 rfl (lv_at hl 1 rfl) ?_
    refine xiald hx hb hK hW.1 1 0 rfl rfl (hl_in c1 hrc) a0.toNatClampNeg rfl (v := ro a0.toNatClampNeg) rfl dX4_outsideOf_13 ?_
    refine lv_goto (tgt := 18) hx hb dX4_outsideOf_14 (by decide) ?_
    have hF : f_X4_outsideOf a0 rc ro = ro a0.toNatClampNeg := by
      rw [f_X4_outsideOf, if_pos c1]
    obtain rfl : ro a0.toNatClampNeg = o := hF.symm.trans ho
    exact W.iret (v := ro a0.toNatClampNeg) hx hb hrt (fun t ht hM => ⟨_, rfl, rfl, ht.trans hH⟩) (fun q h => by cases h) dX4_outsideOf_18 hlocks

def f_X4_outsideNow (rc : Int32) (rl : Int32) (ro : Nat → Int32) : Int32 :=
  if (f_X4_hasLeg rl rc) = true then
    ro rl.toNatClampNeg
  else
    2000
set_option maxHeartbeats 4000000 in
set_option maxRecDepth 100000 in
theorem c_X4_outsideNow (l : Launch) (D : va_G) (cI cJ cZ cB : ClassId) (sz : Nat) (aR : Nat) (aRo : Nat) (aRd : Nat) (rc : Int32) (rl : Int32) (rm : Int32) (ro : Nat → Int32) (hrc : okC rc 12) (o : Int32) (ho : f_X4_outsideNow rc rl ro = o) : Met l yX4_outsideNow wsX4_outsideNow ({ frames := 2, cells := 0, slots := 0, locals := 43 } : Room) (xPre D (xT cI cJ cZ cB) [.ref aR] [(aR, .inr (4, [.ref aRd, .ref aRo, .int rc, .int rl, .int rm])), (aRo, .inl (cI, 12, .inl ro))] sz) (vp_Si (fun r => r = o)) 0 0 (fun _ => False) := by
  refine xofW (Qc := fun _ => vp_Si (fun r => r = o)) (fr := fun _ _ => False) (cc := cX4_outsideNow) (maxL := 1) (ret := (some .int)) (by decide) rfl (Nat.le_of_ble_eq_true rfl) ?_
  intro p e s m below meth c A ⟨hx, hb, hml, hown, hts⟩ hrt hlocks hnm hsz hK hW hA hG ls hl
  have hown : s.vm.findClass RX4 = some m.cls := hown
  have hl : lv_has ls 1 [(0, .ref aR)] := hl
  obtain ⟨H, hH⟩ : ∃ H, H = s.heap := ⟨_, rfl⟩
  have hW : xW D A s.heap ([(aR, .inr (4, [.ref aRd, .ref aRo, .int rc, .int rl, .int rm])), (aRo, .inl (cI, 12, .inl ro))] ++ []) H [] := by rw [hH]; exact hW
  have w1 := hts (.fieldLink RX4 18 "DryIceLane$Route" "latest" "I") (by decide +kernel)
  have hin4 : ∀ w ∈ u_ws RX4 TX4 5, w ∈ wsX4_outsideNow := by decide +kernel
  have w3 := hts (.fieldLink RX4 15 "DryIceLane$Route" "outsides" "[I") (by decide +kernel)
  rw [← hH]
  refine lv_aload_n hx hb dX4_outsideNow_0 rfl (lv_at hl 0 rfl) ?_
  refine lv_aload_n hx hb dX4_outsideNow_1 rfl (lv_at hl 0 rfl) ?_
  refine xget (ci := 4) (C := RX4) (T := TX4) (N := 5) hx hb hts hin4 hown hK hW.1 0 rfl rfl 3 (by decide) w1 rfl dX4_outsideNow_2 ?_
  refine vp_callSi (va_Run.run (xrunV (As := [.int rl]) (rest := []) ⟨hx, hb, hml, hown, hts⟩ (c_X4_hasLeg l D cI cJ cZ cB H.size aR rl aRd aRo rc rl rm _ rfl) (cwV 1 hts gX4_outsideNow_X4_hasLeg rfl rfl rfl (by decide +kernel) ⟨Nat.le_of_ble_eq_true rfl, Nat.le_of_ble_eq_true rfl⟩) hK hG hW.2.2 (xsubQ hW hA [0] rfl (by decide)) (va_recv hK hW.1 (ci := 4) (q0 := 0) rfl rfl) rfl hl.1 rfl (Nat.le_of_ble_eq_true rfl) dX4_outsideNow_5 ⟨Nat.le_of_ble_eq_true rfl, Nat.le_of_ble_eq_true rfl⟩)) (fun r1 hq => ?_)
  subst hq
  refine xb_eq (tgt := 23) hx hb dX4_outsideNow_8 (by decide) (fun c1 => ?_) (fun c1 => ?_)
  · skip
    refine lv_sipush (v := 2000) hx hb dX4_outsideNow_23 (by decide) ?_
    have hF : f_X4_outsideNow rc rl ro = 2000 := by
      rw [f_X4_outsideNow, if_neg c1]
    obtain rfl : 2000 = o := hF.symm.trans ho
    exact W.iret (v := 2000) hx hb hrt (fun t ht hM => ⟨_, rfl, rfl, ht.trans hH⟩) (fun q h => by cases h) dX4_outsideNow_26 hlocks
  · skip
    refine lv_aload_n hx hb dX4_outsideNow_11 rfl (lv_at hl 0 rfl) ?_
    refine xget (ci := 4) (C := RX4) (T := TX4) (N := 5) hx hb hts hin4 hown hK hW.1 0 rfl rfl 1 (by decide) w3 rfl dX4_outsideNow_12 ?_
    refine lv_aload_n hx hb dX4_outsideNow_15 rfl (lv_at hl 0 rfl) ?_
    refine xget (ci := 4) (C := RX4) (T := TX4) (N := 5) hx hb hts hin4 hown hK hW.1 0 rfl rfl 3 (by decide) w1 rfl dX4_outsideNow_16 ?_
    refine xiald hx hb hK hW.1 1 0 rfl rfl (hl_in c1 hrc) rl.toNatClampNeg rfl (v := ro rl.toNatClampNeg) rfl dX4_outsideNow_19 ?_
    refine lv_goto (tgt := 26) hx hb dX4_outsideNow_20 (by decide) ?_
    have hF : f_X4_outsideNow rc rl ro = ro rl.toNatClampNeg := by
      rw [f_X4_outsideNow, if_pos c1]
    obtain rfl : ro rl.toNatClampNeg = o := hF.symm.trans ho
    exact W.iret (v := ro rl.toNatClampNeg) hx hb hrt (fun t ht hM => ⟨_, rfl, rfl, ht.trans hH⟩) (fun q h => by cases h) dX4_outsideNow_26 hlocks

def f_X4_append (a0 : Int32) (a1 : Int32) (rc : Int32) (rd : Nat → Int32) (ro : Nat → Int32) : Int32 × (Nat → Int32) × (Nat → Int32) :=
  if rc < 12 then
    (rc + 1, upd rd rc.toNatClampNeg a0, upd ro rc.toNatClampNeg a1)
  else
    (rc, rd, ro)
set_option maxHeartbeats 4000000 in
set_option maxRecDepth 100000 in
theorem c_X4_append (l : Launch) (D : va_G) (cI cJ cZ cB : ClassId) (sz : Nat) (aR : Nat) (aRd : Nat) (aRo : Nat) (a0 : Int32) (a1 : Int32) (rc : Int32) (rl : Int32) (rm : Int32) (rd : Nat → Int32) (ro : Nat → Int32) (hrc : okC rc 12) (o : Int32 × (Nat → Int32) × (Nat → Int32)) (ho : f_X4_append a0 a1 rc rd ro = o) : Met l yX4_append wsX4_append ({ frames := 0, cells := 0, slots := 0, locals := 0 } : Room) (xPre D (xT cI cJ cZ cB) [.ref aR, .int a0, .int a1] [(aR, .inr (4, [.ref aRd, .ref aRo, .int rc, .int rl, .int rm])), (aRd, .inl (cI, 12, .inl rd)), (aRo, .inl (cI, 12, .inl ro))] sz) (va_Qv (fun _ : Unit => True) (fun _ t => xB D ([(aR, .inr (4, [.ref aRd, .ref aRo, .int o.1, .int rl, .int rm])), (aRd, .inl (cI, 12, .inl o.2.1)), (aRo, .inl (cI, 12, .inl o.2.2))]) (va_A [(aR, .inr (4, [.ref aRd, .ref aRo, .int rc, .int rl, .int rm])), (aRd, .inl (cI, 12, .inl rd)), (aRo, .inl (cI, 12, .inl ro))] sz) t) (va_A [(aR, .inr (4, [.ref aRd, .ref aRo, .int rc, .int rl, .int rm])), (aRd, .inl (cI, 12, .inl rd)), (aRo, .inl (cI, 12, .inl ro))] sz)) 0 0 (va_A [(aR, .inr (4, [.ref aRd, .ref aRo, .int rc, .int rl, .int rm])), (aRd, .inl (cI, 12, .inl rd)), (aRo, .inl (cI, 12, .inl ro))] sz) := by
  refine xofW (Qc := fun A0 => va_Qv (fun _ : Unit => True) (fun _ t => xB D ([(aR, .inr (4, [.ref aRd, .ref aRo, .int o.1, .int rl, .int rm])), (aRd, .inl (cI, 12, .inl o.2.1)), (aRo, .inl (cI, 12, .inl o.2.2))]) A0 t) A0) (fr := fun A => A) (cc := cX4_append) (maxL := 3) (ret := none) (by decide) rfl (Nat.le_of_ble_eq_true rfl) ?_
  intro p e s m below meth c A ⟨hx, hb, hml, hown, hts⟩ hrt hlocks hnm hsz hK hW hA hG ls hl
  have hown : s.vm.findClass RX4 = some m.cls := hown
  have hl : lv_has ls 3 [(0, .ref aR), (1, .int a0), (2, .int a1)] := hl
  obtain ⟨H, hH⟩ : ∃ H, H = s.heap := ⟨_, rfl⟩
  have hW : xW D A s.heap ([(aR, .inr (4, [.ref aRd, .ref aRo, .int rc, .int rl, .int rm])), (aRd, .inl (cI, 12, .inl rd)), (aRo, .inl (cI, 12, .inl ro))] ++ []) H [] := by rw [hH]; exact hW
  have w1 := hts (.fieldLink RX4 28 "DryIceLane$Route" "count" "I") (by decide +kernel)
  have hin4 : ∀ w ∈ u_ws RX4 TX4 5, w ∈ wsX4_append := by decide +kernel
  have w3 := hts (.fieldLink RX4 9 "DryIceLane$Route" "durations" "[I") (by decide +kernel)
  have w4 := hts (.fieldLink RX4 15 "DryIceLane$Route" "outsides" "[I") (by decide +kernel)
  rw [← hH]
  refine lv_aload_n hx hb dX4_append_0 rfl (lv_at hl 0 rfl) ?_
  refine xget (ci := 4) (C := RX4) (T := TX4) (N := 5) hx hb hts hin4 hown hK hW.1 0 rfl rfl 2 (by decide) w1 rfl dX4_append_1 ?_
  refine lv_bipush (v := 12) hx hb dX4_append_4 (by decide) ?_
  refine lv_icmp_lt (tgt := 10) hx hb dX4_append_6 (by decide) (fun c1 => ?_) (fun c1 => ?_)
  · skip
    refine lv_aload_n hx hb dX4_append_10 rfl (lv_at hl 0 rfl) ?_
    refine xget (ci := 4) (C := RX4) (T := TX4) (N := 5) hx hb hts hin4 hown hK hW.1 0 rfl rfl 0 (by decide) w3 rfl dX4_append_11 ?_
    refine lv_aload_n hx hb dX4_append_14 rfl (lv_at hl 0 rfl) ?_
    refine xget (ci := 4) (C := RX4) (T := TX4) (N := 5) hx hb hts hin4 hown hK hW.1 0 rfl rfl 2 (by decide) w1 rfl dX4_append_15 ?_
    refine lv_iload_n hx hb dX4_append_18 rfl (lv_at hl 1 rfl) ?_
    refine xiast hx hb hK hW 1 0 rfl (Nat.le_of_ble_eq_true rfl) rfl (vp_in_iff.mpr ⟨hrc.1, xlt.mp c1⟩) rc.toNatClampNeg rfl dX4_append_19 (fun H locs hW => ?_)
    have hW : xW D A s.heap ([(aR, .inr (4, [.ref aRd, .ref aRo, .int rc, .int rl, .int rm])), (aRd, .inl (cI, 12, .inl (upd rd rc.toNatClampNeg a0))), (aRo, .inl (cI, 12, .inl ro))] ++ []) H _ := hW
    refine lv_aload_n hx hb dX4_append_20 rfl (lv_at hl 0 rfl) ?_
    refine xget (ci := 4) (C := RX4) (T := TX4) (N := 5) hx hb hts hin4 hown hK hW.1 0 rfl rfl 1 (by decide) w4 rfl dX4_append_21 ?_
    refine lv_aload_n hx hb dX4_append_24 rfl (lv_at hl 0 rfl) ?_
    refine xget (ci := 4) (C := RX4) (T := TX4) (N := 5) hx hb hts hin4 hown hK hW.1 0 rfl rfl 2 (by decide) w1 rfl dX4_append_25 ?_
    refine lv_iload_n hx hb dX4_append_28 rfl (lv_at hl 2 rfl) ?_
    refine xiast hx hb hK hW 2 0 rfl (Nat.le_of_ble_eq_true rfl) rfl (vp_in_iff.mpr ⟨hrc.1, xlt.mp c1⟩) rc.toNatClampNeg rfl dX4_append_29 (fun H locs hW => ?_)
    have hW : xW D A s.heap ([(aR, .inr (4, [.ref aRd, .ref aRo, .int rc, .int rl, .int rm])), (aRd, .inl (cI, 12, .inl (upd rd rc.toNatClampNeg a0))), (aRo, .inl (cI, 12, .inl (upd ro rc.toNatClampNeg a1)))] ++ []) H _ := hW
    refine lv_aload_n hx hb dX4_append_30 rfl (lv_at hl 0 rfl) ?_
    refine lv_dup hx hb dX4_append_31 rfl ?_
    refine xget (ci := 4) (C := RX4) (T := TX4) (N := 5) hx hb hts hin4 hown hK hW.1 0 rfl rfl 2 (by decide) w1 rfl dX4_append_32 ?_
    refine lv_iconst (v := 1) hx hb dX4_append_35 (by decide) ?_
    refine lv_iadd hx hb dX4_append_36 ?_
    refine xput (ci := 4) (v := .int (rc + 1)) (ty := .int) (C := RX4) (T := TX4) (N := 5) hx hb hts hin4 tyX4 tyX4_ok nmX4 hown hK hW 0 rfl (Nat.le_of_ble_eq_true rfl) rfl 2 (by decide) w1 rfl (by decide +kernel) rfl rfl (Nat.le_of_ble_eq_true rfl) dX4_append_37 (fun H locs hW => ?_)
    have hW : xW D A s.heap ([(aR, .inr (4, [.ref aRd, .ref aRo, .int (rc + 1), .int rl, .int rm])), (aRd, .inl (cI, 12, .inl (upd rd rc.toNatClampNeg a0))), (aRo, .inl (cI, 12, .inl (upd ro rc.toNatClampNeg a1)))] ++ []) H _ := hW
    have hF : f_X4_append a0 a1 rc rd ro = (rc + 1, upd rd rc.toNatClampNeg a0, upd ro rc.toNatClampNeg a1) := by
      rw [f_X4_append, if_pos c1]
    obtain rfl : (rc + 1, upd rd rc.toNatClampNeg a0, upd ro rc.toNatClampNeg a1) = o := hF.symm.trans ho
    exact W.vret hx hb hrt (fun t ht hM => ⟨⟨(), rfl, trivial, ⟨by rw [ht]; exact hW.1, hW.2.1⟩⟩, hW.2.2.F ht⟩) hW.2.2.2.2 dX4_append_40 hlocks
  · skip
    have hF : f_X4_append a0 a1 rc rd ro = (rc, rd, ro) := by
      rw [f_X4_append, if_neg c1]
    obtain rfl : (rc, rd, ro) = o := hF.symm.trans ho
    exact W.vret hx hb hrt (fun t ht hM => ⟨⟨(), rfl, trivial, ⟨by rw [ht]; exact hW.1, hW.2.1⟩⟩, hW.2.2.F ht⟩) hW.2.2.2.2 dX4_append_9 hlocks

def f_X4_beginNextLeg (rc : Int32) (rl : Int32) (rm : Int32) (rd : Nat → Int32) : Int32 × Int32 :=
  if (f_X4_hasNextLeg rc rl) = true then
    (rl + 1, rd (rl + 1).toNatClampNeg)
  else
    (rl, rm)
set_option maxHeartbeats 4000000 in
set_option maxRecDepth 100000 in
theorem c_X4_beginNextLeg (l : Launch) (D : va_G) (cI cJ cZ cB : ClassId) (sz : Nat) (aR : Nat) (aRd : Nat) (aRo : Nat) (rc : Int32) (rl : Int32) (rm : Int32) (rd : Nat → Int32) (ro : Nat → Int32) (hrc : okC rc 12) (o : Int32 × Int32) (ho : f_X4_beginNextLeg rc rl rm rd = o) : Met l yX4_beginNextLeg wsX4_beginNextLeg ({ frames := 3, cells := 0, slots := 0, locals := 63 } : Room) (xPre D (xT cI cJ cZ cB) [.ref aR] [(aR, .inr (4, [.ref aRd, .ref aRo, .int rc, .int rl, .int rm])), (aRd, .inl (cI, 12, .inl rd)), (aRo, .inl (cI, 12, .inl ro))] sz) (va_Qv (fun _ : Unit => True) (fun _ t => xB D ([(aR, .inr (4, [.ref aRd, .ref aRo, .int rc, .int o.1, .int o.2])), (aRd, .inl (cI, 12, .inl rd)), (aRo, .inl (cI, 12, .inl ro))]) (va_A [(aR, .inr (4, [.ref aRd, .ref aRo, .int rc, .int rl, .int rm])), (aRd, .inl (cI, 12, .inl rd)), (aRo, .inl (cI, 12, .inl ro))] sz) t) (va_A [(aR, .inr (4, [.ref aRd, .ref aRo, .int rc, .int rl, .int rm])), (aRd, .inl (cI, 12, .inl rd)), (aRo, .inl (cI, 12, .inl ro))] sz)) 0 0 (va_A [(aR, .inr (4, [.ref aRd, .ref aRo, .int rc, .int rl, .int rm])), (aRd, .inl (cI, 12, .inl rd)), (aRo, .inl (cI, 12, .inl ro))] sz) := by
  refine xofW (Qc := fun A0 => va_Qv (fun _ : Unit => True) (fun _ t => xB D ([(aR, .inr (4, [.ref aRd, .ref aRo, .int rc, .int o.1, .int o.2])), (aRd, .inl (cI, 12, .inl rd)), (aRo, .inl (cI, 12, .inl ro))]) A0 t) A0) (fr := fun A => A) (cc := cX4_beginNextLeg) (maxL := 1) (ret := none) (by decide) rfl (Nat.le_of_ble_eq_true rfl) ?_
  intro p e s m below meth c A ⟨hx, hb, hml, hown, hts⟩ hrt hlocks hnm hsz hK hW hA hG ls hl
  have hown : s.vm.findClass RX4 = some m.cls := hown
  have hl : lv_has ls 1 [(0, .ref aR)] := hl
  obtain ⟨H, hH⟩ : ∃ H, H = s.heap := ⟨_, rfl⟩
  have hW : xW D A s.heap ([(aR, .inr (4, [.ref aRd, .ref aRo, .int rc, .int rl, .int rm])), (aRd, .inl (cI, 12, .inl rd)), (aRo, .inl (cI, 12, .inl ro))] ++ []) H [] := by rw [hH]; exact hW
  have w1 := hts (.fieldLink RX4 18 "DryIceLane$Route" "latest" "I") (by decide +kernel)
  have hin4 : ∀ w ∈ u_ws RX4 TX4 5, w ∈ wsX4_beginNextLeg := by decide +kernel
  have w3 := hts (.fieldLink RX4 9 "DryIceLane$Route" "durations" "[I") (by decide +kernel)
  have w4 := hts (.fieldLink RX4 31 "DryIceLane$Route" "minutesLeft" "I") (by decide +kernel)
  rw [← hH]
  refine lv_aload_n hx hb dX4_beginNextLeg_0 rfl (lv_at hl 0 rfl) ?_
  refine vp_callSi (va_Run.run (xrunV (As := []) (rest := []) ⟨hx, hb, hml, hown, hts⟩ (c_X4_hasNextLeg l D cI cJ cZ cB H.size aR aRd aRo rc rl rm _ rfl) (cwV 0 hts gX4_beginNextLeg_X4_hasNextLeg rfl rfl rfl (by decide +kernel) ⟨Nat.le_of_ble_eq_true rfl, Nat.le_of_ble_eq_true rfl⟩) hK hG hW.2.2 (xsubQ hW hA [0] rfl (by decide)) (va_recv hK hW.1 (ci := 4) (q0 := 0) rfl rfl) rfl hl.1 rfl (Nat.le_of_ble_eq_true rfl) dX4_beginNextLeg_1 ⟨Nat.le_of_ble_eq_true rfl, Nat.le_of_ble_eq_true rfl⟩)) (fun r1 hq => ?_)
  subst hq
  refine xb_eq (tgt := 30) hx hb dX4_beginNextLeg_4 (by decide) (fun c1 => ?_) (fun c1 => ?_)
  · skip
    have hF : f_X4_beginNextLeg rc rl rm rd = (rl, rm) := by
      rw [f_X4_beginNextLeg, if_neg c1]
    obtain rfl : (rl, rm) = o := hF.symm.trans ho
    exact W.vret hx hb hrt (fun t ht hM => ⟨⟨(), rfl, trivial, ⟨by rw [ht]; exact hW.1, hW.2.1⟩⟩, hW.2.2.F ht⟩) hW.2.2.2.2 dX4_beginNextLeg_30 hlocks
  · skip
    refine lv_aload_n hx hb dX4_beginNextLeg_7 rfl (lv_at hl 0 rfl) ?_
    refine lv_dup hx hb dX4_beginNextLeg_8 rfl ?_
    refine xget (ci := 4) (C := RX4) (T := TX4) (N := 5) hx hb hts hin4 hown hK hW.1 0 rfl rfl 3 (by decide) w1 rfl dX4_beginNextLeg_9 ?_
    refine lv_iconst (v := 1) hx hb dX4_beginNextLeg_12 (by decide) ?_
    refine lv_iadd hx hb dX4_beginNextLeg_13 ?_
    refine xput (ci := 4) (v := .int (rl + 1)) (ty := .int) (C := RX4) (T := TX4) (N := 5) hx hb hts hin4 tyX4 tyX4_ok nmX4 hown hK hW 0 rfl (Nat.le_of_ble_eq_true rfl) rfl 3 (by decide) w1 rfl (by decide +kernel) rfl rfl (Nat.le_of_ble_eq_true rfl) dX4_beginNextLeg_14 (fun H locs hW => ?_)
    have hW : xW D A s.heap ([(aR, .inr (4, [.ref aRd, .ref aRo, .int rc, .int (rl + 1), .int rm])), (aRd, .inl (cI, 12, .inl rd)), (aRo, .inl (cI, 12, .inl ro))] ++ []) H _ := hW
    refine lv_aload_n hx hb dX4_beginNextLeg_17 rfl (lv_at hl 0 rfl) ?_
    refine lv_aload_n hx hb dX4_beginNextLeg_18 rfl (lv_at hl 0 rfl) ?_
    refine xget (ci := 4) (C := RX4) (T := TX4) (N := 5) hx hb hts hin4 hown hK hW.1 0 rfl rfl 0 (by decide) w3 rfl dX4_beginNextLeg_19 ?_
    refine lv_aload_n hx hb dX4_beginNextLeg_22 rfl (lv_at hl 0 rfl) ?_
    refine xget (ci := 4) (C := RX4) (T := TX4) (N := 5) hx hb hts hin4 hown hK hW.1 0 rfl rfl 3 (by decide) w1 rfl dX4_beginNextLeg_23 ?_
    refine xiald hx hb hK hW.1 1 0 rfl rfl (hl_in c1 hrc) (rl + 1).toNatClampNeg rfl (v := rd (rl + 1).toNatClampNeg) rfl dX4_beginNextLeg_26 ?_
    refine xput (ci := 4) (v := .int (rd (rl + 1).toNatClampNeg)) (ty := .int) (C := RX4) (T := TX4) (N := 5) hx hb hts hin4 tyX4 tyX4_ok nmX4 hown hK hW 0 rfl (Nat.le_of_ble_eq_true rfl) rfl 4 (by decide) w4 rfl (by decide +kernel) rfl rfl (Nat.le_of_ble_eq_true rfl) dX4_beginNextLeg_27 (fun H locs hW => ?_)
    have hW : xW D A s.heap ([(aR, .inr (4, [.ref aRd, .ref aRo, .int rc, .int (rl + 1), .int (rd (rl + 1).toNatClampNeg)])), (aRd, .inl (cI, 12, .inl rd)), (aRo, .inl (cI, 12, .inl ro))] ++ []) H _ := hW
    have hF : f_X4_beginNextLeg rc rl rm rd = (rl + 1, rd (rl + 1).toNatClampNeg) := by
      rw [f_X4_beginNextLeg, if_pos c1]
    obtain rfl : (rl + 1, rd (rl + 1).toNatClampNeg) = o := hF.symm.trans ho
    exact W.vret hx hb hrt (fun t ht hM => ⟨⟨(), rfl, trivial, ⟨by rw [ht]; exact hW.1, hW.2.1⟩⟩, hW.2.2.F ht⟩) hW.2.2.2.2 dX4_beginNextLeg_30 hlocks

def f_X4_letMinutePass (rm : Int32) : Int32 :=
  if (f_X4_isOnTheWay rm) = true then
    rm - 1
  else
    rm
set_option maxHeartbeats 4000000 in
set_option maxRecDepth 100000 in
theorem c_X4_letMinutePass (l : Launch) (D : va_G) (cI cJ cZ cB : ClassId) (sz : Nat) (aR : Nat) (aRd : Nat) (aRo : Nat) (rc : Int32) (rl : Int32) (rm : Int32) (o : Int32) (ho : f_X4_letMinutePass rm = o) : Met l yX4_letMinutePass wsX4_letMinutePass ({ frames := 1, cells := 0, slots := 0, locals := 20 } : Room) (xPre D (xT cI cJ cZ cB) [.ref aR] [(aR, .inr (4, [.ref aRd, .ref aRo, .int rc, .int rl, .int rm]))] sz) (va_Qv (fun _ : Unit => True) (fun _ t => xB D ([(aR, .inr (4, [.ref aRd, .ref aRo, .int rc, .int rl, .int o]))]) (va_A [(aR, .inr (4, [.ref aRd, .ref aRo, .int rc, .int rl, .int rm]))] sz) t) (va_A [(aR, .inr (4, [.ref aRd, .ref aRo, .int rc, .int rl, .int rm]))] sz)) 0 0 (va_A [(aR, .inr (4, [.ref aRd, .ref aRo, .int rc, .int rl, .int rm]))] sz) := by
  refine xofW (Qc := fun A0 => va_Qv (fun _ : Unit => True) (fun _ t => xB D ([(aR, .inr (4, [.ref aRd, .ref aRo, .int rc, .int rl, .int o]))]) A0 t) A0) (fr := fun A => A) (cc := cX4_letMinutePass) (maxL := 1) (ret := none) (by decide) rfl (Nat.le_of_ble_eq_true rfl) ?_
  intro p e s m below meth c A ⟨hx, hb, hml, hown, hts⟩ hrt hlocks hnm hsz hK hW hA hG ls hl
  have hown : s.vm.findClass RX4 = some m.cls := hown
  have hl : lv_has ls 1 [(0, .ref aR)] := hl
  obtain ⟨H, hH⟩ : ∃ H, H = s.heap := ⟨_, rfl⟩
  have hW : xW D A s.heap ([(aR, .inr (4, [.ref aRd, .ref aRo, .int rc, .int rl, .int rm]))] ++ []) H [] := by rw [hH]; exact hW
  have w1 := hts (.fieldLink RX4 31 "DryIceLane$Route" "minutesLeft" "I") (by decide +kernel)
  have hin4 : ∀ w ∈ u_ws RX4 TX4 5, w ∈ wsX4_letMinutePass := by decide +kernel
  rw [← hH]
  refine lv_aload_n hx hb dX4_letMinutePass_0 rfl (lv_at hl 0 rfl) ?_
  refine vp_callSi (va_Run.run (xrunV (As := []) (rest := []) ⟨hx, hb, hml, hown, hts⟩ (c_X4_isOnTheWay l D cI cJ cZ cB H.size aR aRd aRo rc rl rm _ rfl) (cwV 0 hts gX4_letMinutePass_X4_isOnTheWay rfl rfl rfl (by decide +kernel) ⟨Nat.le_of_ble_eq_true rfl, Nat.le_of_ble_eq_true rfl⟩) hK hG hW.2.2 (xsubQ hW hA [0] rfl (by decide)) (va_recv hK hW.1 (ci := 4) (q0 := 0) rfl rfl) rfl hl.1 rfl (Nat.le_of_ble_eq_true rfl) dX4_letMinutePass_1 ⟨Nat.le_of_ble_eq_true rfl, Nat.le_of_ble_eq_true rfl⟩)) (fun r1 hq => ?_)
  subst hq
  refine xb_eq (tgt := 17) hx hb dX4_letMinutePass_4 (by decide) (fun c1 => ?_) (fun c1 => ?_)
  · skip
    have hF : f_X4_letMinutePass rm = rm := by
      rw [f_X4_letMinutePass, if_neg c1]
    obtain rfl : rm = o := hF.symm.trans ho
    exact W.vret hx hb hrt (fun t ht hM => ⟨⟨(), rfl, trivial, ⟨by rw [ht]; exact hW.1, hW.2.1⟩⟩, hW.2.2.F ht⟩) hW.2.2.2.2 dX4_letMinutePass_17 hlocks
  · skip
    refine lv_aload_n hx hb dX4_letMinutePass_7 rfl (lv_at hl 0 rfl) ?_
    refine lv_dup hx hb dX4_letMinutePass_8 rfl ?_
    refine xget (ci := 4) (C := RX4) (T := TX4) (N := 5) hx hb hts hin4 hown hK hW.1 0 rfl rfl 4 (by decide) w1 rfl dX4_letMinutePass_9 ?_
    refine lv_iconst (v := 1) hx hb dX4_letMinutePass_12 (by decide) ?_
    refine lv_isub hx hb dX4_letMinutePass_13 ?_
    refine xput (ci := 4) (v := .int (rm - 1)) (ty := .int) (C := RX4) (T := TX4) (N := 5) hx hb hts hin4 tyX4 tyX4_ok nmX4 hown hK hW 0 rfl (Nat.le_of_ble_eq_true rfl) rfl 4 (by decide) w1 rfl (by decide +kernel) rfl rfl (Nat.le_of_ble_eq_true rfl) dX4_letMinutePass_14 (fun H locs hW => ?_)
    have hW : xW D A s.heap ([(aR, .inr (4, [.ref aRd, .ref aRo, .int rc, .int rl, .int (rm - 1)]))] ++ []) H _ := hW
    have hF : f_X4_letMinutePass rm = rm - 1 := by
      rw [f_X4_letMinutePass, if_pos c1]
    obtain rfl : rm - 1 = o := hF.symm.trans ho
    exact W.vret hx hb hrt (fun t ht hM => ⟨⟨(), rfl, trivial, ⟨by rw [ht]; exact hW.1, hW.2.1⟩⟩, hW.2.2.F ht⟩) hW.2.2.2.2 dX4_letMinutePass_17 hlocks

def f_X3_append (a0 : Int32) (pl : Int32) (pf : Nat → Int32) : Int32 × (Nat → Int32) :=
  if 80 ≤ pl then
    (pl, pf)
  else
    (pl + 1, upd pf pl.toNatClampNeg a0)
def f_X3_codeAt (a0 : Int32) (pl : Int32) (pf : Nat → Int32) : Int32 :=
  if (f_X9_within a0 0 (pl - 1)) = true then
    pf a0.toNatClampNeg
  else
    0
def f_X5_isDigit (a0 : Int32) : Bool :=
  f_X9_within a0 48 57
def f_X5_mostDegrees (qb : Bool) : Int32 :=
  if qb = true then
    40
  else
    50
def f_X5_startsNumber (a0 : Int32) (a1 : Int32) (a2 : Int32) (a3 : Int32) : Bool × Int32 × Int32 :=
  if (f_X5_isDigit a0) = true then
    if (f_X9_within (a0 - 48) a1 a2) = true then
      (true, a3, a0 - 48)
    else
      (false, a3, a0 - 48)
  else
    (false, a3, a0 - 48)
def f_X5_continuesNumber (a0 : Int32) (a1 : Int32) (qn : Int32) : Bool × Int32 :=
  if (f_X5_isDigit a0) = true then
    if qn = 0 then
      (false, qn)
    else
      if a1 < (((qn * 10) + a0) - 48) then
        (false, ((qn * 10) + a0) - 48)
      else
        (true, ((qn * 10) + a0) - 48)
  else
    (false, qn)
def f_X5_endsDuration (qn : Int32) : Bool × Int32 × Int32 × Bool :=
  (true, 2, qn, false)
def f_X5_startsDegrees_k1 (qb : Bool) (o2_ : Bool × Int32 × Int32) : Bool × Int32 × Int32 × Bool :=
  (o2_.1, o2_.2.1, o2_.2.2, qb)
def f_X5_startsDegrees (a0 : Int32) (qn : Int32) (qb : Bool) : Bool × Int32 × Int32 × Bool :=
  if a0 = 45 then
    (true, 3, qn, true)
  else
    f_X5_startsDegrees_k1 qb (f_X5_startsNumber a0 0 (f_X5_mostDegrees qb) 4)
def f_X5_endLeg (ql : Int32) (qn : Int32) (qd : Int32) (qb : Bool) (qdf : Nat → Int32) (qof : Nat → Int32) : Bool × Int32 × Int32 × (Nat → Int32) × (Nat → Int32) :=
  if 20 ≤ ql then
    (true, ql, 0, qdf, qof)
  else
    if qb = true then
      (true, ql + 1, 0, upd qdf ql.toNatClampNeg qd, upd qof ql.toNatClampNeg ((-qn) * 100))
    else
      (true, ql + 1, 0, upd qdf ql.toNatClampNeg qd, upd qof ql.toNatClampNeg (qn * 100))
def f_X5_takes_k1 (ql : Int32) (qd : Int32) (qb : Bool) (qdf : Nat → Int32) (qof : Nat → Int32) (o1_ : Bool × Int32 × Int32) : Bool × Int32 × Int32 × Int32 × Int32 × Bool × (Nat → Int32) × (Nat → Int32) :=
  (o1_.1, ql, o1_.2.1, o1_.2.2, qd, qb, qdf, qof)
def f_X5_takes_k2 (ql : Int32) (qn : Int32) (qdf : Nat → Int32) (qof : Nat → Int32) (o4_ : Bool × Int32 × Int32 × Bool) : Bool × Int32 × Int32 × Int32 × Int32 × Bool × (Nat → Int32) × (Nat → Int32) :=
  (o4_.1, ql, o4_.2.1, qn, o4_.2.2.1, o4_.2.2.2, qdf, qof)
def f_X5_takes_k3 (ql : Int32) (qd : Int32) (qdf : Nat → Int32) (qof : Nat → Int32) (o6_ : Bool × Int32 × Int32 × Bool) : Bool × Int32 × Int32 × Int32 × Int32 × Bool × (Nat → Int32) × (Nat → Int32) :=
  (o6_.1, ql, o6_.2.1, o6_.2.2.1, qd, o6_.2.2.2, qdf, qof)
def f_X5_takes_k4 (ql : Int32) (qd : Int32) (qb : Bool) (qdf : Nat → Int32) (qof : Nat → Int32) (o9_ : Bool × Int32 × Int32) : Bool × Int32 × Int32 × Int32 × Int32 × Bool × (Nat → Int32) × (Nat → Int32) :=
  (o9_.1, ql, o9_.2.1, o9_.2.2, qd, qb, qdf, qof)
def f_X5_takes_k5 (qn : Int32) (qd : Int32) (qb : Bool) (o13_ : Bool × Int32 × Int32 × (Nat → Int32) × (Nat → Int32)) : Bool × Int32 × Int32 × Int32 × Int32 × Bool × (Nat → Int32) × (Nat → Int32) :=
  (o13_.1, o13_.2.1, o13_.2.2.1, qn, qd, qb, o13_.2.2.2.1, o13_.2.2.2.2)
def f_X5_takes (a0 : Int32) (ql : Int32) (qs : Int32) (qn : Int32) (qd : Int32) (qb : Bool) (qdf : Nat → Int32) (qof : Nat → Int32) : Bool × Int32 × Int32 × Int32 × Int32 × Bool × (Nat → Int32) × (Nat → Int32) :=
  if qs = 0 then
    f_X5_takes_k1 ql qd qb qdf qof (f_X5_startsNumber a0 1 600 1)
  else
    if qs = 1 then
      if a0 = 64 then
        f_X5_takes_k2 ql qn qdf qof (f_X5_endsDuration qn)
      else
        ((f_X5_continuesNumber a0 600 qn).1, ql, qs, (f_X5_continuesNumber a0 600 qn).2, qd, qb, qdf, qof)
    else
      if qs = 2 then
        f_X5_takes_k3 ql qd qdf qof (f_X5_startsDegrees a0 qn qb)
      else
        if qs = 3 then
          f_X5_takes_k4 ql qd qb qdf qof (f_X5_startsNumber a0 0 (f_X5_mostDegrees qb) 4)
        else
          if a0 = 44 then
            f_X5_takes_k5 qn qd qb (f_X5_endLeg ql qn qd qb qdf qof)
          else
            ((f_X5_continuesNumber a0 (f_X5_mostDegrees qb) qn).1, ql, qs, (f_X5_continuesNumber a0 (f_X5_mostDegrees qb) qn).2, qd, qb, qdf, qof)
theorem okC_up {c M : Int32} {N : Int} (h : okC c N) (hM : M.toInt = N) (hc : ¬ M ≤ c) : okC (c + 1) N := by
  have h1 := h.1
  have h2 := xnle.mp hc
  exact ⟨by rw [up_i hc]; omega, by rw [up_i hc]; omega⟩
theorem endLeg_ok {ql qn qd : Int32} {qb : Bool} {f g : Nat → Int32} (h : okC ql 20) : okC (f_X5_endLeg ql qn qd qb f g).2.1 20 := by
  by_cases c1 : 20 ≤ ql
  · rw [f_X5_endLeg, if_pos c1]; exact h
  · rw [f_X5_endLeg, if_neg c1]
    have h3 := okC_up h (by decide) c1
    by_cases c2 : qb = true
    · rw [if_pos c2]; exact h3
    · rw [if_neg c2]; exact h3
theorem takes_ok {a0 ql qs qn qd : Int32} {qb : Bool} {f g : Nat → Int32} (h : okC ql 20) : okC (f_X5_takes a0 ql qs qn qd qb f g).2.1 20 := by
  unfold f_X5_takes
  repeat' split
  all_goals first | exact h | exact endLeg_ok h

def f_X5_faultOf_k1 (yn : Int32) (yd : Int32) (yb : Bool) (g9 : Int32 → Int32 → Int32 → Int32 → Int32 → Bool → (Nat → Int32) → (Nat → Int32) → (Int32 × Int32 × Int32 × Int32 × Int32 × Bool × (Nat → Int32) × (Nat → Int32))) (o1_ : Bool × Int32 × Int32 × (Nat → Int32) × (Nat → Int32)) : Int32 × Int32 × Int32 × Int32 × Int32 × Bool × (Nat → Int32) × (Nat → Int32) :=
  (-6, o1_.2.1, o1_.2.2.1, yn, yd, yb, o1_.2.2.2.1, o1_.2.2.2.2)
def f_X5_faultOf_k2 (xi : Int32) (g9 : Int32 → Int32 → Int32 → Int32 → Int32 → Bool → (Nat → Int32) → (Nat → Int32) → (Int32 × Int32 × Int32 × Int32 × Int32 × Bool × (Nat → Int32) × (Nat → Int32))) (o4_ : Bool × Int32 × Int32 × Int32 × Int32 × Bool × (Nat → Int32) × (Nat → Int32)) : Int32 × Int32 × Int32 × Int32 × Int32 × Bool × (Nat → Int32) × (Nat → Int32) :=
  if o4_.1 = true then
    g9 (xi + 1) o4_.2.1 o4_.2.2.1 o4_.2.2.2.1 o4_.2.2.2.2.1 o4_.2.2.2.2.2.1 o4_.2.2.2.2.2.2.1 o4_.2.2.2.2.2.2.2
  else
    (xi, o4_.2.1, o4_.2.2.1, o4_.2.2.2.1, o4_.2.2.2.2.1, o4_.2.2.2.2.2.1, o4_.2.2.2.2.2.2.1, o4_.2.2.2.2.2.2.2)
def f_X5_faultOf_lp12 (pl : Int32) (pf : Nat → Int32) : Nat → Int32 → Int32 → Int32 → Int32 → Int32 → Bool → (Nat → Int32) → (Nat → Int32) → Int32 × Int32 × Int32 × Int32 × Int32 × Bool × (Nat → Int32) × (Nat → Int32)
  | 0, _, _, _, _, _, _, _, _ => (0, 0, 0, 0, 0, false, (fun _ => 0), (fun _ => 0))
  | n + 1, xi, yl, ys, yn, yd, yb, ydf, yof =>
    if pl ≤ xi then
      if ys = 4 then
        f_X5_faultOf_k1 yn yd yb (f_X5_faultOf_lp12 pl pf n) (f_X5_endLeg yl yn yd yb ydf yof)
      else
        (pl, yl, ys, yn, yd, yb, ydf, yof)
    else
      f_X5_faultOf_k2 xi (f_X5_faultOf_lp12 pl pf n) (f_X5_takes (f_X3_codeAt xi pl pf) yl ys yn yd yb ydf yof)
def f_X5_faultOf (qn : Int32) (qd : Int32) (qb : Bool) (qdf : Nat → Int32) (qof : Nat → Int32) (pl : Int32) (pf : Nat → Int32) : Int32 × Int32 × Int32 × Int32 × Int32 × Bool × (Nat → Int32) × (Nat → Int32) :=
  f_X5_faultOf_lp12 pl pf ((pl.toInt - (0 : Int32).toInt).toNat + 1) 0 0 0 qn qd qb qdf qof
def f_X5_durationOf (a0 : Int32) (qdf : Nat → Int32) : Int32 :=
  if (f_X9_within a0 0 19) = true then
    qdf a0.toNatClampNeg
  else
    0
def f_X5_outsideOf (a0 : Int32) (qof : Nat → Int32) : Int32 :=
  if (f_X9_within a0 0 19) = true then
    qof a0.toNatClampNeg
  else
    0