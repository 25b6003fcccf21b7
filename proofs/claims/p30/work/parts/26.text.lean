theorem cap_in {x n : Int32} {N : Nat} (h : 0 ≤ x.toInt) (c : ¬ n ≤ x) (hn : okC n N) : vp_in x N :=
  in_lt h c hn.2
theorem say_in {n : Int32} (h : okC n 80) (c : ¬ n = 80) : vp_in n 80 := by
  have h2 : n.toInt ≠ 80 := fun q => c (Int32.toInt_inj.mp (q.trans (by decide)))
  have h1 := h.1
  have h3 := h.2
  exact vp_in_iff.mpr ⟨h1, by omega⟩

def f_X10_say (a0 : Int32) (pm : Int32) (mp : Nat → Int32) : Int32 × Int32 × (Nat → Int32) :=
  if (f_X10_in a0.toInt64 33 126) = true then
    if pm = 80 then
      (-4, pm, mp)
    else
      (pm + 1, pm + 1, upd mp pm.toNatClampNeg a0)
  else
    (-2, pm, mp)
set_option maxHeartbeats 4000000 in
set_option maxRecDepth 100000 in
theorem c_X10_say (l : Launch) (D : va_G) (cI cJ cZ cB : ClassId) (sz : Nat) (aM : Nat) (mE : Nat) (a0 : Int32) (mA : Nat) (mB : Nat) (mC : Nat) (mD : Nat) (pm : Int32) (sp : Int32) (iw : Bool) (mF : Nat) (rn : Int32) (mp : Nat → Int32) (hpm : okC pm 80) (o : Int32 × Int32 × (Nat → Int32)) (ho : f_X10_say a0 pm mp = o) : Met l yX10_say wsX10_say ({ frames := 1, cells := 0, slots := 0, locals := 25 } : Room) (xPre D (xT cI cJ cZ cB) [.ref aM, .int a0] [(aM, .inr (10, [.ref mA, .ref mB, .ref mC, .ref mD, .ref mE, .int pm, .int sp, .int (bi iw), .ref mF, .int rn])), (mE, .inl (cI, 80, .inl mp))] sz) (va_Qi (fun r (_ : Unit) => r = o.1) (fun _ t => xB D ([(aM, .inr (10, [.ref mA, .ref mB, .ref mC, .ref mD, .ref mE, .int o.2.1, .int sp, .int (bi iw), .ref mF, .int rn])), (mE, .inl (cI, 80, .inl o.2.2))]) (va_A [(aM, .inr (10, [.ref mA, .ref mB, .ref mC, .ref mD, .ref mE, .int pm, .int sp, .int (bi iw), .ref mF, .int rn])), (mE, .inl (cI, 80, .inl mp))] sz) t) (va_A [(aM, .inr (10, [.ref mA, .ref mB, .ref mC, .ref mD, .ref mE, .int pm, .int sp, .int (bi iw), .ref mF, .int rn])), (mE, .inl (cI, 80, .inl mp))] sz)) 0 0 (va_A [(aM, .inr (10, [.ref mA, .ref mB, .ref mC, .ref mD, .ref mE, .int pm, .int sp, .int (bi iw), .ref mF, .int rn])), (mE, .inl (cI, 80, .inl mp))] sz) := by
  refine xofW (Qc := fun A0 => va_Qi (fun r (_ : Unit) => r = o.1) (fun _ t => xB D ([(aM, .inr (10, [.ref mA, .ref mB, .ref mC, .ref mD, .ref mE, .int o.2.1, .int sp, .int (bi iw), .ref mF, .int rn])), (mE, .inl (cI, 80, .inl o.2.2))]) A0 t) A0) (fr := fun A => A) (cc := cX10_say) (maxL := 2) (ret := (some .int)) (by decide) rfl (Nat.le_of_ble_eq_true rfl) ?_
  intro p e s m below meth c A ⟨hx, hb, hml, hown, hts⟩ hrt hlocks hnm hsz hK hW hA hG ls hl
  have hown : s.vm.findClass RX10 = some m.cls := hown
  have hl : lv_has ls 2 [(0, .ref aM), (1, .int a0)] := hl
  obtain ⟨H, hH⟩ : ∃ H, H = s.heap := ⟨_, rfl⟩
  have hW : xW D A s.heap ([(aM, .inr (10, [.ref mA, .ref mB, .ref mC, .ref mD, .ref mE, .int pm, .int sp, .int (bi iw), .ref mF, .int rn])), (mE, .inl (cI, 80, .inl mp))] ++ []) H [] := by rw [hH]; exact hW
  have w1 := hts (.constantLong RX10 198 (33)) (by decide +kernel)
  have w2 := hts (.constantLong RX10 200 (126)) (by decide +kernel)
  have w3 := hts (.fieldLink RX10 179 "DryIceLaneModel" "padMany" "I") (by decide +kernel)
  have hin10 : ∀ w ∈ u_ws RX10 TX10 10, w ∈ wsX10_say := by decide +kernel
  have w5 := hts (.fieldLink RX10 23 "DryIceLaneModel" "pad" "[I") (by decide +kernel)
  rw [← hH]
  refine lv_iload_n hx hb dX10_say_0 rfl (lv_at hl 1 rfl) ?_
  refine lv_i2l hx hb dX10_say_1 rfl ?_
  refine lv_ldc2 hx hb hown w1 dX10_say_2 ?_
  refine lv_ldc2 hx hb hown w2 dX10_say_5 ?_
  refine vp_callSi (va_Run.run (xrunS (As := [.long a0.toInt64, .long 33, .long 126]) (rest := []) ⟨hx, hb, hml, hown, hts⟩ (c_X10_in l D cI cJ cZ cB H.size a0.toInt64 33 126 _ rfl) (cwS 3 hts gX10_say_X10_in rfl rfl rfl (by decide +kernel) ⟨Nat.le_of_ble_eq_true rfl, Nat.le_of_ble_eq_true rfl⟩) hK hG hW.2.2 (xsubQ hW hA [] rfl (by decide)) rfl hl.1 rfl (Nat.le_of_ble_eq_true rfl) dX10_say_8 ⟨Nat.le_of_ble_eq_true rfl, Nat.le_of_ble_eq_true rfl⟩)) (fun r1 hq => ?_)
  subst hq
  refine xb_ne (tgt := 17) hx hb dX10_say_11 (by decide) (fun c1 => ?_) (fun c1 => ?_)
  · skip
    refine lv_aload_n hx hb dX10_say_17 rfl (lv_at hl 0 rfl) ?_
    refine xget (ci := 10) (C := RX10) (T := TX10) (N := 10) hx hb hts hin10 hown hK hW.1 0 rfl rfl 5 (by decide) w3 rfl dX10_say_18 ?_
    refine lv_bipush (v := 80) hx hb dX10_say_21 (by decide) ?_
    refine lv_icmp_ne (tgt := 29) hx hb dX10_say_23 (by decide) (fun c2 => ?_) (fun c2 => ?_)
    · skip
      refine lv_aload_n hx hb dX10_say_29 rfl (lv_at hl 0 rfl) ?_
      refine xget (ci := 10) (C := RX10) (T := TX10) (N := 10) hx hb hts hin10 hown hK hW.1 0 rfl rfl 4 (by decide) w5 rfl dX10_say_30 ?_
      refine lv_aload_n hx hb dX10_say_33 rfl (lv_at hl 0 rfl) ?_
      refine xget (ci := 10) (C := RX10) (T := TX10) (N := 10) hx hb hts hin10 hown hK hW.1 0 rfl rfl 5 (by decide) w3 rfl dX10_say_34 ?_
      refine lv_iload_n hx hb dX10_say_37 rfl (lv_at hl 1 rfl) ?_
      refine xiast hx hb hK hW 1 0 rfl (Nat.le_of_ble_eq_true rfl) rfl (say_in hpm c2) pm.toNatClampNeg rfl dX10_say_38 (fun H locs hW => ?_)
      have hW : xW D A s.heap ([(aM, .inr (10, [.ref mA, .ref mB, .ref mC, .ref mD, .ref mE, .int pm, .int sp, .int (bi iw), .ref mF, .int rn])), (mE, .inl (cI, 80, .inl (upd mp pm.toNatClampNeg a0)))] ++ []) H _ := hW
      refine lv_aload_n hx hb dX10_say_39 rfl (lv_at hl 0 rfl) ?_
      refine lv_dup hx hb dX10_say_40 rfl ?_
      refine xget (ci := 10) (C := RX10) (T := TX10) (N := 10) hx hb hts hin10 hown hK hW.1 0 rfl rfl 5 (by decide) w3 rfl dX10_say_41 ?_
      refine lv_iconst (v := 1) hx hb dX10_say_44 (by decide) ?_
      refine lv_iadd hx hb dX10_say_45 ?_
      refine xput (ci := 10) (v := .int (pm + 1)) (ty := .int) (C := RX10) (T := TX10) (N := 10) hx hb hts hin10 tyX10 tyX10_ok nmX10 hown hK hW 0 rfl (Nat.le_of_ble_eq_true rfl) rfl 5 (by decide) w3 rfl (by decide +kernel) rfl rfl (Nat.le_of_ble_eq_true rfl) dX10_say_46 (fun H locs hW => ?_)
      have hW : xW D A s.heap ([(aM, .inr (10, [.ref mA, .ref mB, .ref mC, .ref mD, .ref mE, .int (pm + 1), .int sp, .int (bi iw), .ref mF, .int rn])), (mE, .inl (cI, 80, .inl (upd mp pm.toNatClampNeg a0)))] ++ []) H _ := hW
      refine lv_aload_n hx hb dX10_say_49 rfl (lv_at hl 0 rfl) ?_
      refine xget (ci := 10) (C := RX10) (T := TX10) (N := 10) hx hb hts hin10 hown hK hW.1 0 rfl rfl 5 (by decide) w3 rfl dX10_say_50 ?_
      have hF : f_X10_say a0 pm mp = (pm + 1, pm + 1, upd mp pm.toNatClampNeg a0) := by
        rw [f_X10_say, if_pos c1, if_neg c2]
      obtain rfl : (pm + 1, pm + 1, upd mp pm.toNatClampNeg a0) = o := hF.symm.trans ho
      exact W.iret (v := pm + 1) hx hb hrt (fun t ht hM => ⟨⟨_, (), rfl, rfl, ⟨by rw [ht]; exact hW.1, hW.2.1⟩⟩, hW.2.2.F ht⟩) hW.2.2.2.2 dX10_say_53 hlocks
    · skip
      refine lv_bipush (v := -4) hx hb dX10_say_26 (by decide) ?_
      have hF : f_X10_say a0 pm mp = (-4, pm, mp) := by
        rw [f_X10_say, if_pos c1, if_pos c2]
      obtain rfl : (-4, pm, mp) = o := hF.symm.trans ho
      exact W.iret (v := -4) hx hb hrt (fun t ht hM => ⟨⟨_, (), rfl, rfl, ⟨by rw [ht]; exact hW.1, hW.2.1⟩⟩, hW.2.2.F ht⟩) hW.2.2.2.2 dX10_say_28 hlocks
  · skip
    refine lv_bipush (v := -2) hx hb dX10_say_14 (by decide) ?_
    have hF : f_X10_say a0 pm mp = (-2, pm, mp) := by
      rw [f_X10_say, if_neg c1]
    obtain rfl : (-2, pm, mp) = o := hF.symm.trans ho
    exact W.iret (v := -2) hx hb hrt (fun t ht hM => ⟨⟨_, (), rfl, rfl, ⟨by rw [ht]; exact hW.1, hW.2.1⟩⟩, hW.2.2.F ht⟩) hW.2.2.2.2 dX10_say_16 hlocks

def f_X10_wipe (pm : Int32) : Int32 × Int32 :=
  (pm, 0)
set_option maxHeartbeats 4000000 in
set_option maxRecDepth 100000 in
theorem c_X10_wipe (l : Launch) (D : va_G) (cI cJ cZ cB : ClassId) (sz : Nat) (aM : Nat) (mA : Nat) (mB : Nat) (mC : Nat) (mD : Nat) (mE : Nat) (pm : Int32) (sp : Int32) (iw : Bool) (mF : Nat) (rn : Int32) (o : Int32 × Int32) (ho : f_X10_wipe pm = o) : Met l yX10_wipe wsX10_wipe ({ frames := 0, cells := 0, slots := 0, locals := 0 } : Room) (xPre D (xT cI cJ cZ cB) [.ref aM] [(aM, .inr (10, [.ref mA, .ref mB, .ref mC, .ref mD, .ref mE, .int pm, .int sp, .int (bi iw), .ref mF, .int rn]))] sz) (va_Qi (fun r (_ : Unit) => r = o.1) (fun _ t => xB D ([(aM, .inr (10, [.ref mA, .ref mB, .ref mC, .ref mD, .ref mE, .int o.2, .int sp, .int (bi iw), .ref mF, .int rn]))]) (va_A [(aM, .inr (10, [.ref mA, .ref mB, .ref mC, .ref mD, .ref mE, .int pm, .int sp, .int (bi iw), .ref mF, .int rn]))] sz) t) (va_A [(aM, .inr (10, [.ref mA, .ref mB, .ref mC, .ref mD, .ref mE, .int pm, .int sp, .int (bi iw), .ref mF, .int rn]))] sz)) 0 0 (va_A [(aM, .inr (10, [.ref mA, .ref mB, .ref mC, .ref mD, .ref mE, .int pm, .int sp, .int (bi iw), .ref mF, .int rn]))] sz) := by
  refine xofW (Qc := fun A0 => va_Qi (fun r (_ : Unit) => r = o.1) (fun _ t => xB D ([(aM, .inr (10, [.ref mA, .ref mB, .ref mC, .ref mD, .ref mE, .int o.2, .int sp, .int (bi iw), .ref mF, .int rn]))]) A0 t) A0) (fr := fun A => A) (cc := cX10_wipe) (maxL := 2) (ret := (some .int)) (by decide) rfl (Nat.le_of_ble_eq_true rfl) ?_
  intro p e s m below meth c A ⟨hx, hb, hml, hown, hts⟩ hrt hlocks hnm hsz hK hW hA hG ls hl
  have hown : s.vm.findClass RX10 = some m.cls := hown
  have hl : lv_has ls 2 [(0, .ref aM)] := hl
  obtain ⟨H, hH⟩ : ∃ H, H = s.heap := ⟨_, rfl⟩
  have hW : xW D A s.heap ([(aM, .inr (10, [.ref mA, .ref mB, .ref mC, .ref mD, .ref mE, .int pm, .int sp, .int (bi iw), .ref mF, .int rn]))] ++ []) H [] := by rw [hH]; exact hW
  have w1 := hts (.fieldLink RX10 179 "DryIceLaneModel" "padMany" "I") (by decide +kernel)
  have hin10 : ∀ w ∈ u_ws RX10 TX10 10, w ∈ wsX10_wipe := by decide +kernel
  rw [← hH]
  refine lv_aload_n hx hb dX10_wipe_0 rfl (lv_at hl 0 rfl) ?_
  refine xget (ci := 10) (C := RX10) (T := TX10) (N := 10) hx hb hts hin10 hown hK hW.1 0 rfl rfl 5 (by decide) w1 rfl dX10_wipe_1 ?_
  refine lv_istore_n (lv' := [(1, .int pm), (0, .ref aM)]) hx hb dX10_wipe_4 rfl hl (by decide) rfl (fun ls hl => ?_)
  refine lv_aload_n hx hb dX10_wipe_5 rfl (lv_at hl 1 rfl) ?_
  refine lv_iconst (v := 0) hx hb dX10_wipe_6 (by decide) ?_
  refine xput (ci := 10) (v := .int 0) (ty := .int) (C := RX10) (T := TX10) (N := 10) hx hb hts hin10 tyX10 tyX10_ok nmX10 hown hK hW 0 rfl (Nat.le_of_ble_eq_true rfl) rfl 5 (by decide) w1 rfl (by decide +kernel) rfl rfl (Nat.le_of_ble_eq_true rfl) dX10_wipe_7 (fun H locs hW => ?_)
  have hW : xW D A s.heap ([(aM, .inr (10, [.ref mA, .ref mB, .ref mC, .ref mD, .ref mE, .int 0, .int sp, .int (bi iw), .ref mF, .int rn]))] ++ []) H _ := hW
  refine lv_iload_n hx hb dX10_wipe_10 rfl (lv_at hl 0 rfl) ?_
  have hF : f_X10_wipe pm = (pm, 0) := by
    rw [f_X10_wipe]
  obtain rfl : (pm, 0) = o := hF.symm.trans ho
  exact W.iret (v := pm) hx hb hrt (fun t ht hM => ⟨⟨_, (), rfl, rfl, ⟨by rw [ht]; exact hW.1, hW.2.1⟩⟩, hW.2.2.F ht⟩) hW.2.2.2.2 dX10_wipe_11 hlocks

def f_X10_next (pm : Int32) (sp : Int32) (mp : Nat → Int32) : Int32 :=
  if pm ≤ sp then
    0
  else
    mp sp.toNatClampNeg
set_option maxHeartbeats 4000000 in
set_option maxRecDepth 100000 in
theorem c_X10_next (l : Launch) (D : va_G) (cI cJ cZ cB : ClassId) (sz : Nat) (aM : Nat) (mE : Nat) (mA : Nat) (mB : Nat) (mC : Nat) (mD : Nat) (pm : Int32) (sp : Int32) (iw : Bool) (mF : Nat) (rn : Int32) (mp : Nat → Int32) (hpm : okC pm 80) (hsp : 0 ≤ sp.toInt ∧ sp.toInt ≤ pm.toInt) (o : Int32) (ho : f_X10_next pm sp mp = o) : Met l yX10_next wsX10_next ({ frames := 0, cells := 0, slots := 0, locals := 0 } : Room) (xPre D (xT cI cJ cZ cB) [.ref aM] [(aM, .inr (10, [.ref mA, .ref mB, .ref mC, .ref mD, .ref mE, .int pm, .int sp, .int (bi iw), .ref mF, .int rn])), (mE, .inl (cI, 80, .inl mp))] sz) (vp_Si (fun r => r = o)) 0 0 (fun _ => False) := by
  refine xofW (Qc := fun _ => vp_Si (fun r => r = o)) (fr := fun _ _ => False) (cc := cX10_next) (maxL := 1) (ret := (some .int)) (by decide) rfl (Nat.le_of_ble_eq_true rfl) ?_
  intro p e s m below meth c A ⟨hx, hb, hml, hown, hts⟩ hrt hlocks hnm hsz hK hW hA hG ls hl
  have hown : s.vm.findClass RX10 = some m.cls := hown
  have hl : lv_has ls 1 [(0, .ref aM)] := hl
  obtain ⟨H, hH⟩ : ∃ H, H = s.heap := ⟨_, rfl⟩
  have hW : xW D A s.heap ([(aM, .inr (10, [.ref mA, .ref mB, .ref mC, .ref mD, .ref mE, .int pm, .int sp, .int (bi iw), .ref mF, .int rn])), (mE, .inl (cI, 80, .inl mp))] ++ []) H [] := by rw [hH]; exact hW
  have w1 := hts (.fieldLink RX10 202 "DryIceLaneModel" "spot" "I") (by decide +kernel)
  have hin10 : ∀ w ∈ u_ws RX10 TX10 10, w ∈ wsX10_next := by decide +kernel
  have w3 := hts (.fieldLink RX10 179 "DryIceLaneModel" "padMany" "I") (by decide +kernel)
  have w4 := hts (.fieldLink RX10 23 "DryIceLaneModel" "pad" "[I") (by decide +kernel)
  rw [← hH]
  refine lv_aload_n hx hb dX10_next_0 rfl (lv_at hl 0 rfl) ?_
  refine xget (ci := 10) (C := RX10) (T := TX10) (N := 10) hx hb hts hin10 hown hK hW.1 0 rfl rfl 6 (by decide) w1 rfl dX10_next_1 ?_
  refine lv_aload_n hx hb dX10_next_4 rfl (lv_at hl 0 rfl) ?_
  refine xget (ci := 10) (C := RX10) (T := TX10) (N := 10) hx hb hts hin10 hown hK hW.1 0 rfl rfl 5 (by decide) w3 rfl dX10_next_5 ?_
  refine lv_icmp_ge (tgt := 23) hx hb dX10_next_8 (by decide) (fun c1 => ?_) (fun c1 => ?_)
  · skip
    refine lv_iconst (v := 0) hx hb dX10_next_23 (by decide) ?_
    have hF : f_X10_next pm sp mp = 0 := by
      rw [f_X10_next, if_pos c1]
    obtain rfl : 0 = o := hF.symm.trans ho
    exact W.iret (v := 0) hx hb hrt (fun t ht hM => ⟨_, rfl, rfl, ht.trans hH⟩) (fun q h => by cases h) dX10_next_24 hlocks
  · skip
    refine lv_aload_n hx hb dX10_next_11 rfl (lv_at hl 0 rfl) ?_
    refine xget (ci := 10) (C := RX10) (T := TX10) (N := 10) hx hb hts hin10 hown hK hW.1 0 rfl rfl 4 (by decide) w4 rfl dX10_next_12 ?_
    refine lv_aload_n hx hb dX10_next_15 rfl (lv_at hl 0 rfl) ?_
    refine xget (ci := 10) (C := RX10) (T := TX10) (N := 10) hx hb hts hin10 hown hK hW.1 0 rfl rfl 6 (by decide) w1 rfl dX10_next_16 ?_
    refine xiald hx hb hK hW.1 1 0 rfl rfl (cap_in hsp.1 c1 hpm) sp.toNatClampNeg rfl (v := mp sp.toNatClampNeg) rfl dX10_next_19 ?_
    refine lv_goto (tgt := 24) hx hb dX10_next_20 (by decide) ?_
    have hF : f_X10_next pm sp mp = mp sp.toNatClampNeg := by
      rw [f_X10_next, if_neg c1]
    obtain rfl : mp sp.toNatClampNeg = o := hF.symm.trans ho
    exact W.iret (v := mp sp.toNatClampNeg) hx hb hrt (fun t ht hM => ⟨_, rfl, rfl, ht.trans hH⟩) (fun q h => by cases h) dX10_next_24 hlocks

theorem nx_lt {lo : Int64} {pm sp : Int32} {mp : Nat → Int32} (h : f_X10_in (f_X10_next pm sp mp).toInt64 lo 57 = true) (hlo : 1 ≤ lo.toInt) : sp.toInt < pm.toInt := by
  unfold f_X10_next at h
  by_cases c : pm ≤ sp
  · rw [if_pos c] at h
    have h1 := (in_iff.mp h).1
    have e : ((0 : Int32).toInt64).toInt = 0 := by decide
    omega
  · exact xnle.mp c
theorem nx_eq {c0 : Int32} {pm sp : Int32} {mp : Nat → Int32} (h : f_X10_next pm sp mp = c0) (hc : ¬ c0 = 0) : sp.toInt < pm.toInt := by
  unfold f_X10_next at h
  by_cases c : pm ≤ sp
  · rw [if_pos c] at h; exact absurd h.symm hc
  · exact xnle.mp c
theorem sp_up {pm sp : Int32} (h : 0 ≤ sp.toInt) (c : sp.toInt < pm.toInt) : (sp + 1).toInt = sp.toInt + 1 := up_i (n := pm) (xnle.mpr c)

theorem sp_ok {pm ys : Int32} (h : 0 ≤ ys.toInt ∧ ys.toInt ≤ pm.toInt) (c : ys.toInt < pm.toInt) : 0 ≤ (ys + 1).toInt ∧ (ys + 1).toInt ≤ pm.toInt := by
  rw [sp_up h.1 c]; omega
theorem tn_mu {pm ys : Int32} {k : Nat} (h : 0 ≤ ys.toInt ∧ ys.toInt ≤ pm.toInt) (c : ys.toInt < pm.toInt) (hm : (pm.toInt - ys.toInt).toNat < k + 1) : (pm.toInt - (ys + 1).toInt).toNat < k := by
  rw [sp_up h.1 c]; omega

def f_X10_takeNumber_lp51 (a1 : Int32) (pm : Int32) (mp : Nat → Int32) : Nat → Int32 → Bool → Int32 → Bool → Int32 × Int32 × Bool
  | 0, _, _, _, _ => (0, 0, false)
  | n + 1, yv, ym, ys, yw =>
    if ym = true then
      if (((10 * yv) + (f_X10_next pm ys mp)) - 48) ≤ 0 then
        f_X10_takeNumber_lp51 a1 pm mp n (((10 * yv) + (f_X10_next pm ys mp)) - 48) false (ys + 1) yw
      else
        if (f_X10_in (f_X10_next pm (ys + 1) mp).toInt64 48 57) = true then
          if a1 < (((10 * (((10 * yv) + (f_X10_next pm ys mp)) - 48)) + (f_X10_next pm (ys + 1) mp)) - 48) then
            f_X10_takeNumber_lp51 a1 pm mp n (((10 * yv) + (f_X10_next pm ys mp)) - 48) false (ys + 1) yw
          else
            f_X10_takeNumber_lp51 a1 pm mp n (((10 * yv) + (f_X10_next pm ys mp)) - 48) true (ys + 1) yw
        else
          f_X10_takeNumber_lp51 a1 pm mp n (((10 * yv) + (f_X10_next pm ys mp)) - 48) false (ys + 1) yw
    else
      (yv, ys, yw)
def f_X10_takeNumber (a0 : Int32) (a1 : Int32) (pm : Int32) (sp : Int32) (iw : Bool) (mp : Nat → Int32) : Int32 × Int32 × Bool :=
  if iw = true then
    f_X10_takeNumber_lp51 a1 pm mp ((pm.toInt - sp.toInt).toNat + 1) 0 false sp true
  else
    if (f_X10_in (f_X10_next pm sp mp).toInt64 (48 + a0).toInt64 57) = true then
      f_X10_takeNumber_lp51 a1 pm mp ((pm.toInt - sp.toInt).toNat + 1) 0 true sp false
    else
      f_X10_takeNumber_lp51 a1 pm mp ((pm.toInt - sp.toInt).toNat + 1) 0 false sp true
set_option maxHeartbeats 4000000 in
set_option maxRecDepth 100000 in
theorem c_X10_takeNumber (l : Launch) (D : va_G) (cI cJ cZ cB : ClassId) (sz : Nat) (aM : Nat) (mE : Nat) (a0 : Int32) (a1 : Int32) (mA : Nat) (mB : Nat) (mC : Nat) (mD : Nat) (pm : Int32) (sp : Int32) (iw : Bool) (mF : Nat) (rn : Int32) (mp : Nat → Int32) (hpm : okC pm 80) (hsp : 0 ≤ sp.toInt ∧ sp.toInt ≤ pm.toInt) (ha : 1 ≤ (48 + a0).toInt64.toInt) (o : Int32 × Int32 × Bool) (ho : f_X10_takeNumber a0 a1 pm sp iw mp = o) : Met l yX10_takeNumber wsX10_takeNumber ({ frames := 1, cells := 0, slots := 0, locals := 25 } : Room) (xPre D (xT cI cJ cZ cB) [.ref aM, .int a0, .int a1] [(aM, .inr (10, [.ref mA, .ref mB, .ref mC, .ref mD, .ref mE, .int pm, .int sp, .int (bi iw), .ref mF, .int rn])), (mE, .inl (cI, 80, .inl mp))] sz) (va_Qi (fun r (_ : Unit) => r = o.1) (fun _ t => xB D ([(aM, .inr (10, [.ref mA, .ref mB, .ref mC, .ref mD, .ref mE, .int pm, .int o.2.1, .int (bi o.2.2), .ref mF, .int rn])), (mE, .inl (cI, 80, .inl mp))]) (va_A [(aM, .inr (10, [.ref mA, .ref mB, .ref mC, .ref mD, .ref mE, .int pm, .int sp, .int (bi iw), .ref mF, .int rn])), (mE, .inl (cI, 80, .inl mp))] sz) t) (va_A [(aM, .inr (10, [.ref mA, .ref mB, .ref mC, .ref mD, .ref mE, .int pm, .int sp, .int (bi iw), .ref mF, .int rn])), (mE, .inl (cI, 80, .inl mp))] sz)) 0 0 (va_A [(aM, .inr (10, [.ref mA, .ref mB, .ref mC, .ref mD, .ref mE, .int pm, .int sp, .int (bi iw), .ref mF, .int rn])), (mE, .inl (cI, 80, .inl mp))] sz) := by
  refine xofW (Qc := fun A0 => va_Qi (fun r (_ : Unit) => r = o.1) (fun _ t => xB D ([(aM, .inr (10, [.ref mA, .ref mB, .ref mC, .ref mD, .ref mE, .int pm, .int o.2.1, .int (bi o.2.2), .ref mF, .int rn])), (mE, .inl (cI, 80, .inl mp))]) A0 t) A0) (fr := fun A => A) (cc := cX10_takeNumber) (maxL := 5) (ret := (some .int)) (by decide) rfl (Nat.le_of_ble_eq_true rfl) ?_
  intro p e s m below meth c A ⟨hx, hb, hml, hown, hts⟩ hrt hlocks hnm hsz hK hW hA hG ls hl
  have hown : s.vm.findClass RX10 = some m.cls := hown
  have hl : lv_has ls 5 [(0, .ref aM), (1, .int a0), (2, .int a1)] := hl
  obtain ⟨H, hH⟩ : ∃ H, H = s.heap := ⟨_, rfl⟩
  have hW : xW D A s.heap ([(aM, .inr (10, [.ref mA, .ref mB, .ref mC, .ref mD, .ref mE, .int pm, .int sp, .int (bi iw), .ref mF, .int rn])), (mE, .inl (cI, 80, .inl mp))] ++ []) H [] := by rw [hH]; exact hW
  have w1 := hts (.fieldLink RX10 205 "DryIceLaneModel" "isWrong" "Z") (by decide +kernel)
  have hin10 : ∀ w ∈ u_ws RX10 TX10 10, w ∈ wsX10_takeNumber := by decide +kernel
  have w3 := hts (.fieldLink RX10 202 "DryIceLaneModel" "spot" "I") (by decide +kernel)
  have w4 := hts (.constantLong RX10 214 (48)) (by decide +kernel)
  have w5 := hts (.constantLong RX10 212 (57)) (by decide +kernel)
  rw [← hH]
  refine lv_aload_n hx hb dX10_takeNumber_0 rfl (lv_at hl 0 rfl) ?_
  refine lv_aload_n hx hb dX10_takeNumber_1 rfl (lv_at hl 0 rfl) ?_
  refine xget (ci := 10) (C := RX10) (T := TX10) (N := 10) hx hb hts hin10 hown hK hW.1 0 rfl rfl 7 (by decide) w1 rfl dX10_takeNumber_2 ?_
  refine xb_ne (tgt := 27) hx hb dX10_takeNumber_5 (by decide) (fun c1 => ?_) (fun c1 => ?_)
  · skip
    refine lv_iconst (v := 1) hx hb dX10_takeNumber_27 (by decide) ?_
    refine lv_goto (tgt := 32) hx hb dX10_takeNumber_28 (by decide) ?_
    refine xput (ci := 10) (v := .int 1) (ty := .boolean) (C := RX10) (T := TX10) (N := 10) hx hb hts hin10 tyX10 tyX10_ok nmX10 hown hK hW 0 rfl (Nat.le_of_ble_eq_true rfl) rfl 7 (by decide) w1 rfl (by decide +kernel) rfl rfl (Nat.le_of_ble_eq_true rfl) dX10_takeNumber_32 (fun H locs hW => ?_)
    have hW : xW D A s.heap ([(aM, .inr (10, [.ref mA, .ref mB, .ref mC, .ref mD, .ref mE, .int pm, .int sp, .int (bi true), .ref mF, .int rn])), (mE, .inl (cI, 80, .inl mp))] ++ []) H _ := hW
    refine lv_iconst (v := 0) hx hb dX10_takeNumber_35 (by decide) ?_
    refine lv_istore_n (lv' := [(3, .int 0), (0, .ref aM), (1, .int a0), (2, .int a1)]) hx hb dX10_takeNumber_36 rfl hl (by decide) rfl (fun ls hl => ?_)
    refine lv_aload_n hx hb dX10_takeNumber_37 rfl (lv_at hl 1 rfl) ?_
    refine xget (ci := 10) (C := RX10) (T := TX10) (N := 10) hx hb hts hin10 hown hK hW.1 0 rfl rfl 7 (by decide) w1 rfl dX10_takeNumber_38 ?_
    refine xb_ne (tgt := 48) hx hb dX10_takeNumber_41 (by decide) (fun c2 => ?_) (fun c2 => ?_)
    · skip
      refine lv_iconst (v := 0) hx hb dX10_takeNumber_48 (by decide) ?_
      refine lv_istore (lv' := [(4, .int 0), (3, .int 0), (0, .ref aM), (1, .int a0), (2, .int a1)]) hx hb dX10_takeNumber_49 hl (by decide) rfl (fun ls hl => ?_)
      have hl51_ : ∀ (n : Nat) (yv : Int32) (ym : Bool) (ys : Int32) (yw : Bool), f_X10_takeNumber_lp51 a1 pm mp n yv ym ys yw = o → (0 ≤ ys.toInt ∧ ys.toInt ≤ pm.toInt) → (ym = true → ys.toInt < pm.toInt) → (pm.toInt - ys.toInt).toNat < n → ∀ (H : Heap) (locs : List Loc) (ls : Array Slot), xW D A s.heap ([(aM, .inr (10, [.ref mA, .ref mB, .ref mC, .ref mD, .ref mE, .int pm, .int ys, .int (bi yw), .ref mF, .int rn])), (mE, .inl (cI, 80, .inl mp))] ++ []) H locs → lv_has ls 5 [(0, .ref aM), (1, .int a0), (2, .int a1), (3, .int yv), (4, .int (bi ym))] → W p l e ({ frames := 1, cells := 0, slots := 0, locals := 25 } : Room) s m [.ref aM, .int a0, .int a1].toArray below meth c H locs 0 0 (MQ below (va_Qi (fun r (_ : Unit) => r = o.1) (fun _ t => xB D ([(aM, .inr (10, [.ref mA, .ref mB, .ref mC, .ref mD, .ref mE, .int pm, .int o.2.1, .int (bi o.2.2), .ref mF, .int rn])), (mE, .inl (cI, 80, .inl mp))]) A t) A) [.ref aM, .int a0, .int a1].toArray s 0 0 A) (F0 m 51 ls []) := by
        intro n
        induction n with
        | zero =>
          intro yv ym ys yw _ _ _ hm
          exact absurd hm (Nat.not_lt_zero _)
        | succ n ih51 =>
          intro yv ym ys yw hlp51 hys hmo hm51 H locs ls hW hl
          refine lv_iload hx hb dX10_takeNumber_51 (lv_at hl 4 rfl) ?_
          refine xb_eq (tgt := 126) hx hb dX10_takeNumber_53 (by decide) (fun c3 => ?_) (fun c3 => ?_)
          · skip
            refine lv_iload_n hx hb dX10_takeNumber_126 rfl (lv_at hl 3 rfl) ?_
            have hF : f_X10_takeNumber_lp51 a1 pm mp (n + 1) yv ym ys yw = (yv, ys, yw) := by
              rw [f_X10_takeNumber_lp51, if_neg c3]
            obtain rfl : (yv, ys, yw) = o := hF.symm.trans hlp51
            exact W.iret (v := yv) hx hb hrt (fun t ht hM => ⟨⟨_, (), rfl, rfl, ⟨by rw [ht]; exact hW.1, hW.2.1⟩⟩, hW.2.2.F ht⟩) hW.2.2.2.2 dX10_takeNumber_127 hlocks
          · skip
            refine lv_bipush (v := 10) hx hb dX10_takeNumber_56 (by decide) ?_
            refine lv_iload_n hx hb dX10_takeNumber_58 rfl (lv_at hl 3 rfl) ?_
            refine lv_imul hx hb dX10_takeNumber_59 ?_
            refine lv_aload_n hx hb dX10_takeNumber_60 rfl (lv_at hl 0 rfl) ?_
            refine vp_callSi (va_Run.run (xrunV (As := []) (rest := [.int (10 * yv)]) ⟨hx, hb, hml, hown, hts⟩ (c_X10_next l D cI cJ cZ cB H.size aM mE mA mB mC mD pm ys yw mF rn mp (by assumption) (hys) _ rfl) (cwV 0 hts gX10_takeNumber_X10_next rfl rfl rfl (by decide +kernel) ⟨Nat.le_of_ble_eq_true rfl, Nat.le_of_ble_eq_true rfl⟩) hK hG hW.2.2 (xsubQ hW hA [0, 1] rfl (by decide)) (va_recv hK hW.1 (ci := 10) (q0 := 0) rfl rfl) rfl hl.1 rfl (Nat.le_of_ble_eq_true rfl) dX10_takeNumber_61 ⟨Nat.le_of_ble_eq_true rfl, Nat.le_of_ble_eq_true rfl⟩)) (fun r1 hq => ?_)
            subst hq
            refine lv_iadd hx hb dX10_takeNumber_64 ?_
            refine lv_bipush (v := 48) hx hb dX10_takeNumber_65 (by decide) ?_
            refine lv_isub hx hb dX10_takeNumber_67 ?_
            refine lv_istore_n (lv' := [(3, .int (((10 * yv) + (f_X10_next pm ys mp)) - 48)), (0, .ref aM), (1, .int a0), (2, .int a1), (4, .int (bi ym))]) hx hb dX10_takeNumber_68 rfl hl (by decide) rfl (fun ls hl => ?_)
            refine lv_aload_n hx hb dX10_takeNumber_69 rfl (lv_at hl 1 rfl) ?_
            refine lv_dup hx hb dX10_takeNumber_70 rfl ?_
            refine xget (ci := 10) (C := RX10) (T := TX10) (N := 10) hx hb hts hin10 hown hK hW.1 0 rfl rfl 6 (by decide) w3 rfl dX10_takeNumber_71 ?_
            refine lv_iconst (v := 1) hx hb dX10_takeNumber_74 (by decide) ?_
            refine lv_iadd hx hb dX10_takeNumber_75 ?_
            refine xput (ci := 10) (v := .int (ys + 1)) (ty := .int) (C := RX10) (T := TX10) (N := 10) hx hb hts hin10 tyX10 tyX10_ok nmX10 hown hK hW 0 rfl (Nat.le_of_ble_eq_true rfl) rfl 6 (by decide) w3 rfl (by decide +kernel) rfl rfl (Nat.le_of_ble_eq_true rfl) dX10_takeNumber_76 (fun H locs hW => ?_)
            have hW : xW D A s.heap ([(aM, .inr (10, [.ref mA, .ref mB, .ref mC, .ref mD, .ref mE, .int pm, .int (ys + 1), .int (bi yw), .ref mF, .int rn])), (mE, .inl (cI, 80, .inl mp))] ++ []) H _ := hW
            refine lv_iload_n hx hb dX10_takeNumber_79 rfl (lv_at hl 0 rfl) ?_
            refine lv_if_le (tgt := 120) hx hb dX10_takeNumber_80 (by decide) (fun c4 => ?_) (fun c4 => ?_)
            · skip
              refine lv_iconst (v := 0) hx hb dX10_takeNumber_120 (by decide) ?_
              refine lv_istore (lv' := [(4, .int 0), (3, .int (((10 * yv) + (f_X10_next pm ys mp)) - 48)), (0, .ref aM), (1, .int a0), (2, .int a1)]) hx hb dX10_takeNumber_121 hl (by decide) rfl (fun ls hl => ?_)
              refine lv_goto (tgt := 51) hx hb dX10_takeNumber_123 (by decide) ?_
              have hF : f_X10_takeNumber_lp51 a1 pm mp (n + 1) yv ym ys yw = f_X10_takeNumber_lp51 a1 pm mp n (((10 * yv) + (f_X10_next pm ys mp)) - 48) false (ys + 1) yw := by
                rw [f_X10_takeNumber_lp51, if_pos c3, if_pos c4]
              refine W.widen (k := 0) (n := 0) (Nat.le_of_ble_eq_true rfl) (Nat.le_of_ble_eq_true rfl) ?_
              exact ih51 (((10 * yv) + (f_X10_next pm ys mp)) - 48) false (ys + 1) yw (hF.symm.trans hlp51) (sp_ok hys (hmo c3)) (fun q => by cases q) (tn_mu hys (hmo c3) hm51) _ _ _ hW (lv_sub hl [2, 3, 4, 1, 0] rfl)
            · skip
              refine lv_aload_n hx hb dX10_takeNumber_83 rfl (lv_at hl 1 rfl) ?_
              refine vp_callSi (va_Run.run (xrunV (As := []) (rest := []) ⟨hx, hb, hml, hown, hts⟩ (c_X10_next l D cI cJ cZ cB H.size aM mE mA mB mC mD pm (ys + 1) yw mF rn mp (by assumption) (sp_ok hys (hmo c3)) _ rfl) (cwV 0 hts gX10_takeNumber_X10_next rfl rfl rfl (by decide +kernel) ⟨Nat.le_of_ble_eq_true rfl, Nat.le_of_ble_eq_true rfl⟩) hK hG hW.2.2 (xsubQ hW hA [0, 1] rfl (by decide)) (va_recv hK hW.1 (ci := 10) (q0 := 0) rfl rfl) rfl hl.1 rfl (Nat.le_of_ble_eq_true rfl) dX10_takeNumber_84 ⟨Nat.le_of_ble_eq_true rfl, Nat.le_of_ble_eq_true rfl⟩)) (fun r2 hq => ?_)
              subst hq
              refine lv_i2l hx hb dX10_takeNumber_87 rfl ?_
              refine lv_ldc2 hx hb hown w4 dX10_takeNumber_88 ?_
              refine lv_ldc2 hx hb hown w5 dX10_takeNumber_91 ?_
              refine vp_callSi (va_Run.run (xrunS (As := [.long (f_X10_next pm (ys + 1) mp).toInt64, .long 48, .long 57]) (rest := []) ⟨hx, hb, hml, hown, hts⟩ (c_X10_in l D cI cJ cZ cB H.size (f_X10_next pm (ys + 1) mp).toInt64 48 57 _ rfl) (cwS 3 hts gX10_takeNumber_X10_in rfl rfl rfl (by decide +kernel) ⟨Nat.le_of_ble_eq_true rfl, Nat.le_of_ble_eq_true rfl⟩) hK hG hW.2.2 (xsubQ hW hA [] rfl (by decide)) rfl hl.1 rfl (Nat.le_of_ble_eq_true rfl) dX10_takeNumber_94 ⟨Nat.le_of_ble_eq_true rfl, Nat.le_of_ble_eq_true rfl⟩)) (fun r3 hq => ?_)
              subst hq
              refine xb_eq (tgt := 120) hx hb dX10_takeNumber_97 (by decide) (fun c5 => ?_) (fun c5 => ?_)
              · skip
                refine lv_iconst (v := 0) hx hb dX10_takeNumber_120 (by decide) ?_
                refine lv_istore (lv' := [(4, .int 0), (3, .int (((10 * yv) + (f_X10_next pm ys mp)) - 48)), (0, .ref aM), (1, .int a0), (2, .int a1)]) hx hb dX10_takeNumber_121 hl (by decide) rfl (fun ls hl => ?_)
                refine lv_goto (tgt := 51) hx hb dX10_takeNumber_123 (by decide) ?_
                have hF : f_X10_takeNumber_lp51 a1 pm mp (n + 1) yv ym ys yw = f_X10_takeNumber_lp51 a1 pm mp n (((10 * yv) + (f_X10_next pm ys mp)) - 48) false (ys + 1) yw := by
                  rw [f_X10_takeNumber_lp51, if_pos c3, if_neg c4, if_neg c5]
                refine W.widen (k := 0) (n := 0) (Nat.le_of_ble_eq_true rfl) (Nat.le_of_ble_eq_true rfl) ?_
                exact ih51 (((10 * yv) + (f_X10_next pm ys mp)) - 48) false (ys + 1) yw (hF.symm.trans hlp51) (sp_ok hys (hmo c3)) (fun q => by cases q) (tn_mu hys (hmo c3) hm51) _ _ _ hW (lv_sub hl [2, 3, 4, 1, 0] rfl)
              · skip
                refine lv_bipush (v := 10) hx hb dX10_takeNumber_100 (by decide) ?_
                refine lv_iload_n hx hb dX10_takeNumber_102 rfl (lv_at hl 0 rfl) ?_
                refine lv_imul hx hb dX10_takeNumber_103 ?_
                refine lv_aload_n hx hb dX10_takeNumber_104 rfl (lv_at hl 1 rfl) ?_
                refine vp_callSi (va_Run.run (xrunV (As := []) (rest := [.int (10 * (((10 * yv) + (f_X10_next pm ys mp)) - 48))]) ⟨hx, hb, hml, hown, hts⟩ (c_X10_next l D cI cJ cZ cB H.size aM mE mA mB mC mD pm (ys + 1) yw mF rn mp (by assumption) (sp_ok hys (hmo c3)) _ rfl) (cwV 0 hts gX10_takeNumber_X10_next rfl rfl rfl (by decide +kernel) ⟨Nat.le_of_ble_eq_true rfl, Nat.le_of_ble_eq_true rfl⟩) hK hG hW.2.2 (xsubQ hW hA [0, 1] rfl (by decide)) (va_recv hK hW.1 (ci := 10) (q0 := 0) rfl rfl) rfl hl.1 rfl (Nat.le_of_ble_eq_true rfl) dX10_takeNumber_105 ⟨Nat.le_of_ble_eq_true rfl, Nat.le_of_ble_eq_true rfl⟩)) (fun r4 hq => ?_)
                subst hq
                refine lv_iadd hx hb dX10_takeNumber_108 ?_
                refine lv_bipush (v := 48) hx hb dX10_takeNumber_109 (by decide) ?_
                refine lv_isub hx hb dX10_takeNumber_111 ?_
                refine lv_iload_n hx hb dX10_takeNumber_112 rfl (lv_at hl 3 rfl) ?_
                refine lv_icmp_gt (tgt := 120) hx hb dX10_takeNumber_113 (by decide) (fun c6 => ?_) (fun c6 => ?_)
                · skip
                  refine lv_iconst (v := 0) hx hb dX10_takeNumber_120 (by decide) ?_
                  refine lv_istore (lv' := [(4, .int 0), (3, .int (((10 * yv) + (f_X10_next pm ys mp)) - 48)), (0, .ref aM), (1, .int a0), (2, .int a1)]) hx hb dX10_takeNumber_121 hl (by decide) rfl (fun ls hl => ?_)
                  refine lv_goto (tgt := 51) hx hb dX10_takeNumber_123 (by decide) ?_
                  have hF : f_X10_takeNumber_lp51 a1 pm mp (n + 1) yv ym ys yw = f_X10_takeNumber_lp51 a1 pm mp n (((10 * yv) + (f_X10_next pm ys mp)) - 48) false (ys + 1) yw := by
                    rw [f_X10_takeNumber_lp51, if_pos c3, if_neg c4, if_pos c5, if_pos c6]
                  refine W.widen (k := 0) (n := 0) (Nat.le_of_ble_eq_true rfl) (Nat.le_of_ble_eq_true rfl) ?_
                  exact ih51 (((10 * yv) + (f_X10_next pm ys mp)) - 48) false (ys + 1) yw (hF.symm.trans hlp51) (sp_ok hys (hmo c3)) (fun q => by cases q) (tn_mu hys (hmo c3) hm51) _ _ _ hW (lv_sub hl [2, 3, 4, 1, 0] rfl)
                · skip
                  refine lv_iconst (v := 1) hx hb dX10_takeNumber_116 (by decide) ?_
                  refine lv_goto (tgt := 121) hx hb dX10_takeNumber_117 (by decide) ?_
                  refine lv_istore (lv' := [(4, .int 1), (3, .int (((10 * yv) + (f_X10_next pm ys mp)) - 48)), (0, .ref aM), (1, .int a0), (2, .int a1)]) hx hb dX10_takeNumber_121 hl (by decide) rfl (fun ls hl => ?_)
                  refine lv_goto (tgt := 51) hx hb dX10_takeNumber_123 (by decide) ?_
                  have hF : f_X10_takeNumber_lp51 a1 pm mp (n + 1) yv ym ys yw = f_X10_takeNumber_lp51 a1 pm mp n (((10 * yv) + (f_X10_next pm ys mp)) - 48) true (ys + 1) yw := by
                    rw [f_X10_takeNumber_lp51, if_pos c3, if_neg c4, if_pos c5, if_neg c6]
                  refine W.widen (k := 0) (n := 0) (Nat.le_of_ble_eq_true rfl) (Nat.le_of_ble_eq_true rfl) ?_
                  exact ih51 (((10 * yv) + (f_X10_next pm ys mp)) - 48) true (ys + 1) yw (hF.symm.trans hlp51) (sp_ok hys (hmo c3)) (fun _ => nx_lt c5 (by decide)) (tn_mu hys (hmo c3) hm51) _ _ _ hW (lv_sub hl [2, 3, 4, 1, 0] rfl)
      have hF : f_X10_takeNumber a0 a1 pm sp iw mp = f_X10_takeNumber_lp51 a1 pm mp ((pm.toInt - sp.toInt).toNat + 1) 0 false sp true := by
        rw [f_X10_takeNumber, if_pos c1]
      refine W.widen (k := 0) (n := 0) (Nat.le_of_ble_eq_true rfl) (Nat.le_of_ble_eq_true rfl) ?_
      exact hl51_ ((pm.toInt - sp.toInt).toNat + 1) 0 false sp true (hF.symm.trans ho) (hsp) (fun q => by cases q) (Nat.lt_succ_self _) _ _ _ hW (lv_sub hl [2, 3, 4, 1, 0] rfl)
    · exact absurd c2 (by decide)
  · skip
    refine lv_aload_n hx hb dX10_takeNumber_8 rfl (lv_at hl 0 rfl) ?_
    refine vp_callSi (va_Run.run (xrunV (As := []) (rest := [.ref aM]) ⟨hx, hb, hml, hown, hts⟩ (c_X10_next l D cI cJ cZ cB H.size aM mE mA mB mC mD pm sp iw mF rn mp (by assumption) (hsp) _ rfl) (cwV 0 hts gX10_takeNumber_X10_next rfl rfl rfl (by decide +kernel) ⟨Nat.le_of_ble_eq_true rfl, Nat.le_of_ble_eq_true rfl⟩) hK hG hW.2.2 (xsubQ hW hA [0, 1] rfl (by decide)) (va_recv hK hW.1 (ci := 10) (q0 := 0) rfl rfl) rfl hl.1 rfl (Nat.le_of_ble_eq_true rfl) dX10_takeNumber_9 ⟨Nat.le_of_ble_eq_true rfl, Nat.le_of_ble_eq_true rfl⟩)) (fun r5 hq => ?_)
    subst hq
    refine lv_i2l hx hb dX10_takeNumber_12 rfl ?_
    refine lv_bipush (v := 48) hx hb dX10_takeNumber_13 (by decide) ?_
    refine lv_iload_n hx hb dX10_takeNumber_15 rfl (lv_at hl 1 rfl) ?_
    refine lv_iadd hx hb dX10_takeNumber_16 ?_
    refine lv_i2l hx hb dX10_takeNumber_17 rfl ?_
    refine lv_ldc2 hx hb hown w5 dX10_takeNumber_18 ?_
    refine vp_callSi (va_Run.run (xrunS (As := [.long (f_X10_next pm sp mp).toInt64, .long (48 + a0).toInt64, .long 57]) (rest := [.ref aM]) ⟨hx, hb, hml, hown, hts⟩ (c_X10_in l D cI cJ cZ cB H.size (f_X10_next pm sp mp).toInt64 (48 + a0).toInt64 57 _ rfl) (cwS 3 hts gX10_takeNumber_X10_in rfl rfl rfl (by decide +kernel) ⟨Nat.le_of_ble_eq_true rfl, Nat.le_of_ble_eq_true rfl⟩) hK hG hW.2.2 (xsubQ hW hA [] rfl (by decide)) rfl hl.1 rfl (Nat.le_of_ble_eq_true rfl) dX10_takeNumber_21 ⟨Nat.le_of_ble_eq_true rfl, Nat.le_of_ble_eq_true rfl⟩)) (fun r6 hq => ?_)
    subst hq
    refine xb_ne (tgt := 31) hx hb dX10_takeNumber_24 (by decide) (fun c2 => ?_) (fun c2 => ?_)
    · skip
      refine lv_iconst (v := 0) hx hb dX10_takeNumber_31 (by decide) ?_
      refine xput (ci := 10) (v := .int 0) (ty := .boolean) (C := RX10) (T := TX10) (N := 10) hx hb hts hin10 tyX10 tyX10_ok nmX10 hown hK hW 0 rfl (Nat.le_of_ble_eq_true rfl) rfl 7 (by decide) w1 rfl (by decide +kernel) rfl rfl (Nat.le_of_ble_eq_true rfl) dX10_takeNumber_32 (fun H locs hW => ?_)
      have hW : xW D A s.heap ([(aM, .inr (10, [.ref mA, .ref mB, .ref mC, .ref mD, .ref mE, .int pm, .int sp, .int (bi false), .ref mF, .int rn])), (mE, .inl (cI, 80, .inl mp))] ++ []) H _ := hW
      refine lv_iconst (v := 0) hx hb dX10_takeNumber_35 (by decide) ?_
      refine lv_istore_n (lv' := [(3, .int 0), (0, .ref aM), (1, .int a0), (2, .int a1)]) hx hb dX10_takeNumber_36 rfl hl (by decide) rfl (fun ls hl => ?_)
      refine lv_aload_n hx hb dX10_takeNumber_37 rfl (lv_at hl 1 rfl) ?_
      refine xget (ci := 10) (C := RX10) (T := TX10) (N := 10) hx hb hts hin10 hown hK hW.1 0 rfl rfl 7 (by decide) w1 rfl dX10_takeNumber_38 ?_
      refine xb_ne (tgt := 48) hx hb dX10_takeNumber_41 (by decide) (fun c3 => ?_) (fun c3 => ?_)
      · exact absurd c3 (by decide)
      · skip
        refine lv_iconst (v := 1) hx hb dX10_takeNumber_44 (by decide) ?_
        refine lv_goto (tgt := 49) hx hb dX10_takeNumber_45 (by decide) ?_
        refine lv_istore (lv' := [(4, .int 1), (3, .int 0), (0, .ref aM), (1, .int a0), (2, .int a1)]) hx hb dX10_takeNumber_49 hl (by decide) rfl (fun ls hl => ?_)
        have hl51_ : ∀ (n : Nat) (yv : Int32) (ym : Bool) (ys : Int32) (yw : Bool), f_X10_takeNumber_lp51 a1 pm mp n yv ym ys yw = o → (0 ≤ ys.toInt ∧ ys.toInt ≤ pm.toInt) → (ym = true → ys.toInt < pm.toInt) → (pm.toInt - ys.toInt).toNat < n → ∀ (H : Heap) (locs : List Loc) (ls : Array Slot), xW D A s.heap ([(aM, .inr (10, [.ref mA, .ref mB, .ref mC, .ref mD, .ref mE, .int pm, .int ys, .int (bi yw), .ref mF, .int rn])), (mE, .inl (cI, 80, .inl mp))] ++ []) H locs → lv_has ls 5 [(0, .ref aM), (1, .int a0), (2, .int a1), (3, .int yv), (4, .int (bi ym))] → W p l e ({ frames := 1, cells := 0, slots := 0, locals := 25 } : Room) s m [.ref aM, .int a0, .int a1].toArray below meth c H locs 0 0 (MQ below (va_Qi (fun r (_ : Unit) => r = o.1) (fun _ t => xB D ([(aM, .inr (10, [.ref mA, .ref mB, .ref mC, .ref mD, .ref mE, .int pm, .int o.2.1, .int (bi o.2.2), .ref mF, .int rn])), (mE, .inl (cI, 80, .inl mp))]) A t) A) [.ref aM, .int a0, .int a1].toArray s 0 0 A) (F0 m 51 ls []) := by
          intro n
          induction n with
          | zero =>
            intro yv ym ys yw _ _ _ hm
            exact absurd hm (Nat.not_lt_zero _)
          | succ n ih51 =>
            intro yv ym ys yw hlp51 hys hmo hm51 H locs ls hW hl
            refine lv_iload hx hb dX10_takeNumber_51 (lv_at hl 4 rfl) ?_
            refine xb_eq (tgt := 126) hx hb dX10_takeNumber_53 (by decide) (fun c4 => ?_) (fun c4 => ?_)
            · skip
              refine lv_iload_n hx hb dX10_takeNumber_126 rfl (lv_at hl 3 rfl) ?_
              have hF : f_X10_takeNumber_lp51 a1 pm mp (n + 1) yv ym ys yw = (yv, ys, yw) := by
                rw [f_X10_takeNumber_lp51, if_neg c4]
              obtain rfl : (yv, ys, yw) = o := hF.symm.trans hlp51
              exact W.iret (v := yv) hx hb hrt (fun t ht hM => ⟨⟨_, (), rfl, rfl, ⟨by rw [ht]; exact hW.1, hW.2.1⟩⟩, hW.2.2.F ht⟩) hW.2.2.2.2 dX10_takeNumber_127 hlocks
            · skip
              refine lv_bipush (v := 10) hx hb dX10_takeNumber_56 (by decide) ?_
              refine lv_iload_n hx hb dX10_takeNumber_58 rfl (lv_at hl 3 rfl) ?_
              refine lv_imul hx hb dX10_takeNumber_59 ?_
              refine lv_aload_n hx hb dX10_takeNumber_60 rfl (lv_at hl 0 rfl) ?_
              refine vp_callSi (va_Run.run (xrunV (As := []) (rest := [.int (10 * yv)]) ⟨hx, hb, hml, hown, hts⟩ (c_X10_next l D cI cJ cZ cB H.size aM mE mA mB mC mD pm ys yw mF rn mp (by assumption) (hys) _ rfl) (cwV 0 hts gX10_takeNumber_X10_next rfl rfl rfl (by decide +kernel) ⟨Nat.le_of_ble_eq_true rfl, Nat.le_of_ble_eq_true rfl⟩) hK hG hW.2.2 (xsubQ hW hA [0, 1] rfl (by decide)) (va_recv hK hW.1 (ci := 10) (q0 := 0) rfl rfl) rfl hl.1 rfl (Nat.le_of_ble_eq_true rfl) dX10_takeNumber_61 ⟨Nat.le_of_ble_eq_true rfl, Nat.le_of_ble_eq_true rfl⟩)) (fun r7 hq => ?_)
              subst hq
              refine lv_iadd hx hb dX10_takeNumber_64 ?_
              refine lv_bipush (v := 48) hx hb dX10_takeNumber_65 (by decide) ?_
              refine lv_isub hx hb dX10_takeNumber_67 ?_
              refine lv_istore_n (lv' := [(3, .int (((10 * yv) + (f_X10_next pm ys mp)) - 48)), (0, .ref aM), (1, .int a0), (2, .int a1), (4, .int (bi ym))]) hx hb dX10_takeNumber_68 rfl hl (by decide) rfl (fun ls hl => ?_)
              refine lv_aload_n hx hb dX10_takeNumber_69 rfl (lv_at hl 1 rfl) ?_
              refine lv_dup hx hb dX10_takeNumber_70 rfl ?_
              refine xget (ci := 10) (C := RX10) (T := TX10) (N := 10) hx hb hts hin10 hown hK hW.1 0 rfl rfl 6 (by decide) w3 rfl dX10_takeNumber_71 ?_
              refine lv_iconst (v := 1) hx hb dX10_takeNumber_74 (by decide) ?_
              refine lv_iadd hx hb dX10_takeNumber_75 ?_
              refine xput (ci := 10) (v := .int (ys + 1)) (ty := .int) (C := RX10) (T := TX10) (N := 10) hx hb hts hin10 tyX10 tyX10_ok nmX10 hown hK hW 0 rfl (Nat.le_of_ble_eq_true rfl) rfl 6 (by decide) w3 rfl (by decide +kernel) rfl rfl (Nat.le_of_ble_eq_true rfl) dX10_takeNumber_76 (fun H locs hW => ?_)
              have hW : xW D A s.heap ([(aM, .inr (10, [.ref mA, .ref mB, .ref mC, .ref mD, .ref mE, .int pm, .int (ys + 1), .int (bi yw), .ref mF, .int rn])), (mE, .inl (cI, 80, .inl mp))] ++ []) H _ := hW
              refine lv_iload_n hx hb dX10_takeNumber_79 rfl (lv_at hl 0 rfl) ?_
              refine lv_if_le (tgt := 120) hx hb dX10_takeNumber_80 (by decide) (fun c5 => ?_) (fun c5 => ?_)
              · skip
                refine lv_iconst (v := 0) hx hb dX10_takeNumber_120 (by decide) ?_
                refine lv_istore (lv' := [(4, .int 0), (3, .int (((10 * yv) + (f_X10_next pm ys mp)) - 48)), (0, .ref aM), (1, .int a0), (2, .int a1)]) hx hb dX10_takeNumber_121 hl (by decide) rfl (fun ls hl => ?_)
                refine lv_goto (tgt := 51) hx hb dX10_takeNumber_123 (by decide) ?_
                have hF : f_X10_takeNumber_lp51 a1 pm mp (n + 1) yv ym ys yw = f_X10_takeNumber_lp51 a1 pm mp n (((10 * yv) + (f_X10_next pm ys mp)) - 48) false (ys + 1) yw := by
                  rw [f_X10_takeNumber_lp51, if_pos c4, if_pos c5]
                refine W.widen (k := 0) (n := 0) (Nat.le_of_ble_eq_true rfl) (Nat.le_of_ble_eq_true rfl) ?_
                exact ih51 (((10 * yv) + (f_X10_next pm ys mp)) - 48) false (ys + 1) yw (hF.symm.trans hlp51) (sp_ok hys (hmo c4)) (fun q => by cases q) (tn_mu hys (hmo c4) hm51) _ _ _ hW (lv_sub hl [2, 3, 4, 1, 0] rfl)
              · skip
                refine lv_aload_n hx hb dX10_takeNumber_83 rfl (lv_at hl 1 rfl) ?_
                refine vp_callSi (va_Run.run (xrunV (As := []) (rest := []) ⟨hx, hb, hml, hown, hts⟩ (c_X10_next l D cI cJ cZ cB H.size aM mE mA mB mC mD pm (ys + 1) yw mF rn mp (by assumption) (sp_ok hys (hmo c4)) _ rfl) (cwV 0 hts gX10_takeNumber_X10_next rfl rfl rfl (by decide +kernel) ⟨Nat.le_of_ble_eq_true rfl, Nat.le_of_ble_eq_true rfl⟩) hK hG hW.2.2 (xsubQ hW hA [0, 1] rfl (by decide)) (va_recv hK hW.1 (ci := 10) (q0 := 0) rfl rfl) rfl hl.1 rfl (Nat.le_of_ble_eq_true rfl) dX10_takeNumber_84 ⟨Nat.le_of_ble_eq_true rfl, Nat.le_of_ble_eq_true rfl⟩)) (fun r8 hq => ?_)
                subst hq
                refine lv_i2l hx hb dX10_takeNumber_87 rfl ?_
                refine lv_ldc2 hx hb hown w4 dX10_takeNumber_88 ?_
                refine lv_ldc2 hx hb hown w5 dX10_takeNumber_91 ?_
                refine vp_callSi (va_Run.run (xrunS (As := [.long (f_X10_next pm (ys + 1) mp).toInt64, .long 48, .long 57]) (rest := []) ⟨hx, hb, hml, hown, hts⟩ (c_X10_in l D cI cJ cZ cB H.size (f_X10_next pm (ys + 1) mp).toInt64 48 57 _ rfl) (cwS 3 hts gX10_takeNumber_X10_in rfl rfl rfl (by decide +kernel) ⟨Nat.le_of_ble_eq_true rfl, Nat.le_of_ble_eq_true rfl⟩) hK hG hW.2.2 (xsubQ hW hA [] rfl (by decide)) rfl hl.1 rfl (Nat.le_of_ble_eq_true rfl) dX10_takeNumber_94 ⟨Nat.le_of_ble_eq_true rfl, Nat.le_of_ble_eq_true rfl⟩)) (fun r9 hq => ?_)
                subst hq
                refine xb_eq (tgt := 120) hx hb dX10_takeNumber_97 (by decide) (fun c6 => ?_) (fun c6 => ?_)
                · skip
                  refine lv_iconst (v := 0) hx hb dX10_takeNumber_120 (by decide) ?_
                  refine lv_istore (lv' := [(4, .int 0), (3, .int (((10 * yv) + (f_X10_next pm ys mp)) - 48)), (0, .ref aM), (1, .int a0), (2, .int a1)]) hx hb dX10_takeNumber_121 hl (by decide) rfl (fun ls hl => ?_)
                  refine lv_goto (tgt := 51) hx hb dX10_takeNumber_123 (by decide) ?_
                  have hF : f_X10_takeNumber_lp51 a1 pm mp (n + 1) yv ym ys yw = f_X10_takeNumber_lp51 a1 pm mp n (((10 * yv) + (f_X10_next pm ys mp)) - 48) false (ys + 1) yw := by
                    rw [f_X10_takeNumber_lp51, if_pos c4, if_neg c5, if_neg c6]
                  refine W.widen (k := 0) (n := 0) (Nat.le_of_ble_eq_true rfl) (Nat.le_of_ble_eq_true rfl) ?_
                  exact ih51 (((10 * yv) + (f_X10_next pm ys mp)) - 48) false (ys + 1) yw (hF.symm.trans hlp51) (sp_ok hys (hmo c4)) (fun q => by cases q) (tn_mu hys (hmo c4) hm51) _ _ _ hW (lv_sub hl [2, 3, 4, 1, 0] rfl)
                · skip
                  refine lv_bipush (v := 10) hx hb dX10_takeNumber_100 (by decide) ?_
                  refine lv_iload_n hx hb dX10_takeNumber_102 rfl (lv_at hl 0 rfl) ?_
                  refine lv_imul hx hb dX10_takeNumber_103 ?_
                  refine lv_aload_n hx hb dX10_takeNumber_104 rfl (lv_at hl 1 rfl) ?_
                  refine vp_callSi (va_Run.run (xrunV (As := []) (rest := [.int (10 * (((10 * yv) + (f_X10_next pm ys mp)) - 48))]) ⟨hx, hb, hml, hown, hts⟩ (c_X10_next l D cI cJ cZ cB H.size aM mE mA mB mC mD pm (ys + 1) yw mF rn mp (by assumption) (sp_ok hys (hmo c4)) _ rfl) (cwV 0 hts gX10_takeNumber_X10_next rfl rfl rfl (by decide +kernel) ⟨Nat.le_of_ble_eq_true rfl, Nat.le_of_ble_eq_true rfl⟩) hK hG hW.2.2 (xsubQ hW hA [0, 1] rfl (by decide)) (va_recv hK hW.1 (ci := 10) (q0 := 0) rfl rfl) rfl hl.1 rfl (Nat.le_of_ble_eq_true rfl) dX10_takeNumber_105 ⟨Nat.le_of_ble_eq_true rfl, Nat.le_of_ble_eq_true rfl⟩)) (fun r10 hq => ?_)
                  subst hq
                  refine lv_iadd hx hb dX10_takeNumber_108 ?_
                  refine lv_bipush (v := 48) hx hb dX10_takeNumber_109 (by decide) ?_
                  refine lv_isub hx hb dX10_takeNumber_111 ?_
                  refine lv_iload_n hx hb dX10_takeNumber_112 rfl (lv_at hl 3 rfl) ?_
                  refine lv_icmp_gt (tgt := 120) hx hb dX10_takeNumber_113 (by decide) (fun c7 => ?_) (fun c7 => ?_)
                  · skip
                    refine lv_iconst (v := 0) hx hb dX10_takeNumber_120 (by decide) ?_
                    refine lv_istore (lv' := [(4, .int 0), (3, .int (((10 * yv) + (f_X10_next pm ys mp)) - 48)), (0, .ref aM), (1, .int a0), (2, .int a1)]) hx hb dX10_takeNumber_121 hl (by decide) rfl (fun ls hl => ?_)
                    refine lv_goto (tgt := 51) hx hb dX10_takeNumber_123 (by decide) ?_
                    have hF : f_X10_takeNumber_lp51 a1 pm mp (n + 1) yv ym ys yw = f_X10_takeNumber_lp51 a1 pm mp n (((10 * yv) + (f_X10_next pm ys mp)) - 48) false (ys + 1) yw := by
                      rw [f_X10_takeNumber_lp51, if_pos c4, if_neg c5, if_pos c6, if_pos c7]
                    refine W.widen (k := 0) (n := 0) (Nat.le_of_ble_eq_true rfl) (Nat.le_of_ble_eq_true rfl) ?_
                    exact ih51 (((10 * yv) + (f_X10_next pm ys mp)) - 48) false (ys + 1) yw (hF.symm.trans hlp51) (sp_ok hys (hmo c4)) (fun q => by cases q) (tn_mu hys (hmo c4) hm51) _ _ _ hW (lv_sub hl [2, 3, 4, 1, 0] rfl)
                  · skip
                    refine lv_iconst (v := 1) hx hb dX10_takeNumber_116 (by decide) ?_
                    refine lv_goto (tgt := 121) hx hb dX10_takeNumber_117 (by decide) ?_
                    refine lv_istore (lv' := [(4, .int 1), (3, .int (((10 * yv) + (f_X10_next pm ys mp)) - 48)), (0, .ref aM), (1, .int a0), (2, .int a1)]) hx hb dX10_takeNumber_121 hl (by decide) rfl (fun ls hl => ?_)
                    refine lv_goto (tgt := 51) hx hb dX10_takeNumber_123 (by decide) ?_
                    have hF : f_X10_takeNumber_lp51 a1 pm mp (n + 1) yv ym ys yw = f_X10_takeNumber_lp51 a1 pm mp n (((10 * yv) + (f_X10_next pm ys mp)) - 48) true (ys + 1) yw := by
                      rw [f_X10_takeNumber_lp51, if_pos c4, if_neg c5, if_pos c6, if_neg c7]
                    refine W.widen (k := 0) (n := 0) (Nat.le_of_ble_eq_true rfl) (Nat.le_of_ble_eq_true rfl) ?_
                    exact ih51 (((10 * yv) + (f_X10_next pm ys mp)) - 48) true (ys + 1) yw (hF.symm.trans hlp51) (sp_ok hys (hmo c4)) (fun _ => nx_lt c6 (by decide)) (tn_mu hys (hmo c4) hm51) _ _ _ hW (lv_sub hl [2, 3, 4, 1, 0] rfl)
        have hF : f_X10_takeNumber a0 a1 pm sp iw mp = f_X10_takeNumber_lp51 a1 pm mp ((pm.toInt - sp.toInt).toNat + 1) 0 true sp false := by
          rw [f_X10_takeNumber, if_neg c1, if_pos c2]
        refine W.widen (k := 0) (n := 0) (Nat.le_of_ble_eq_true rfl) (Nat.le_of_ble_eq_true rfl) ?_
        exact hl51_ ((pm.toInt - sp.toInt).toNat + 1) 0 true sp false (hF.symm.trans ho) (hsp) (fun _ => nx_lt c2 ha) (Nat.lt_succ_self _) _ _ _ hW (lv_sub hl [2, 3, 4, 1, 0] rfl)
    · skip
      refine lv_iconst (v := 1) hx hb dX10_takeNumber_27 (by decide) ?_
      refine lv_goto (tgt := 32) hx hb dX10_takeNumber_28 (by decide) ?_
      refine xput (ci := 10) (v := .int 1) (ty := .boolean) (C := RX10) (T := TX10) (N := 10) hx hb hts hin10 tyX10 tyX10_ok nmX10 hown hK hW 0 rfl (Nat.le_of_ble_eq_true rfl) rfl 7 (by decide) w1 rfl (by decide +kernel) rfl rfl (Nat.le_of_ble_eq_true rfl) dX10_takeNumber_32 (fun H locs hW => ?_)
      have hW : xW D A s.heap ([(aM, .inr (10, [.ref mA, .ref mB, .ref mC, .ref mD, .ref mE, .int pm, .int sp, .int (bi true), .ref mF, .int rn])), (mE, .inl (cI, 80, .inl mp))] ++ []) H _ := hW
      refine lv_iconst (v := 0) hx hb dX10_takeNumber_35 (by decide) ?_
      refine lv_istore_n (lv' := [(3, .int 0), (0, .ref aM), (1, .int a0), (2, .int a1)]) hx hb dX10_takeNumber_36 rfl hl (by decide) rfl (fun ls hl => ?_)
      refine lv_aload_n hx hb dX10_takeNumber_37 rfl (lv_at hl 1 rfl) ?_
      refine xget (ci := 10) (C := RX10) (T := TX10) (N := 10) hx hb hts hin10 hown hK hW.1 0 rfl rfl 7 (by decide) w1 rfl dX10_takeNumber_38 ?_
      refine xb_ne (tgt := 48) hx hb dX10_takeNumber_41 (by decide) (fun c3 => ?_) (fun c3 => ?_)
      · skip
        refine lv_iconst (v := 0) hx hb dX10_takeNumber_48 (by decide) ?_
        refine lv_istore (lv' := [(4, .int 0), (3, .int 0), (0, .ref aM), (1, .int a0), (2, .int a1)]) hx hb dX10_takeNumber_49 hl (by decide) rfl (fun ls hl => ?_)
        have hl51_ : ∀ (n : Nat) (yv : Int32) (ym : Bool) (ys : Int32) (yw : Bool), f_X10_takeNumber_lp51 a1 pm mp n yv ym ys yw = o → (0 ≤ ys.toInt ∧ ys.toInt ≤ pm.toInt) → (ym = true → ys.toInt < pm.toInt) → (pm.toInt - ys.toInt).toNat < n → ∀ (H : Heap) (locs : List Loc) (ls : Array Slot), xW D A s.heap ([(aM, .inr (10, [.ref mA, .ref mB, .ref mC, .ref mD, .ref mE, .int pm, .int ys, .int (bi yw), .ref mF, .int rn])), (mE, .inl (cI, 80, .inl mp))] ++ []) H locs → lv_has ls 5 [(0, .ref aM), (1, .int a0), (2, .int a1), (3, .int yv), (4, .int (bi ym))] → W p l e ({ frames := 1, cells := 0, slots := 0, locals := 25 } : Room) s m [.ref aM, .int a0, .int a1].toArray below meth c H locs 0 0 (MQ below (va_Qi (fun r (_ : Unit) => r = o.1) (fun _ t => xB D ([(aM, .inr (10, [.ref mA, .ref mB, .ref mC, .ref mD, .ref mE, .int pm, .int o.2.1, .int (bi o.2.2), .ref mF, .int rn])), (mE, .inl (cI, 80, .inl mp))]) A t) A) [.ref aM, .int a0, .int a1].toArray s 0 0 A) (F0 m 51 ls []) := by
          intro n
          induction n with
          | zero =>
            intro yv ym ys yw _ _ _ hm
            exact absurd hm (Nat.not_lt_zero _)
          | succ n ih51 =>
            intro yv ym ys yw hlp51 hys hmo hm51 H locs ls hW hl
            refine lv_iload hx hb dX10_takeNumber_51 (lv_at hl 4 rfl) ?_
            refine xb_eq (tgt := 126) hx hb dX10_takeNumber_53 (by decide) (fun c4 => ?_) (fun c4 => ?_)
            · skip
              refine lv_iload_n hx hb dX10_takeNumber_126 rfl (lv_at hl 3 rfl) ?_
              have hF : f_X10_takeNumber_lp51 a1 pm mp (n + 1) yv ym ys yw = (yv, ys, yw) := by
                rw [f_X10_takeNumber_lp51, if_neg c4]
              obtain rfl : (yv, ys, yw) = o := hF.symm.trans hlp51
              exact W.iret (v := yv) hx hb hrt (fun t ht hM => ⟨⟨_, (), rfl, rfl, ⟨by rw [ht]; exact hW.1, hW.2.1⟩⟩, hW.2.2.F ht⟩) hW.2.2.2.2 dX10_takeNumber_127 hlocks
            · skip
              refine lv_bipush (v := 10) hx hb dX10_takeNumber_56 (by decide) ?_
              refine lv_iload_n hx hb dX10_takeNumber_58 rfl (lv_at hl 3 rfl) ?_
              refine lv_imul hx hb dX10_takeNumber_59 ?_
              refine lv_aload_n hx hb dX10_takeNumber_60 rfl (lv_at hl 0 rfl) ?_
              refine vp_callSi (va_Run.run (xrunV (As := []) (rest := [.int (10 * yv)]) ⟨hx, hb, hml, hown, hts⟩ (c_X10_next l D cI cJ cZ cB H.size aM mE mA mB mC mD pm ys yw mF rn mp (by assumption) (hys) _ rfl) (cwV 0 hts gX10_takeNumber_X10_next rfl rfl rfl (by decide +kernel) ⟨Nat.le_of_ble_eq_true rfl, Nat.le_of_ble_eq_true rfl⟩) hK hG hW.2.2 (xsubQ hW hA [0, 1] rfl (by decide)) (va_recv hK hW.1 (ci := 10) (q0 := 0) rfl rfl) rfl hl.1 rfl (Nat.le_of_ble_eq_true rfl) dX10_takeNumber_61 ⟨Nat.le_of_ble_eq_true rfl, Nat.le_of_ble_eq_true rfl⟩)) (fun r11 hq => ?_)
              subst hq
              refine lv_iadd hx hb dX10_takeNumber_64 ?_
              refine lv_bipush (v := 48) hx hb dX10_takeNumber_65 (by decide) ?_
              refine lv_isub hx hb dX10_takeNumber_67 ?_
              refine lv_istore_n (lv' := [(3, .int (((10 * yv) + (f_X10_next pm ys mp)) - 48)), (0, .ref aM), (1, .int a0), (2, .int a1), (4, .int (bi ym))]) hx hb dX10_takeNumber_68 rfl hl (by decide) rfl (fun ls hl => ?_)
              refine lv_aload_n hx hb dX10_takeNumber_69 rfl (lv_at hl 1 rfl) ?_
              refine lv_dup hx hb dX10_takeNumber_70 rfl ?_
              refine xget (ci := 10) (C := RX10) (T := TX10) (N := 10) hx hb hts hin10 hown hK hW.1 0 rfl rfl 6 (by decide) w3 rfl dX10_takeNumber_71 ?_
              refine lv_iconst (v := 1) hx hb dX10_takeNumber_74 (by decide) ?_
              refine lv_iadd hx hb dX10_takeNumber_75 ?_
              refine xput (ci := 10) (v := .int (ys + 1)) (ty := .int) (C := RX10) (T := TX10) (N := 10) hx hb hts hin10 tyX10 tyX10_ok nmX10 hown hK hW 0 rfl (Nat.le_of_ble_eq_true rfl) rfl 6 (by decide) w3 rfl (by decide +kernel) rfl rfl (Nat.le_of_ble_eq_true rfl) dX10_takeNumber_76 (fun H locs hW => ?_)
              have hW : xW D A s.heap ([(aM, .inr (10, [.ref mA, .ref mB, .ref mC, .ref mD, .ref mE, .int pm, .int (ys + 1), .int (bi yw), .ref mF, .int rn])), (mE, .inl (cI, 80, .inl mp))] ++ []) H _ := hW
              refine lv_iload_n hx hb dX10_takeNumber_79 rfl (lv_at hl 0 rfl) ?_
              refine lv_if_le (tgt := 120) hx hb dX10_takeNumber_80 (by decide) (fun c5 => ?_) (fun c5 => ?_)
              · skip
                refine lv_iconst (v := 0) hx hb dX10_takeNumber_120 (by decide) ?_
                refine lv_istore (lv' := [(4, .int 0), (3, .int (((10 * yv) + (f_X10_next pm ys mp)) - 48)), (0, .ref aM), (1, .int a0), (2, .int a1)]) hx hb dX10_takeNumber_121 hl (by decide) rfl (fun ls hl => ?_)
                refine lv_goto (tgt := 51) hx hb dX10_takeNumber_123 (by decide) ?_
                have hF : f_X10_takeNumber_lp51 a1 pm mp (n + 1) yv ym ys yw = f_X10_takeNumber_lp51 a1 pm mp n (((10 * yv) + (f_X10_next pm ys mp)) - 48) false (ys + 1) yw := by
                  rw [f_X10_takeNumber_lp51, if_pos c4, if_pos c5]
                refine W.widen (k := 0) (n := 0) (Nat.le_of_ble_eq_true rfl) (Nat.le_of_ble_eq_true rfl) ?_
                exact ih51 (((10 * yv) + (f_X10_next pm ys mp)) - 48) false (ys + 1) yw (hF.symm.trans hlp51) (sp_ok hys (hmo c4)) (fun q => by cases q) (tn_mu hys (hmo c4) hm51) _ _ _ hW (lv_sub hl [2, 3, 4, 1, 0] rfl)
              · skip
                refine lv_aload_n hx hb dX10_takeNumber_83 rfl (lv_at hl 1 rfl) ?_
                refine vp_callSi (va_Run.run (xrunV (As := []) (rest := []) ⟨hx, hb, hml, hown, hts⟩ (c_X10_next l D cI cJ cZ cB H.size aM mE mA mB mC mD pm (ys + 1) yw mF rn mp (by assumption) (sp_ok hys (hmo c4)) _ rfl) (cwV 0 hts gX10_takeNumber_X10_next rfl rfl rfl (by decide +kernel) ⟨Nat.le_of_ble_eq_true rfl, Nat.le_of_ble_eq_true rfl⟩) hK hG hW.2.2 (xsubQ hW hA [0, 1] rfl (by decide)) (va_recv hK hW.1 (ci := 10) (q0 := 0) rfl rfl) rfl hl.1 rfl (Nat.le_of_ble_eq_true rfl) dX10_takeNumber_84 ⟨Nat.le_of_ble_eq_true rfl, Nat.le_of_ble_eq_true rfl⟩)) (fun r12 hq => ?_)
                subst hq
                refine lv_i2l hx hb dX10_takeNumber_87 rfl ?_
                refine lv_ldc2 hx hb hown w4 dX10_takeNumber_88 ?_
                refine lv_ldc2 hx hb hown w5 dX10_takeNumber_91 ?_
                refine vp_callSi (va_Run.run (xrunS (As := [.long (f_X10_next pm (ys + 1) mp).toInt64, .long 48, .long 57]) (rest := []) ⟨hx, hb, hml, hown, hts⟩ (c_X10_in l D cI cJ cZ cB H.size (f_X10_next pm (ys + 1) mp).toInt64 48 57 _ rfl) (cwS 3 hts gX10_takeNumber_X10_in rfl rfl rfl (by decide +kernel) ⟨Nat.le_of_ble_eq_true rfl, Nat.le_of_ble_eq_true rfl⟩) hK hG hW.2.2 (xsubQ hW hA [] rfl (by decide)) rfl hl.1 rfl (Nat.le_of_ble_eq_true rfl) dX10_takeNumber_94 ⟨Nat.le_of_ble_eq_true rfl, Nat.le_of_ble_eq_true rfl⟩)) (fun r13 hq => ?_)
                subst hq
                refine xb_eq (tgt := 120) hx hb dX10_takeNumber_97 (by decide) (fun c6 => ?_) (fun c6 => ?_)
                · skip
                  refine lv_iconst (v := 0) hx hb dX10_takeNumber_120 (by decide) ?_
                  refine lv_istore (lv' := [(4, .int 0), (3, .int (((10 * yv) + (f_X10_next pm ys mp)) - 48)), (0, .ref aM), (1, .int a0), (2, .int a1)]) hx hb dX10_takeNumber_121 hl (by decide) rfl (fun ls hl => ?_)
                  refine lv_goto (tgt := 51) hx hb dX10_takeNumber_123 (by decide) ?_
                  have hF : f_X10_takeNumber_lp51 a1 pm mp (n + 1) yv ym ys yw = f_X10_takeNumber_lp51 a1 pm mp n (((10 * yv) + (f_X10_next pm ys mp)) - 48) false (ys + 1) yw := by
                    rw [f_X10_takeNumber_lp51, if_pos c4, if_neg c5, if_neg c6]
                  refine W.widen (k := 0) (n := 0) (Nat.le_of_ble_eq_true rfl) (Nat.le_of_ble_eq_true rfl) ?_
                  exact ih51 (((10 * yv) + (f_X10_next pm ys mp)) - 48) false (ys + 1) yw (hF.symm.trans hlp51) (sp_ok hys (hmo c4)) (fun q => by cases q) (tn_mu hys (hmo c4) hm51) _ _ _ hW (lv_sub hl [2, 3, 4, 1, 0] rfl)
                · skip
                  refine lv_bipush (v := 10) hx hb dX10_takeNumber_100 (by decide) ?_
                  refine lv_iload_n hx hb dX10_takeNumber_102 rfl (lv_at hl 0 rfl) ?_
                  refine lv_imul hx hb dX10_takeNumber_103 ?_
                  refine lv_aload_n hx hb dX10_takeNumber_104 rfl (lv_at hl 1 rfl) ?_
                  refine vp_callSi (va_Run.run (xrunV (As := []) (rest := [.int (10 * (((10 * yv) + (f_X10_next pm ys mp)) - 48))]) ⟨hx, hb, hml, hown, hts⟩ (c_X10_next l D cI cJ cZ cB H.size aM mE mA mB mC mD pm (ys + 1) yw mF rn mp (by assumption) (sp_ok hys (hmo c4)) _ rfl) (cwV 0 hts gX10_takeNumber_X10_next rfl rfl rfl (by decide +kernel) ⟨Nat.le_of_ble_eq_true rfl, Nat.le_of_ble_eq_true rfl⟩) hK hG hW.2.2 (xsubQ hW hA [0, 1] rfl (by decide)) (va_recv hK hW.1 (ci := 10) (q0 := 0) rfl rfl) rfl hl.1 rfl (Nat.le_of_ble_eq_true rfl) dX10_takeNumber_105 ⟨Nat.le_of_ble_eq_true rfl, Nat.le_of_ble_eq_true rfl⟩)) (fun r14 hq => ?_)
                  subst hq
                  refine lv_iadd hx hb dX10_takeNumber_108 ?_
                  refine lv_bipush (v := 48) hx hb dX10_takeNumber_109 (by decide) ?_
                  refine lv_isub hx hb dX10_takeNumber_111 ?_
                  refine lv_iload_n hx hb dX10_takeNumber_112 rfl (lv_at hl 3 rfl) ?_
                  refine lv_icmp_gt (tgt := 120) hx hb dX10_takeNumber_113 (by decide) (fun c7 => ?_) (fun c7 => ?_)
                  · skip
                    refine lv_iconst (v := 0) hx hb dX10_takeNumber_120 (by decide) ?_
                    refine lv_istore (lv' := [(4, .int 0), (3, .int (((10 * yv) + (f_X10_next pm ys mp)) - 48)), (0, .ref aM), (1, .int a0), (2, .int a1)]) hx hb dX10_takeNumber_121 hl (by decide) rfl (fun ls hl => ?_)
                    refine lv_goto (tgt := 51) hx hb dX10_takeNumber_123 (by decide) ?_
                    have hF : f_X10_takeNumber_lp51 a1 pm mp (n + 1) yv ym ys yw = f_X10_takeNumber_lp51 a1 pm mp n (((10 * yv) + (f_X10_next pm ys mp)) - 48) false (ys + 1) yw := by
                      rw [f_X10_takeNumber_lp51, if_pos c4, if_neg c5, if_pos c6, if_pos c7]
                    refine W.widen (k := 0) (n := 0) (Nat.le_of_ble_eq_true rfl) (Nat.le_of_ble_eq_true rfl) ?_
                    exact ih51 (((10 * yv) + (f_X10_next pm ys mp)) - 48) false (ys + 1) yw (hF.symm.trans hlp51) (sp_ok hys (hmo c4)) (fun q => by cases q) (tn_mu hys (hmo c4) hm51) _ _ _ hW (lv_sub hl [2, 3, 4, 1, 0] rfl)
                  · skip
                    refine lv_iconst (v := 1) hx hb dX10_takeNumber_116 (by decide) ?_
                    refine lv_goto (tgt := 121) hx hb dX10_takeNumber_117 (by decide) ?_
                    refine lv_istore (lv' := [(4, .int 1), (3, .int (((10 * yv) + (f_X10_next pm ys mp)) - 48)), (0, .ref aM), (1, .int a0), (2, .int a1)]) hx hb dX10_takeNumber_121 hl (by decide) rfl (fun ls hl => ?_)
                    refine lv_goto (tgt := 51) hx hb dX10_takeNumber_123 (by decide) ?_
                    have hF : f_X10_takeNumber_lp51 a1 pm mp (n + 1) yv ym ys yw = f_X10_takeNumber_lp51 a1 pm mp n (((10 * yv) + (f_X10_next pm ys mp)) - 48) true (ys + 1) yw := by
                      rw [f_X10_takeNumber_lp51, if_pos c4, if_neg c5, if_pos c6, if_neg c7]
                    refine W.widen (k := 0) (n := 0) (Nat.le_of_ble_eq_true rfl) (Nat.le_of_ble_eq_true rfl) ?_
                    exact ih51 (((10 * yv) + (f_X10_next pm ys mp)) - 48) true (ys + 1) yw (hF.symm.trans hlp51) (sp_ok hys (hmo c4)) (fun _ => nx_lt c6 (by decide)) (tn_mu hys (hmo c4) hm51) _ _ _ hW (lv_sub hl [2, 3, 4, 1, 0] rfl)
        have hF : f_X10_takeNumber a0 a1 pm sp iw mp = f_X10_takeNumber_lp51 a1 pm mp ((pm.toInt - sp.toInt).toNat + 1) 0 false sp true := by
          rw [f_X10_takeNumber, if_neg c1, if_neg c2]
        refine W.widen (k := 0) (n := 0) (Nat.le_of_ble_eq_true rfl) (Nat.le_of_ble_eq_true rfl) ?_
        exact hl51_ ((pm.toInt - sp.toInt).toNat + 1) 0 false sp true (hF.symm.trans ho) (hsp) (fun q => by cases q) (Nat.lt_succ_self _) _ _ _ hW (lv_sub hl [2, 3, 4, 1, 0] rfl)
      · exact absurd c3 (by decide)

def f_X10_need (a0 : Int32) (pm : Int32) (sp : Int32) (iw : Bool) (mp : Nat → Int32) : Int32 × Bool :=
  if iw = true then
    (sp + 0, true)
  else
    if (f_X10_next pm sp mp) = a0 then
      (sp + 1, false)
    else
      (sp + 0, true)
set_option maxHeartbeats 4000000 in
set_option maxRecDepth 100000 in
theorem c_X10_need (l : Launch) (D : va_G) (cI cJ cZ cB : ClassId) (sz : Nat) (aM : Nat) (mE : Nat) (a0 : Int32) (mA : Nat) (mB : Nat) (mC : Nat) (mD : Nat) (pm : Int32) (sp : Int32) (iw : Bool) (mF : Nat) (rn : Int32) (mp : Nat → Int32) (hpm : okC pm 80) (hsp : 0 ≤ sp.toInt ∧ sp.toInt ≤ pm.toInt) (o : Int32 × Bool) (ho : f_X10_need a0 pm sp iw mp = o) : Met l yX10_need wsX10_need ({ frames := 1, cells := 0, slots := 0, locals := 20 } : Room) (xPre D (xT cI cJ cZ cB) [.ref aM, .int a0] [(aM, .inr (10, [.ref mA, .ref mB, .ref mC, .ref mD, .ref mE, .int pm, .int sp, .int (bi iw), .ref mF, .int rn])), (mE, .inl (cI, 80, .inl mp))] sz) (va_Qv (fun _ : Unit => True) (fun _ t => xB D ([(aM, .inr (10, [.ref mA, .ref mB, .ref mC, .ref mD, .ref mE, .int pm, .int o.1, .int (bi o.2), .ref mF, .int rn])), (mE, .inl (cI, 80, .inl mp))]) (va_A [(aM, .inr (10, [.ref mA, .ref mB, .ref mC, .ref mD, .ref mE, .int pm, .int sp, .int (bi iw), .ref mF, .int rn])), (mE, .inl (cI, 80, .inl mp))] sz) t) (va_A [(aM, .inr (10, [.ref mA, .ref mB, .ref mC, .ref mD, .ref mE, .int pm, .int sp, .int (bi iw), .ref mF, .int rn])), (mE, .inl (cI, 80, .inl mp))] sz)) 0 0 (va_A [(aM, .inr (10, [.ref mA, .ref mB, .ref mC, .ref mD, .ref mE, .int pm, .int sp, .int (bi iw), .ref mF, .int rn])), (mE, .inl (cI, 80, .inl mp))] sz) := by
  refine xofW (Qc := fun A0 => va_Qv (fun _ : Unit => True) (fun _ t => xB D ([(aM, .inr (10, [.ref mA, .ref mB, .ref mC, .ref mD, .ref mE, .int pm, .int o.1, .int (bi o.2), .ref mF, .int rn])), (mE, .inl (cI, 80, .inl mp))]) A0 t) A0) (fr := fun A => A) (cc := cX10_need) (maxL := 2) (ret := none) (by decide) rfl (Nat.le_of_ble_eq_true rfl) ?_
  intro p e s m below meth c A ⟨hx, hb, hml, hown, hts⟩ hrt hlocks hnm hsz hK hW hA hG ls hl
  have hown : s.vm.findClass RX10 = some m.cls := hown
  have hl : lv_has ls 2 [(0, .ref aM), (1, .int a0)] := hl
  obtain ⟨H, hH⟩ : ∃ H, H = s.heap := ⟨_, rfl⟩
  have hW : xW D A s.heap ([(aM, .inr (10, [.ref mA, .ref mB, .ref mC, .ref mD, .ref mE, .int pm, .int sp, .int (bi iw), .ref mF, .int rn])), (mE, .inl (cI, 80, .inl mp))] ++ []) H [] := by rw [hH]; exact hW
  have w1 := hts (.fieldLink RX10 205 "DryIceLaneModel" "isWrong" "Z") (by decide +kernel)
  have hin10 : ∀ w ∈ u_ws RX10 TX10 10, w ∈ wsX10_need := by decide +kernel
  have w3 := hts (.fieldLink RX10 202 "DryIceLaneModel" "spot" "I") (by decide +kernel)
  rw [← hH]
  refine lv_aload_n hx hb dX10_need_0 rfl (lv_at hl 0 rfl) ?_
  refine lv_aload_n hx hb dX10_need_1 rfl (lv_at hl 0 rfl) ?_
  refine xget (ci := 10) (C := RX10) (T := TX10) (N := 10) hx hb hts hin10 hown hK hW.1 0 rfl rfl 7 (by decide) w1 rfl dX10_need_2 ?_
  refine xb_ne (tgt := 16) hx hb dX10_need_5 (by decide) (fun c1 => ?_) (fun c1 => ?_)
  · skip
    refine lv_iconst (v := 1) hx hb dX10_need_16 (by decide) ?_
    refine lv_goto (tgt := 21) hx hb dX10_need_17 (by decide) ?_
    refine xput (ci := 10) (v := .int 1) (ty := .boolean) (C := RX10) (T := TX10) (N := 10) hx hb hts hin10 tyX10 tyX10_ok nmX10 hown hK hW 0 rfl (Nat.le_of_ble_eq_true rfl) rfl 7 (by decide) w1 rfl (by decide +kernel) rfl rfl (Nat.le_of_ble_eq_true rfl) dX10_need_21 (fun H locs hW => ?_)
    have hW : xW D A s.heap ([(aM, .inr (10, [.ref mA, .ref mB, .ref mC, .ref mD, .ref mE, .int pm, .int sp, .int (bi true), .ref mF, .int rn])), (mE, .inl (cI, 80, .inl mp))] ++ []) H _ := hW
    refine lv_aload_n hx hb dX10_need_24 rfl (lv_at hl 0 rfl) ?_
    refine lv_dup hx hb dX10_need_25 rfl ?_
    refine xget (ci := 10) (C := RX10) (T := TX10) (N := 10) hx hb hts hin10 hown hK hW.1 0 rfl rfl 6 (by decide) w3 rfl dX10_need_26 ?_
    refine lv_aload_n hx hb dX10_need_29 rfl (lv_at hl 0 rfl) ?_
    refine xget (ci := 10) (C := RX10) (T := TX10) (N := 10) hx hb hts hin10 hown hK hW.1 0 rfl rfl 7 (by decide) w1 rfl dX10_need_30 ?_
    refine xb_eq (tgt := 40) hx hb dX10_need_33 (by decide) (fun c2 => ?_) (fun c2 => ?_)
    · exact absurd c2 (by decide)
    · skip
      refine lv_iconst (v := 0) hx hb dX10_need_36 (by decide) ?_
      refine lv_goto (tgt := 41) hx hb dX10_need_37 (by decide) ?_
      refine lv_iadd hx hb dX10_need_41 ?_
      refine xput (ci := 10) (v := .int (sp + 0)) (ty := .int) (C := RX10) (T := TX10) (N := 10) hx hb hts hin10 tyX10 tyX10_ok nmX10 hown hK hW 0 rfl (Nat.le_of_ble_eq_true rfl) rfl 6 (by decide) w3 rfl (by decide +kernel) rfl rfl (Nat.le_of_ble_eq_true rfl) dX10_need_42 (fun H locs hW => ?_)
      have hW : xW D A s.heap ([(aM, .inr (10, [.ref mA, .ref mB, .ref mC, .ref mD, .ref mE, .int pm, .int (sp + 0), .int (bi true), .ref mF, .int rn])), (mE, .inl (cI, 80, .inl mp))] ++ []) H _ := hW
      have hF : f_X10_need a0 pm sp iw mp = (sp + 0, true) := by
        rw [f_X10_need, if_pos c1]
      obtain rfl : (sp + 0, true) = o := hF.symm.trans ho
      exact W.vret hx hb hrt (fun t ht hM => ⟨⟨(), rfl, trivial, ⟨by rw [ht]; exact hW.1, hW.2.1⟩⟩, hW.2.2.F ht⟩) hW.2.2.2.2 dX10_need_45 hlocks
  · skip
    refine lv_aload_n hx hb dX10_need_8 rfl (lv_at hl 0 rfl) ?_
    refine vp_callSi (va_Run.run (xrunV (As := []) (rest := [.ref aM]) ⟨hx, hb, hml, hown, hts⟩ (c_X10_next l D cI cJ cZ cB H.size aM mE mA mB mC mD pm sp iw mF rn mp (by assumption) (by assumption) _ rfl) (cwV 0 hts gX10_need_X10_next rfl rfl rfl (by decide +kernel) ⟨Nat.le_of_ble_eq_true rfl, Nat.le_of_ble_eq_true rfl⟩) hK hG hW.2.2 (xsubQ hW hA [0, 1] rfl (by decide)) (va_recv hK hW.1 (ci := 10) (q0 := 0) rfl rfl) rfl hl.1 rfl (Nat.le_of_ble_eq_true rfl) dX10_need_9 ⟨Nat.le_of_ble_eq_true rfl, Nat.le_of_ble_eq_true rfl⟩)) (fun r1 hq => ?_)
    subst hq
    refine lv_iload_n hx hb dX10_need_12 rfl (lv_at hl 1 rfl) ?_
    refine lv_icmp_eq (tgt := 20) hx hb dX10_need_13 (by decide) (fun c2 => ?_) (fun c2 => ?_)
    · skip
      refine lv_iconst (v := 0) hx hb dX10_need_20 (by decide) ?_
      refine xput (ci := 10) (v := .int 0) (ty := .boolean) (C := RX10) (T := TX10) (N := 10) hx hb hts hin10 tyX10 tyX10_ok nmX10 hown hK hW 0 rfl (Nat.le_of_ble_eq_true rfl) rfl 7 (by decide) w1 rfl (by decide +kernel) rfl rfl (Nat.le_of_ble_eq_true rfl) dX10_need_21 (fun H locs hW => ?_)
      have hW : xW D A s.heap ([(aM, .inr (10, [.ref mA, .ref mB, .ref mC, .ref mD, .ref mE, .int pm, .int sp, .int (bi false), .ref mF, .int rn])), (mE, .inl (cI, 80, .inl mp))] ++ []) H _ := hW
      refine lv_aload_n hx hb dX10_need_24 rfl (lv_at hl 0 rfl) ?_
      refine lv_dup hx hb dX10_need_25 rfl ?_
      refine xget (ci := 10) (C := RX10) (T := TX10) (N := 10) hx hb hts hin10 hown hK hW.1 0 rfl rfl 6 (by decide) w3 rfl dX10_need_26 ?_
      refine lv_aload_n hx hb dX10_need_29 rfl (lv_at hl 0 rfl) ?_
      refine xget (ci := 10) (C := RX10) (T := TX10) (N := 10) hx hb hts hin10 hown hK hW.1 0 rfl rfl 7 (by decide) w1 rfl dX10_need_30 ?_
      refine xb_eq (tgt := 40) hx hb dX10_need_33 (by decide) (fun c3 => ?_) (fun c3 => ?_)
      · skip
        refine lv_iconst (v := 1) hx hb dX10_need_40 (by decide) ?_
        refine lv_iadd hx hb dX10_need_41 ?_
        refine xput (ci := 10) (v := .int (sp + 1)) (ty := .int) (C := RX10) (T := TX10) (N := 10) hx hb hts hin10 tyX10 tyX10_ok nmX10 hown hK hW 0 rfl (Nat.le_of_ble_eq_true rfl) rfl 6 (by decide) w3 rfl (by decide +kernel) rfl rfl (Nat.le_of_ble_eq_true rfl) dX10_need_42 (fun H locs hW => ?_)
        have hW : xW D A s.heap ([(aM, .inr (10, [.ref mA, .ref mB, .ref mC, .ref mD, .ref mE, .int pm, .int (sp + 1), .int (bi false), .ref mF, .int rn])), (mE, .inl (cI, 80, .inl mp))] ++ []) H _ := hW
        have hF : f_X10_need a0 pm sp iw mp = (sp + 1, false) := by
          rw [f_X10_need, if_neg c1, if_pos c2]
        obtain rfl : (sp + 1, false) = o := hF.symm.trans ho
        exact W.vret hx hb hrt (fun t ht hM => ⟨⟨(), rfl, trivial, ⟨by rw [ht]; exact hW.1, hW.2.1⟩⟩, hW.2.2.F ht⟩) hW.2.2.2.2 dX10_need_45 hlocks
      · exact absurd c3 (by decide)
    · skip
      refine lv_iconst (v := 1) hx hb dX10_need_16 (by decide) ?_
      refine lv_goto (tgt := 21) hx hb dX10_need_17 (by decide) ?_
      refine xput (ci := 10) (v := .int 1) (ty := .boolean) (C := RX10) (T := TX10) (N := 10) hx hb hts hin10 tyX10 tyX10_ok nmX10 hown hK hW 0 rfl (Nat.le_of_ble_eq_true rfl) rfl 7 (by decide) w1 rfl (by decide +kernel) rfl rfl (Nat.le_of_ble_eq_true rfl) dX10_need_21 (fun H locs hW => ?_)
      have hW : xW D A s.heap ([(aM, .inr (10, [.ref mA, .ref mB, .ref mC, .ref mD, .ref mE, .int pm, .int sp, .int (bi true), .ref mF, .int rn])), (mE, .inl (cI, 80, .inl mp))] ++ []) H _ := hW
      refine lv_aload_n hx hb dX10_need_24 rfl (lv_at hl 0 rfl) ?_
      refine lv_dup hx hb dX10_need_25 rfl ?_
      refine xget (ci := 10) (C := RX10) (T := TX10) (N := 10) hx hb hts hin10 hown hK hW.1 0 rfl rfl 6 (by decide) w3 rfl dX10_need_26 ?_
      refine lv_aload_n hx hb dX10_need_29 rfl (lv_at hl 0 rfl) ?_
      refine xget (ci := 10) (C := RX10) (T := TX10) (N := 10) hx hb hts hin10 hown hK hW.1 0 rfl rfl 7 (by decide) w1 rfl dX10_need_30 ?_
      refine xb_eq (tgt := 40) hx hb dX10_need_33 (by decide) (fun c3 => ?_) (fun c3 => ?_)
      · exact absurd c3 (by decide)
      · skip
        refine lv_iconst (v := 0) hx hb dX10_need_36 (by decide) ?_
        refine lv_goto (tgt := 41) hx hb dX10_need_37 (by decide) ?_
        refine lv_iadd hx hb dX10_need_41 ?_
        refine xput (ci := 10) (v := .int (sp + 0)) (ty := .int) (C := RX10) (T := TX10) (N := 10) hx hb hts hin10 tyX10 tyX10_ok nmX10 hown hK hW 0 rfl (Nat.le_of_ble_eq_true rfl) rfl 6 (by decide) w3 rfl (by decide +kernel) rfl rfl (Nat.le_of_ble_eq_true rfl) dX10_need_42 (fun H locs hW => ?_)
        have hW : xW D A s.heap ([(aM, .inr (10, [.ref mA, .ref mB, .ref mC, .ref mD, .ref mE, .int pm, .int (sp + 0), .int (bi true), .ref mF, .int rn])), (mE, .inl (cI, 80, .inl mp))] ++ []) H _ := hW
        have hF : f_X10_need a0 pm sp iw mp = (sp + 0, true) := by
          rw [f_X10_need, if_neg c1, if_neg c2]
        obtain rfl : (sp + 0, true) = o := hF.symm.trans ho
        exact W.vret hx hb hrt (fun t ht hM => ⟨⟨(), rfl, trivial, ⟨by rw [ht]; exact hW.1, hW.2.1⟩⟩, hW.2.2.F ht⟩) hW.2.2.2.2 dX10_need_45 hlocks

theorem tn_lp (a1 pm : Int32) (mp : Nat → Int32) : ∀ (n : Nat) (yv : Int32) (ym : Bool) (ys : Int32) (yw : Bool), (0 ≤ ys.toInt ∧ ys.toInt ≤ pm.toInt) → (ym = true → ys.toInt < pm.toInt) → (pm.toInt - ys.toInt).toNat < n → (0 ≤ (f_X10_takeNumber_lp51 a1 pm mp n yv ym ys yw).2.1.toInt ∧ (f_X10_takeNumber_lp51 a1 pm mp n yv ym ys yw).2.1.toInt ≤ pm.toInt) ∧ ys.toInt ≤ (f_X10_takeNumber_lp51 a1 pm mp n yv ym ys yw).2.1.toInt ∧ (ym = true → ys.toInt < (f_X10_takeNumber_lp51 a1 pm mp n yv ym ys yw).2.1.toInt) ∧ (f_X10_takeNumber_lp51 a1 pm mp n yv ym ys yw).2.2 = yw := by
  intro n
  induction n with
  | zero => intro yv ym ys yw _ _ h; exact absurd h (Nat.not_lt_zero _)
  | succ n ih =>
    intro yv ym ys yw h hmo hm
    rw [f_X10_takeNumber_lp51]
    by_cases c : ym = true
    · rw [if_pos c]
      have hs := sp_ok h (hmo c)
      have hu := sp_up h.1 (hmo c)
      have hd := tn_mu h (hmo c) hm
      have go : ∀ v m, (m = true → (ys + 1).toInt < pm.toInt) → _ := fun v m hq => ih v m (ys + 1) yw hs hq hd
      have fin : ∀ v m, (m = true → (ys + 1).toInt < pm.toInt) → (0 ≤ (f_X10_takeNumber_lp51 a1 pm mp n v m (ys + 1) yw).2.1.toInt ∧ (f_X10_takeNumber_lp51 a1 pm mp n v m (ys + 1) yw).2.1.toInt ≤ pm.toInt) ∧ ys.toInt ≤ (f_X10_takeNumber_lp51 a1 pm mp n v m (ys + 1) yw).2.1.toInt ∧ (ym = true → ys.toInt < (f_X10_takeNumber_lp51 a1 pm mp n v m (ys + 1) yw).2.1.toInt) ∧ (f_X10_takeNumber_lp51 a1 pm mp n v m (ys + 1) yw).2.2 = yw := fun v m hq => by
        have g := ih v m (ys + 1) yw hs hq hd
        exact ⟨g.1, by have := g.2.1; omega, fun _ => by have := g.2.1; omega, g.2.2.2⟩
      split
      · exact fin _ _ fun q => by cases q
      · split
        · rename_i q1
          split
          · exact fin _ _ fun q => by cases q
          · exact fin _ _ fun _ => nx_lt q1 (by decide)
        · exact fin _ _ fun q => by cases q
    · rw [if_neg c]
      exact ⟨h, Int.le_refl _, fun q => absurd q c, rfl⟩
theorem tn_f {a0 a1 pm sp : Int32} {iw : Bool} {mp : Nat → Int32} (h : 0 ≤ sp.toInt ∧ sp.toInt ≤ pm.toInt) (ha : 1 ≤ (48 + a0).toInt64.toInt) : (0 ≤ (f_X10_takeNumber a0 a1 pm sp iw mp).2.1.toInt ∧ (f_X10_takeNumber a0 a1 pm sp iw mp).2.1.toInt ≤ pm.toInt) ∧ sp.toInt ≤ (f_X10_takeNumber a0 a1 pm sp iw mp).2.1.toInt ∧ ((f_X10_takeNumber a0 a1 pm sp iw mp).2.2 = false → iw = false ∧ sp.toInt < (f_X10_takeNumber a0 a1 pm sp iw mp).2.1.toInt) := by
  unfold f_X10_takeNumber
  split
  · have g := tn_lp a1 pm mp ((pm.toInt - sp.toInt).toNat + 1) 0 false sp true h (fun q => by cases q) (Nat.lt_succ_self _)
    exact ⟨g.1, g.2.1, fun q => by rw [g.2.2.2] at q; cases q⟩
  · rename_i c0
    split
    · rename_i c1
      have g := tn_lp a1 pm mp ((pm.toInt - sp.toInt).toNat + 1) 0 true sp false h (fun _ => nx_lt c1 ha) (Nat.lt_succ_self _)
      exact ⟨g.1, g.2.1, fun _ => ⟨Bool.eq_false_iff.mpr c0, g.2.2.1 rfl⟩⟩
    · have g := tn_lp a1 pm mp ((pm.toInt - sp.toInt).toNat + 1) 0 false sp true h (fun q => by cases q) (Nat.lt_succ_self _)
      exact ⟨g.1, g.2.1, fun q => by rw [g.2.2.2] at q; cases q⟩
theorem sp_0 {sp pm : Int32} (h : 0 ≤ sp.toInt ∧ sp.toInt ≤ pm.toInt) : (0 ≤ (sp + 0).toInt ∧ (sp + 0).toInt ≤ pm.toInt) ∧ (sp + 0).toInt = sp.toInt := by
  rw [Int32.add_zero]; exact ⟨h, rfl⟩
theorem nd_f {a0 pm sp : Int32} {iw : Bool} {mp : Nat → Int32} (h : 0 ≤ sp.toInt ∧ sp.toInt ≤ pm.toInt) (ha : ¬ a0 = 0) : (0 ≤ (f_X10_need a0 pm sp iw mp).1.toInt ∧ (f_X10_need a0 pm sp iw mp).1.toInt ≤ pm.toInt) ∧ sp.toInt ≤ (f_X10_need a0 pm sp iw mp).1.toInt ∧ ((f_X10_need a0 pm sp iw mp).2 = false → iw = false ∧ sp.toInt < (f_X10_need a0 pm sp iw mp).1.toInt) := by
  have s0 := sp_0 h
  unfold f_X10_need
  split
  · exact ⟨s0.1, by rw [s0.2]; exact Int.le_refl _, fun q => by cases q⟩
  · rename_i c0
    split
    · rename_i c1
      have hl := nx_eq c1 ha
      have hu := sp_up h.1 hl
      exact ⟨sp_ok h hl, by rw [hu]; omega, fun _ => ⟨Bool.eq_false_iff.mpr c0, by rw [hu]; omega⟩⟩
    · exact ⟨s0.1, by rw [s0.2]; exact Int.le_refl _, fun q => by cases q⟩
theorem rd_i {x : Int32} (h : 0 ≤ x.toInt ∧ x.toInt ≤ 29) : (2 * x).toInt = 2 * x.toInt := by
  have e2 : (2 : Int32).toInt = 2 := by decide
  rw [xmulI (by rw [e2]; omega) (by rw [e2]; omega), e2]
theorem rd_in {x : Int32} (h : 0 ≤ x.toInt ∧ x.toInt ≤ 29) : vp_in (2 * x) 60 := vp_in_iff.mpr (by rw [rd_i h]; omega)
theorem rd_in1 {x : Int32} (h : 0 ≤ x.toInt ∧ x.toInt ≤ 29) : vp_in (2 * x + 1) 60 := vp_in_iff.mpr (by
  have e := xI1
  rw [xaddI (by rw [rd_i h]; omega) (by rw [rd_i h]; omega), rd_i h, e]; omega)

def f_X10_takeLeg_k3 (rn : Int32) (mr : Nat → Int32) (o1_ : Int32 × Int32 × Bool) (o4_ : Int32 × Int32 × Bool) : Int32 × Bool × Int32 × (Nat → Int32) :=
  (o4_.2.1, o4_.2.2, rn + 1, upd (upd mr (2 * rn).toNatClampNeg o1_.1) ((2 * rn) + 1).toNatClampNeg (100 * o4_.1))
def f_X10_takeLeg_k4 (rn : Int32) (mr : Nat → Int32) (o1_ : Int32 × Int32 × Bool) (o7_ : Int32 × Int32 × Bool) : Int32 × Bool × Int32 × (Nat → Int32) :=
  (o7_.2.1, o7_.2.2, rn + 1, upd (upd mr (2 * rn).toNatClampNeg o1_.1) ((2 * rn) + 1).toNatClampNeg (100 * o7_.1))
def f_X10_takeLeg_k5 (rn : Int32) (mr : Nat → Int32) (o1_ : Int32 × Int32 × Bool) (o9_ : Int32 × Int32 × Bool) : Int32 × Bool × Int32 × (Nat → Int32) :=
  (o9_.2.1, o9_.2.2, rn + 1, upd (upd mr (2 * rn).toNatClampNeg o1_.1) ((2 * rn) + 1).toNatClampNeg ((-100) * o9_.1))
def f_X10_takeLeg_k2 (pm : Int32) (rn : Int32) (mp : Nat → Int32) (mr : Nat → Int32) (o1_ : Int32 × Int32 × Bool) (o3_ : Int32 × Bool) : Int32 × Bool × Int32 × (Nat → Int32) :=
  if o3_.2 = true then
    f_X10_takeLeg_k3 rn mr o1_ (f_X10_takeNumber 0 50 pm (o3_.1 + 0) o3_.2 mp)
  else
    if (f_X10_next pm o3_.1 mp) = 45 then
      f_X10_takeLeg_k5 rn mr o1_ (f_X10_takeNumber 0 40 pm (o3_.1 + 1) o3_.2 mp)
    else
      f_X10_takeLeg_k4 rn mr o1_ (f_X10_takeNumber 0 50 pm (o3_.1 + 0) o3_.2 mp)
def f_X10_takeLeg_k1 (pm : Int32) (rn : Int32) (mp : Nat → Int32) (mr : Nat → Int32) (o1_ : Int32 × Int32 × Bool) : Int32 × Bool × Int32 × (Nat → Int32) :=
  f_X10_takeLeg_k2 pm rn mp mr o1_ (f_X10_need 64 pm o1_.2.1 o1_.2.2 mp)
def f_X10_takeLeg (pm : Int32) (sp : Int32) (iw : Bool) (rn : Int32) (mp : Nat → Int32) (mr : Nat → Int32) : Int32 × Bool × Int32 × (Nat → Int32) :=
  f_X10_takeLeg_k1 pm rn mp mr (f_X10_takeNumber 1 600 pm sp iw mp)
set_option maxHeartbeats 4000000 in
set_option maxRecDepth 100000 in
theorem c_X10_takeLeg (l : Launch) (D : va_G) (cI cJ cZ cB : ClassId) (sz : Nat) (aM : Nat) (mE : Nat) (mF : Nat) (mA : Nat) (mB : Nat) (mC : Nat) (mD : Nat) (pm : Int32) (sp : Int32) (iw : Bool) (rn : Int32) (mp : Nat → Int32) (mr : Nat → Int32) (hpm : okC pm 80) (hsp : 0 ≤ sp.toInt ∧ sp.toInt ≤ pm.toInt) (hrn : 0 ≤ rn.toInt ∧ rn.toInt ≤ 29) (o : Int32 × Bool × Int32 × (Nat → Int32)) (ho : f_X10_takeLeg pm sp iw rn mp mr = o) : Met l yX10_takeLeg wsX10_takeLeg ({ frames := 2, cells := 0, slots := 0, locals := 49 } : Room) (xPre D (xT cI cJ cZ cB) [.ref aM] [(aM, .inr (10, [.ref mA, .ref mB, .ref mC, .ref mD, .ref mE, .int pm, .int sp, .int (bi iw), .ref mF, .int rn])), (mE, .inl (cI, 80, .inl mp)), (mF, .inl (cI, 60, .inl mr))] sz) (va_Qv (fun _ : Unit => True) (fun _ t => xB D ([(aM, .inr (10, [.ref mA, .ref mB, .ref mC, .ref mD, .ref mE, .int pm, .int o.1, .int (bi o.2.1), .ref mF, .int o.2.2.1])), (mE, .inl (cI, 80, .inl mp)), (mF, .inl (cI, 60, .inl o.2.2.2))]) (va_A [(aM, .inr (10, [.ref mA, .ref mB, .ref mC, .ref mD, .ref mE, .int pm, .int sp, .int (bi iw), .ref mF, .int rn])), (mE, .inl (cI, 80, .inl mp)), (mF, .inl (cI, 60, .inl mr))] sz) t) (va_A [(aM, .inr (10, [.ref mA, .ref mB, .ref mC, .ref mD, .ref mE, .int pm, .int sp, .int (bi iw), .ref mF, .int rn])), (mE, .inl (cI, 80, .inl mp)), (mF, .inl (cI, 60, .inl mr))] sz)) 0 0 (va_A [(aM, .inr (10, [.ref mA, .ref mB, .ref mC, .ref mD, .ref mE, .int pm, .int sp, .int (bi iw), .ref mF, .int rn])), (mE, .inl (cI, 80, .inl mp)), (mF, .inl (cI, 60, .inl mr))] sz) := by
  refine xofW (Qc := fun A0 => va_Qv (fun _ : Unit => True) (fun _ t => xB D ([(aM, .inr (10, [.ref mA, .ref mB, .ref mC, .ref mD, .ref mE, .int pm, .int o.1, .int (bi o.2.1), .ref mF, .int o.2.2.1])), (mE, .inl (cI, 80, .inl mp)), (mF, .inl (cI, 60, .inl o.2.2.2))]) A0 t) A0) (fr := fun A => A) (cc := cX10_takeLeg) (maxL := 3) (ret := none) (by decide) rfl (Nat.le_of_ble_eq_true rfl) ?_
  intro p e s m below meth c A ⟨hx, hb, hml, hown, hts⟩ hrt hlocks hnm hsz hK hW hA hG ls hl
  have hown : s.vm.findClass RX10 = some m.cls := hown
  have hl : lv_has ls 3 [(0, .ref aM)] := hl
  obtain ⟨H, hH⟩ : ∃ H, H = s.heap := ⟨_, rfl⟩
  have hW : xW D A s.heap ([(aM, .inr (10, [.ref mA, .ref mB, .ref mC, .ref mD, .ref mE, .int pm, .int sp, .int (bi iw), .ref mF, .int rn])), (mE, .inl (cI, 80, .inl mp)), (mF, .inl (cI, 60, .inl mr))] ++ []) H [] := by rw [hH]; exact hW
  have w1 := hts (.fieldLink RX10 27 "DryIceLaneModel" "read" "[I") (by decide +kernel)
  have hin10 : ∀ w ∈ u_ws RX10 TX10 10, w ∈ wsX10_takeLeg := by decide +kernel
  have w3 := hts (.fieldLink RX10 216 "DryIceLaneModel" "readMany" "I") (by decide +kernel)
  have w4 := hts (.fieldLink RX10 205 "DryIceLaneModel" "isWrong" "Z") (by decide +kernel)
  have w5 := hts (.fieldLink RX10 202 "DryIceLaneModel" "spot" "I") (by decide +kernel)
  rw [← hH]
  refine lv_aload_n hx hb dX10_takeLeg_0 rfl (lv_at hl 0 rfl) ?_
  refine xget (ci := 10) (C := RX10) (T := TX10) (N := 10) hx hb hts hin10 hown hK hW.1 0 rfl rfl 8 (by decide) w1 rfl dX10_takeLeg_1 ?_
  refine lv_iconst (v := 2) hx hb dX10_takeLeg_4 (by decide) ?_
  refine lv_aload_n hx hb dX10_takeLeg_5 rfl (lv_at hl 0 rfl) ?_
  refine xget (ci := 10) (C := RX10) (T := TX10) (N := 10) hx hb hts hin10 hown hK hW.1 0 rfl rfl 9 (by decide) w3 rfl dX10_takeLeg_6 ?_
  refine lv_imul hx hb dX10_takeLeg_9 ?_
  refine lv_aload_n hx hb dX10_takeLeg_10 rfl (lv_at hl 0 rfl) ?_
  refine lv_iconst (v := 1) hx hb dX10_takeLeg_11 (by decide) ?_
  refine lv_sipush (v := 600) hx hb dX10_takeLeg_12 (by decide) ?_
  obtain ⟨o1_, eo1_⟩ : ∃ z9, f_X10_takeNumber 1 600 pm sp iw mp = z9 := ⟨_, rfl⟩
  refine xQi (wr := [(mF, .inl (cI, 60, .inl mr))]) hW hA [0, 1] [2] rfl rfl (by decide) (by decide) (by decide) (xrunV (As := [.int 1, .int 600]) (rest := [.int (2 * rn), .ref mF]) ⟨hx, hb, hml, hown, hts⟩ (c_X10_takeNumber l D cI cJ cZ cB H.size aM mE 1 600 mA mB mC mD pm sp iw mF rn mp (by assumption) (by assumption) (by decide) o1_ eo1_) (cwV 2 hts gX10_takeLeg_X10_takeNumber rfl rfl rfl (by decide +kernel) ⟨Nat.le_of_ble_eq_true rfl, Nat.le_of_ble_eq_true rfl⟩) hK hG hW.2.2 (xsubQ hW hA [0, 1] rfl (by decide)) (va_recv hK hW.1 (ci := 10) (q0 := 0) rfl rfl) rfl hl.1 rfl (Nat.le_of_ble_eq_true rfl) dX10_takeLeg_15 ⟨Nat.le_of_ble_eq_true rfl, Nat.le_of_ble_eq_true rfl⟩) (fun r2 _ H locs hq hW => ?_)
  subst hq
  have hW : xW D A s.heap ([(mF, .inl (cI, 60, .inl mr)), (aM, .inr (10, [.ref mA, .ref mB, .ref mC, .ref mD, .ref mE, .int pm, .int o1_.2.1, .int (bi o1_.2.2), .ref mF, .int rn])), (mE, .inl (cI, 80, .inl mp))] ++ []) H _ := hW
  have hF : f_X10_takeLeg pm sp iw rn mp mr = f_X10_takeLeg_k1 pm rn mp mr o1_ := by
    rw [f_X10_takeLeg, eo1_]
  have hK1 := hF.symm.trans ho
  have hT := tn_f (a0 := 1) (a1 := 600) (iw := iw) (mp := mp) hsp (by decide)
  rw [eo1_] at hT
  refine xiast hx hb hK hW 0 0 rfl (Nat.le_of_ble_eq_true rfl) rfl (rd_in hrn) (2 * rn).toNatClampNeg rfl dX10_takeLeg_18 (fun H locs hW => ?_)
  have hW : xW D A s.heap ([(mF, .inl (cI, 60, .inl (upd mr (2 * rn).toNatClampNeg o1_.1))), (aM, .inr (10, [.ref mA, .ref mB, .ref mC, .ref mD, .ref mE, .int pm, .int o1_.2.1, .int (bi o1_.2.2), .ref mF, .int rn])), (mE, .inl (cI, 80, .inl mp))] ++ []) H _ := hW
  refine lv_aload_n hx hb dX10_takeLeg_19 rfl (lv_at hl 0 rfl) ?_
  refine lv_bipush (v := 64) hx hb dX10_takeLeg_20 (by decide) ?_
  obtain ⟨o3_, eo3_⟩ : ∃ z9, f_X10_need 64 pm o1_.2.1 o1_.2.2 mp = z9 := ⟨_, rfl⟩
  refine xQv (wr := [(mF, .inl (cI, 60, .inl (upd mr (2 * rn).toNatClampNeg o1_.1)))]) hW hA [1, 2] [0] rfl rfl (by decide) (by decide) (by decide) (xrunV (As := [.int 64]) (rest := []) ⟨hx, hb, hml, hown, hts⟩ (c_X10_need l D cI cJ cZ cB H.size aM mE 64 mA mB mC mD pm o1_.2.1 o1_.2.2 mF rn mp (by assumption) (hT.1) o3_ eo3_) (cwV 1 hts gX10_takeLeg_X10_need rfl rfl rfl (by decide +kernel) ⟨Nat.le_of_ble_eq_true rfl, Nat.le_of_ble_eq_true rfl⟩) hK hG hW.2.2 (xsubQ hW hA [1, 2] rfl (by decide)) (va_recv hK hW.1 (ci := 10) (q0 := 1) rfl rfl) rfl hl.1 rfl (Nat.le_of_ble_eq_true rfl) dX10_takeLeg_22 ⟨Nat.le_of_ble_eq_true rfl, Nat.le_of_ble_eq_true rfl⟩) (fun _ H locs _ hW => ?_)
  have hW : xW D A s.heap ([(mF, .inl (cI, 60, .inl (upd mr (2 * rn).toNatClampNeg o1_.1))), (aM, .inr (10, [.ref mA, .ref mB, .ref mC, .ref mD, .ref mE, .int pm, .int o3_.1, .int (bi o3_.2), .ref mF, .int rn])), (mE, .inl (cI, 80, .inl mp))] ++ []) H _ := hW
  have hF : f_X10_takeLeg_k1 pm rn mp mr o1_ = f_X10_takeLeg_k2 pm rn mp mr o1_ o3_ := by
    rw [f_X10_takeLeg_k1, eo3_]
  have hK2 := hF.symm.trans hK1
  have hN := nd_f (a0 := 64) (iw := o1_.2.2) (mp := mp) hT.1 (by decide)
  rw [eo3_] at hN
  refine lv_aload_n hx hb dX10_takeLeg_25 rfl (lv_at hl 0 rfl) ?_
  refine xget (ci := 10) (C := RX10) (T := TX10) (N := 10) hx hb hts hin10 hown hK hW.1 1 rfl rfl 7 (by decide) w4 rfl dX10_takeLeg_26 ?_
  refine xb_ne (tgt := 45) hx hb dX10_takeLeg_29 (by decide) (fun c1 => ?_) (fun c1 => ?_)
  · skip
    refine lv_iconst (v := 0) hx hb dX10_takeLeg_45 (by decide) ?_
    refine lv_istore_n (lv' := [(1, .int 0), (0, .ref aM)]) hx hb dX10_takeLeg_46 rfl hl (by decide) rfl (fun ls hl => ?_)
    refine lv_aload_n hx hb dX10_takeLeg_47 rfl (lv_at hl 1 rfl) ?_
    refine lv_dup hx hb dX10_takeLeg_48 rfl ?_
    refine xget (ci := 10) (C := RX10) (T := TX10) (N := 10) hx hb hts hin10 hown hK hW.1 1 rfl rfl 6 (by decide) w5 rfl dX10_takeLeg_49 ?_
    refine lv_iload_n hx hb dX10_takeLeg_52 rfl (lv_at hl 0 rfl) ?_
    refine lv_if_eq (tgt := 60) hx hb dX10_takeLeg_53 (by decide) (fun c2 => ?_) (fun c2 => ?_)
    · skip
      refine lv_iconst (v := 0) hx hb dX10_takeLeg_60 (by decide) ?_
      refine lv_iadd hx hb dX10_takeLeg_61 ?_
      refine xput (ci := 10) (v := .int (o3_.1 + 0)) (ty := .int) (C := RX10) (T := TX10) (N := 10) hx hb hts hin10 tyX10 tyX10_ok nmX10 hown hK hW 1 rfl (Nat.le_of_ble_eq_true rfl) rfl 6 (by decide) w5 rfl (by decide +kernel) rfl rfl (Nat.le_of_ble_eq_true rfl) dX10_takeLeg_62 (fun H locs hW => ?_)
      have hW : xW D A s.heap ([(mF, .inl (cI, 60, .inl (upd mr (2 * rn).toNatClampNeg o1_.1))), (aM, .inr (10, [.ref mA, .ref mB, .ref mC, .ref mD, .ref mE, .int pm, .int (o3_.1 + 0), .int (bi o3_.2), .ref mF, .int rn])), (mE, .inl (cI, 80, .inl mp))] ++ []) H _ := hW
      refine lv_aload_n hx hb dX10_takeLeg_65 rfl (lv_at hl 1 rfl) ?_
      refine lv_iconst (v := 0) hx hb dX10_takeLeg_66 (by decide) ?_
      refine lv_iload_n hx hb dX10_takeLeg_67 rfl (lv_at hl 0 rfl) ?_
      refine lv_if_eq (tgt := 76) hx hb dX10_takeLeg_68 (by decide) (fun c3 => ?_) (fun c3 => ?_)
      · skip
        refine lv_bipush (v := 50) hx hb dX10_takeLeg_76 (by decide) ?_
        obtain ⟨o4_, eo4_⟩ : ∃ z9, f_X10_takeNumber 0 50 pm (o3_.1 + 0) o3_.2 mp = z9 := ⟨_, rfl⟩
        refine xQi (wr := [(mF, .inl (cI, 60, .inl (upd mr (2 * rn).toNatClampNeg o1_.1)))]) hW hA [1, 2] [0] rfl rfl (by decide) (by decide) (by decide) (xrunV (As := [.int 0, .int 50]) (rest := []) ⟨hx, hb, hml, hown, hts⟩ (c_X10_takeNumber l D cI cJ cZ cB H.size aM mE 0 50 mA mB mC mD pm (o3_.1 + 0) o3_.2 mF rn mp (by assumption) ((sp_0 hN.1).1) (by decide) o4_ eo4_) (cwV 2 hts gX10_takeLeg_X10_takeNumber rfl rfl rfl (by decide +kernel) ⟨Nat.le_of_ble_eq_true rfl, Nat.le_of_ble_eq_true rfl⟩) hK hG hW.2.2 (xsubQ hW hA [1, 2] rfl (by decide)) (va_recv hK hW.1 (ci := 10) (q0 := 1) rfl rfl) rfl hl.1 rfl (Nat.le_of_ble_eq_true rfl) dX10_takeLeg_78 ⟨Nat.le_of_ble_eq_true rfl, Nat.le_of_ble_eq_true rfl⟩) (fun r5 _ H locs hq hW => ?_)
        subst hq
        have hW : xW D A s.heap ([(mF, .inl (cI, 60, .inl (upd mr (2 * rn).toNatClampNeg o1_.1))), (aM, .inr (10, [.ref mA, .ref mB, .ref mC, .ref mD, .ref mE, .int pm, .int o4_.2.1, .int (bi o4_.2.2), .ref mF, .int rn])), (mE, .inl (cI, 80, .inl mp))] ++ []) H _ := hW
        have hF : f_X10_takeLeg_k2 pm rn mp mr o1_ o3_ = f_X10_takeLeg_k3 rn mr o1_ o4_ := by
          rw [f_X10_takeLeg_k2, if_pos c1, eo4_]
        have hK3 := hF.symm.trans hK2
        refine lv_istore_n (lv' := [(2, .int o4_.1), (1, .int 0), (0, .ref aM)]) hx hb dX10_takeLeg_81 rfl hl (by decide) rfl (fun ls hl => ?_)
        refine lv_aload_n hx hb dX10_takeLeg_82 rfl (lv_at hl 2 rfl) ?_
        refine xget (ci := 10) (C := RX10) (T := TX10) (N := 10) hx hb hts hin10 hown hK hW.1 1 rfl rfl 8 (by decide) w1 rfl dX10_takeLeg_83 ?_
        refine lv_iconst (v := 2) hx hb dX10_takeLeg_86 (by decide) ?_
        refine lv_aload_n hx hb dX10_takeLeg_87 rfl (lv_at hl 2 rfl) ?_
        refine xget (ci := 10) (C := RX10) (T := TX10) (N := 10) hx hb hts hin10 hown hK hW.1 1 rfl rfl 9 (by decide) w3 rfl dX10_takeLeg_88 ?_
        refine lv_imul hx hb dX10_takeLeg_91 ?_
        refine lv_iconst (v := 1) hx hb dX10_takeLeg_92 (by decide) ?_
        refine lv_iadd hx hb dX10_takeLeg_93 ?_
        refine lv_iload_n hx hb dX10_takeLeg_94 rfl (lv_at hl 1 rfl) ?_
        refine lv_if_eq (tgt := 105) hx hb dX10_takeLeg_95 (by decide) (fun c4 => ?_) (fun c4 => ?_)
        · skip
          refine lv_bipush (v := 100) hx hb dX10_takeLeg_105 (by decide) ?_
          refine lv_iload_n hx hb dX10_takeLeg_107 rfl (lv_at hl 0 rfl) ?_
          refine lv_imul hx hb dX10_takeLeg_108 ?_
          refine xiast hx hb hK hW 0 0 rfl (Nat.le_of_ble_eq_true rfl) rfl (rd_in1 hrn) ((2 * rn) + 1).toNatClampNeg rfl dX10_takeLeg_109 (fun H locs hW => ?_)
          have hW : xW D A s.heap ([(mF, .inl (cI, 60, .inl (upd (upd mr (2 * rn).toNatClampNeg o1_.1) ((2 * rn) + 1).toNatClampNeg (100 * o4_.1)))), (aM, .inr (10, [.ref mA, .ref mB, .ref mC, .ref mD, .ref mE, .int pm, .int o4_.2.1, .int (bi o4_.2.2), .ref mF, .int rn])), (mE, .inl (cI, 80, .inl mp))] ++ []) H _ := hW
          refine lv_aload_n hx hb dX10_takeLeg_110 rfl (lv_at hl 2 rfl) ?_
          refine lv_dup hx hb dX10_takeLeg_111 rfl ?_
          refine xget (ci := 10) (C := RX10) (T := TX10) (N := 10) hx hb hts hin10 hown hK hW.1 1 rfl rfl 9 (by decide) w3 rfl dX10_takeLeg_112 ?_
          refine lv_iconst (v := 1) hx hb dX10_takeLeg_115 (by decide) ?_
          refine lv_iadd hx hb dX10_takeLeg_116 ?_
          refine xput (ci := 10) (v := .int (rn + 1)) (ty := .int) (C := RX10) (T := TX10) (N := 10) hx hb hts hin10 tyX10 tyX10_ok nmX10 hown hK hW 1 rfl (Nat.le_of_ble_eq_true rfl) rfl 9 (by decide) w3 rfl (by decide +kernel) rfl rfl (Nat.le_of_ble_eq_true rfl) dX10_takeLeg_117 (fun H locs hW => ?_)
          have hW : xW D A s.heap ([(mF, .inl (cI, 60, .inl (upd (upd mr (2 * rn).toNatClampNeg o1_.1) ((2 * rn) + 1).toNatClampNeg (100 * o4_.1)))), (aM, .inr (10, [.ref mA, .ref mB, .ref mC, .ref mD, .ref mE, .int pm, .int o4_.2.1, .int (bi o4_.2.2), .ref mF, .int (rn + 1)])), (mE, .inl (cI, 80, .inl mp))] ++ []) H _ := hW
          have hF : f_X10_takeLeg_k3 rn mr o1_ o4_ = (o4_.2.1, o4_.2.2, rn + 1, upd (upd mr (2 * rn).toNatClampNeg o1_.1) ((2 * rn) + 1).toNatClampNeg (100 * o4_.1)) := by
            rw [f_X10_takeLeg_k3]
          obtain rfl : (o4_.2.1, o4_.2.2, rn + 1, upd (upd mr (2 * rn).toNatClampNeg o1_.1) ((2 * rn) + 1).toNatClampNeg (100 * o4_.1)) = o := hF.symm.trans hK3
          have hW := xW_perm (X' := [(aM, .inr (10, [.ref mA, .ref mB, .ref mC, .ref mD, .ref mE, .int pm, .int o4_.2.1, .int (bi o4_.2.2), .ref mF, .int (rn + 1)])), (mE, .inl (cI, 80, .inl mp)), (mF, .inl (cI, 60, .inl (upd (upd mr (2 * rn).toNatClampNeg o1_.1) ((2 * rn) + 1).toNatClampNeg (100 * o4_.1))))]) hW [1, 2, 0] rfl (by decide)
          exact W.vret hx hb hrt (fun t ht hM => ⟨⟨(), rfl, trivial, ⟨by rw [ht]; exact hW.1, hW.2.1⟩⟩, hW.2.2.F ht⟩) hW.2.2.2.2 dX10_takeLeg_120 hlocks
        · exact absurd c4 (by decide)
      · exact absurd c3 (by decide)
    · exact absurd c2 (by decide)
  · skip
    refine lv_aload_n hx hb dX10_takeLeg_32 rfl (lv_at hl 0 rfl) ?_
    refine vp_callSi (va_Run.run (xrunV (As := []) (rest := []) ⟨hx, hb, hml, hown, hts⟩ (c_X10_next l D cI cJ cZ cB H.size aM mE mA mB mC mD pm o3_.1 o3_.2 mF rn mp (by assumption) (hN.1) _ rfl) (cwV 0 hts gX10_takeLeg_X10_next rfl rfl rfl (by decide +kernel) ⟨Nat.le_of_ble_eq_true rfl, Nat.le_of_ble_eq_true rfl⟩) hK hG hW.2.2 (xsubQ hW hA [1, 2] rfl (by decide)) (va_recv hK hW.1 (ci := 10) (q0 := 1) rfl rfl) rfl hl.1 rfl (Nat.le_of_ble_eq_true rfl) dX10_takeLeg_33 ⟨Nat.le_of_ble_eq_true rfl, Nat.le_of_ble_eq_true rfl⟩)) (fun r6 hq => ?_)
    subst hq
    refine lv_bipush (v := 45) hx hb dX10_takeLeg_36 (by decide) ?_
    refine lv_icmp_ne (tgt := 45) hx hb dX10_takeLeg_38 (by decide) (fun c2 => ?_) (fun c2 => ?_)
    · skip
      refine lv_iconst (v := 0) hx hb dX10_takeLeg_45 (by decide) ?_
      refine lv_istore_n (lv' := [(1, .int 0), (0, .ref aM)]) hx hb dX10_takeLeg_46 rfl hl (by decide) rfl (fun ls hl => ?_)
      refine lv_aload_n hx hb dX10_takeLeg_47 rfl (lv_at hl 1 rfl) ?_
      refine lv_dup hx hb dX10_takeLeg_48 rfl ?_
      refine xget (ci := 10) (C := RX10) (T := TX10) (N := 10) hx hb hts hin10 hown hK hW.1 1 rfl rfl 6 (by decide) w5 rfl dX10_takeLeg_49 ?_
      refine lv_iload_n hx hb dX10_takeLeg_52 rfl (lv_at hl 0 rfl) ?_
      refine lv_if_eq (tgt := 60) hx hb dX10_takeLeg_53 (by decide) (fun c3 => ?_) (fun c3 => ?_)
      · skip
        refine lv_iconst (v := 0) hx hb dX10_takeLeg_60 (by decide) ?_
        refine lv_iadd hx hb dX10_takeLeg_61 ?_
        refine xput (ci := 10) (v := .int (o3_.1 + 0)) (ty := .int) (C := RX10) (T := TX10) (N := 10) hx hb hts hin10 tyX10 tyX10_ok nmX10 hown hK hW 1 rfl (Nat.le_of_ble_eq_true rfl) rfl 6 (by decide) w5 rfl (by decide +kernel) rfl rfl (Nat.le_of_ble_eq_true rfl) dX10_takeLeg_62 (fun H locs hW => ?_)
        have hW : xW D A s.heap ([(mF, .inl (cI, 60, .inl (upd mr (2 * rn).toNatClampNeg o1_.1))), (aM, .inr (10, [.ref mA, .ref mB, .ref mC, .ref mD, .ref mE, .int pm, .int (o3_.1 + 0), .int (bi o3_.2), .ref mF, .int rn])), (mE, .inl (cI, 80, .inl mp))] ++ []) H _ := hW
        refine lv_aload_n hx hb dX10_takeLeg_65 rfl (lv_at hl 1 rfl) ?_
        refine lv_iconst (v := 0) hx hb dX10_takeLeg_66 (by decide) ?_
        refine lv_iload_n hx hb dX10_takeLeg_67 rfl (lv_at hl 0 rfl) ?_
        refine lv_if_eq (tgt := 76) hx hb dX10_takeLeg_68 (by decide) (fun c4 => ?_) (fun c4 => ?_)
        · skip
          refine lv_bipush (v := 50) hx hb dX10_takeLeg_76 (by decide) ?_
          obtain ⟨o7_, eo7_⟩ : ∃ z9, f_X10_takeNumber 0 50 pm (o3_.1 + 0) o3_.2 mp = z9 := ⟨_, rfl⟩
          refine xQi (wr := [(mF, .inl (cI, 60, .inl (upd mr (2 * rn).toNatClampNeg o1_.1)))]) hW hA [1, 2] [0] rfl rfl (by decide) (by decide) (by decide) (xrunV (As := [.int 0, .int 50]) (rest := []) ⟨hx, hb, hml, hown, hts⟩ (c_X10_takeNumber l D cI cJ cZ cB H.size aM mE 0 50 mA mB mC mD pm (o3_.1 + 0) o3_.2 mF rn mp (by assumption) ((sp_0 hN.1).1) (by decide) o7_ eo7_) (cwV 2 hts gX10_takeLeg_X10_takeNumber rfl rfl rfl (by decide +kernel) ⟨Nat.le_of_ble_eq_true rfl, Nat.le_of_ble_eq_true rfl⟩) hK hG hW.2.2 (xsubQ hW hA [1, 2] rfl (by decide)) (va_recv hK hW.1 (ci := 10) (q0 := 1) rfl rfl) rfl hl.1 rfl (Nat.le_of_ble_eq_true rfl) dX10_takeLeg_78 ⟨Nat.le_of_ble_eq_true rfl, Nat.le_of_ble_eq_true rfl⟩) (fun r8 _ H locs hq hW => ?_)
          subst hq
          have hW : xW D A s.heap ([(mF, .inl (cI, 60, .inl (upd mr (2 * rn).toNatClampNeg o1_.1))), (aM, .inr (10, [.ref mA, .ref mB, .ref mC, .ref mD, .ref mE, .int pm, .int o7_.2.1, .int (bi o7_.2.2), .ref mF, .int rn])), (mE, .inl (cI, 80, .inl mp))] ++ []) H _ := hW
          have hF : f_X10_takeLeg_k2 pm rn mp mr o1_ o3_ = f_X10_takeLeg_k4 rn mr o1_ o7_ := by
            rw [f_X10_takeLeg_k2, if_neg c1, if_neg c2, eo7_]
          have hK4 := hF.symm.trans hK2
          refine lv_istore_n (lv' := [(2, .int o7_.1), (1, .int 0), (0, .ref aM)]) hx hb dX10_takeLeg_81 rfl hl (by decide) rfl (fun ls hl => ?_)
          refine lv_aload_n hx hb dX10_takeLeg_82 rfl (lv_at hl 2 rfl) ?_
          refine xget (ci := 10) (C := RX10) (T := TX10) (N := 10) hx hb hts hin10 hown hK hW.1 1 rfl rfl 8 (by decide) w1 rfl dX10_takeLeg_83 ?_
          refine lv_iconst (v := 2) hx hb dX10_takeLeg_86 (by decide) ?_
          refine lv_aload_n hx hb dX10_takeLeg_87 rfl (lv_at hl 2 rfl) ?_
          refine xget (ci := 10) (C := RX10) (T := TX10) (N := 10) hx hb hts hin10 hown hK hW.1 1 rfl rfl 9 (by decide) w3 rfl dX10_takeLeg_88 ?_
          refine lv_imul hx hb dX10_takeLeg_91 ?_
          refine lv_iconst (v := 1) hx hb dX10_takeLeg_92 (by decide) ?_
          refine lv_iadd hx hb dX10_takeLeg_93 ?_
          refine lv_iload_n hx hb dX10_takeLeg_94 rfl (lv_at hl 1 rfl) ?_
          refine lv_if_eq (tgt := 105) hx hb dX10_takeLeg_95 (by decide) (fun c5 => ?_) (fun c5 => ?_)
          · skip
            refine lv_bipush (v := 100) hx hb dX10_takeLeg_105 (by decide) ?_
            refine lv_iload_n hx hb dX10_takeLeg_107 rfl (lv_at hl 0 rfl) ?_
            refine lv_imul hx hb dX10_takeLeg_108 ?_
            refine xiast hx hb hK hW 0 0 rfl (Nat.le_of_ble_eq_true rfl) rfl (rd_in1 hrn) ((2 * rn) + 1).toNatClampNeg rfl dX10_takeLeg_109 (fun H locs hW => ?_)
            have hW : xW D A s.heap ([(mF, .inl (cI, 60, .inl (upd (upd mr (2 * rn).toNatClampNeg o1_.1) ((2 * rn) + 1).toNatClampNeg (100 * o7_.1)))), (aM, .inr (10, [.ref mA, .ref mB, .ref mC, .ref mD, .ref mE, .int pm, .int o7_.2.1, .int (bi o7_.2.2), .ref mF, .int rn])), (mE, .inl (cI, 80, .inl mp))] ++ []) H _ := hW
            refine lv_aload_n hx hb dX10_takeLeg_110 rfl (lv_at hl 2 rfl) ?_
            refine lv_dup hx hb dX10_takeLeg_111 rfl ?_
            refine xget (ci := 10) (C := RX10) (T := TX10) (N := 10) hx hb hts hin10 hown hK hW.1 1 rfl rfl 9 (by decide) w3 rfl dX10_takeLeg_112 ?_
            refine lv_iconst (v := 1) hx hb dX10_takeLeg_115 (by decide) ?_
            refine lv_iadd hx hb dX10_takeLeg_116 ?_
            refine xput (ci := 10) (v := .int (rn + 1)) (ty := .int) (C := RX10) (T := TX10) (N := 10) hx hb hts hin10 tyX10 tyX10_ok nmX10 hown hK hW 1 rfl (Nat.le_of_ble_eq_true rfl) rfl 9 (by decide) w3 rfl (by decide +kernel) rfl rfl (Nat.le_of_ble_eq_true rfl) dX10_takeLeg_117 (fun H locs hW => ?_)
            have hW : xW D A s.heap ([(mF, .inl (cI, 60, .inl (upd (upd mr (2 * rn).toNatClampNeg o1_.1) ((2 * rn) + 1).toNatClampNeg (100 * o7_.1)))), (aM, .inr (10, [.ref mA, .ref mB, .ref mC, .ref mD, .ref mE, .int pm, .int o7_.2.1, .int (bi o7_.2.2), .ref mF, .int (rn + 1)])), (mE, .inl (cI, 80, .inl mp))] ++ []) H _ := hW
            have hF : f_X10_takeLeg_k4 rn mr o1_ o7_ = (o7_.2.1, o7_.2.2, rn + 1, upd (upd mr (2 * rn).toNatClampNeg o1_.1) ((2 * rn) + 1).toNatClampNeg (100 * o7_.1)) := by
              rw [f_X10_takeLeg_k4]
            obtain rfl : (o7_.2.1, o7_.2.2, rn + 1, upd (upd mr (2 * rn).toNatClampNeg o1_.1) ((2 * rn) + 1).toNatClampNeg (100 * o7_.1)) = o := hF.symm.trans hK4
            have hW := xW_perm (X' := [(aM, .inr (10, [.ref mA, .ref mB, .ref mC, .ref mD, .ref mE, .int pm, .int o7_.2.1, .int (bi o7_.2.2), .ref mF, .int (rn + 1)])), (mE, .inl (cI, 80, .inl mp)), (mF, .inl (cI, 60, .inl (upd (upd mr (2 * rn).toNatClampNeg o1_.1) ((2 * rn) + 1).toNatClampNeg (100 * o7_.1))))]) hW [1, 2, 0] rfl (by decide)
            exact W.vret hx hb hrt (fun t ht hM => ⟨⟨(), rfl, trivial, ⟨by rw [ht]; exact hW.1, hW.2.1⟩⟩, hW.2.2.F ht⟩) hW.2.2.2.2 dX10_takeLeg_120 hlocks
          · exact absurd c5 (by decide)
        · exact absurd c4 (by decide)
      · exact absurd c3 (by decide)
    · skip
      refine lv_iconst (v := 1) hx hb dX10_takeLeg_41 (by decide) ?_
      refine lv_goto (tgt := 46) hx hb dX10_takeLeg_42 (by decide) ?_
      refine lv_istore_n (lv' := [(1, .int 1), (0, .ref aM)]) hx hb dX10_takeLeg_46 rfl hl (by decide) rfl (fun ls hl => ?_)
      refine lv_aload_n hx hb dX10_takeLeg_47 rfl (lv_at hl 1 rfl) ?_
      refine lv_dup hx hb dX10_takeLeg_48 rfl ?_
      refine xget (ci := 10) (C := RX10) (T := TX10) (N := 10) hx hb hts hin10 hown hK hW.1 1 rfl rfl 6 (by decide) w5 rfl dX10_takeLeg_49 ?_
      refine lv_iload_n hx hb dX10_takeLeg_52 rfl (lv_at hl 0 rfl) ?_
      refine lv_if_eq (tgt := 60) hx hb dX10_takeLeg_53 (by decide) (fun c3 => ?_) (fun c3 => ?_)
      · exact absurd c3 (by decide)
      · skip
        refine lv_iconst (v := 1) hx hb dX10_takeLeg_56 (by decide) ?_
        refine lv_goto (tgt := 61) hx hb dX10_takeLeg_57 (by decide) ?_
        refine lv_iadd hx hb dX10_takeLeg_61 ?_
        refine xput (ci := 10) (v := .int (o3_.1 + 1)) (ty := .int) (C := RX10) (T := TX10) (N := 10) hx hb hts hin10 tyX10 tyX10_ok nmX10 hown hK hW 1 rfl (Nat.le_of_ble_eq_true rfl) rfl 6 (by decide) w5 rfl (by decide +kernel) rfl rfl (Nat.le_of_ble_eq_true rfl) dX10_takeLeg_62 (fun H locs hW => ?_)
        have hW : xW D A s.heap ([(mF, .inl (cI, 60, .inl (upd mr (2 * rn).toNatClampNeg o1_.1))), (aM, .inr (10, [.ref mA, .ref mB, .ref mC, .ref mD, .ref mE, .int pm, .int (o3_.1 + 1), .int (bi o3_.2), .ref mF, .int rn])), (mE, .inl (cI, 80, .inl mp))] ++ []) H _ := hW
        refine lv_aload_n hx hb dX10_takeLeg_65 rfl (lv_at hl 1 rfl) ?_
        refine lv_iconst (v := 0) hx hb dX10_takeLeg_66 (by decide) ?_
        refine lv_iload_n hx hb dX10_takeLeg_67 rfl (lv_at hl 0 rfl) ?_
        refine lv_if_eq (tgt := 76) hx hb dX10_takeLeg_68 (by decide) (fun c4 => ?_) (fun c4 => ?_)
        · exact absurd c4 (by decide)
        · skip
          refine lv_bipush (v := 40) hx hb dX10_takeLeg_71 (by decide) ?_
          refine lv_goto (tgt := 78) hx hb dX10_takeLeg_73 (by decide) ?_
          obtain ⟨o9_, eo9_⟩ : ∃ z9, f_X10_takeNumber 0 40 pm (o3_.1 + 1) o3_.2 mp = z9 := ⟨_, rfl⟩
          refine xQi (wr := [(mF, .inl (cI, 60, .inl (upd mr (2 * rn).toNatClampNeg o1_.1)))]) hW hA [1, 2] [0] rfl rfl (by decide) (by decide) (by decide) (xrunV (As := [.int 0, .int 40]) (rest := []) ⟨hx, hb, hml, hown, hts⟩ (c_X10_takeNumber l D cI cJ cZ cB H.size aM mE 0 40 mA mB mC mD pm (o3_.1 + 1) o3_.2 mF rn mp (by assumption) (sp_ok hN.1 (nx_eq c2 (by decide))) (by decide) o9_ eo9_) (cwV 2 hts gX10_takeLeg_X10_takeNumber rfl rfl rfl (by decide +kernel) ⟨Nat.le_of_ble_eq_true rfl, Nat.le_of_ble_eq_true rfl⟩) hK hG hW.2.2 (xsubQ hW hA [1, 2] rfl (by decide)) (va_recv hK hW.1 (ci := 10) (q0 := 1) rfl rfl) rfl hl.1 rfl (Nat.le_of_ble_eq_true rfl) dX10_takeLeg_78 ⟨Nat.le_of_ble_eq_true rfl, Nat.le_of_ble_eq_true rfl⟩) (fun r10 _ H locs hq hW => ?_)
          subst hq
          have hW : xW D A s.heap ([(mF, .inl (cI, 60, .inl (upd mr (2 * rn).toNatClampNeg o1_.1))), (aM, .inr (10, [.ref mA, .ref mB, .ref mC, .ref mD, .ref mE, .int pm, .int o9_.2.1, .int (bi o9_.2.2), .ref mF, .int rn])), (mE, .inl (cI, 80, .inl mp))] ++ []) H _ := hW
          have hF : f_X10_takeLeg_k2 pm rn mp mr o1_ o3_ = f_X10_takeLeg_k5 rn mr o1_ o9_ := by
            rw [f_X10_takeLeg_k2, if_neg c1, if_pos c2, eo9_]
          have hK5 := hF.symm.trans hK2
          refine lv_istore_n (lv' := [(2, .int o9_.1), (1, .int 1), (0, .ref aM)]) hx hb dX10_takeLeg_81 rfl hl (by decide) rfl (fun ls hl => ?_)
          refine lv_aload_n hx hb dX10_takeLeg_82 rfl (lv_at hl 2 rfl) ?_
          refine xget (ci := 10) (C := RX10) (T := TX10) (N := 10) hx hb hts hin10 hown hK hW.1 1 rfl rfl 8 (by decide) w1 rfl dX10_takeLeg_83 ?_
          refine lv_iconst (v := 2) hx hb dX10_takeLeg_86 (by decide) ?_
          refine lv_aload_n hx hb dX10_takeLeg_87 rfl (lv_at hl 2 rfl) ?_
          refine xget (ci := 10) (C := RX10) (T := TX10) (N := 10) hx hb hts hin10 hown hK hW.1 1 rfl rfl 9 (by decide) w3 rfl dX10_takeLeg_88 ?_
          refine lv_imul hx hb dX10_takeLeg_91 ?_
          refine lv_iconst (v := 1) hx hb dX10_takeLeg_92 (by decide) ?_
          refine lv_iadd hx hb dX10_takeLeg_93 ?_
          refine lv_iload_n hx hb dX10_takeLeg_94 rfl (lv_at hl 1 rfl) ?_
          refine lv_if_eq (tgt := 105) hx hb dX10_takeLeg_95 (by decide) (fun c5 => ?_) (fun c5 => ?_)
          · exact absurd c5 (by decide)
          · skip
            refine lv_bipush (v := -100) hx hb dX10_takeLeg_98 (by decide) ?_
            refine lv_iload_n hx hb dX10_takeLeg_100 rfl (lv_at hl 0 rfl) ?_
            refine lv_imul hx hb dX10_takeLeg_101 ?_
            refine lv_goto (tgt := 109) hx hb dX10_takeLeg_102 (by decide) ?_
            refine xiast hx hb hK hW 0 0 rfl (Nat.le_of_ble_eq_true rfl) rfl (rd_in1 hrn) ((2 * rn) + 1).toNatClampNeg rfl dX10_takeLeg_109 (fun H locs hW => ?_)
            have hW : xW D A s.heap ([(mF, .inl (cI, 60, .inl (upd (upd mr (2 * rn).toNatClampNeg o1_.1) ((2 * rn) + 1).toNatClampNeg ((-100) * o9_.1)))), (aM, .inr (10, [.ref mA, .ref mB, .ref mC, .ref mD, .ref mE, .int pm, .int o9_.2.1, .int (bi o9_.2.2), .ref mF, .int rn])), (mE, .inl (cI, 80, .inl mp))] ++ []) H _ := hW
            refine lv_aload_n hx hb dX10_takeLeg_110 rfl (lv_at hl 2 rfl) ?_
            refine lv_dup hx hb dX10_takeLeg_111 rfl ?_
            refine xget (ci := 10) (C := RX10) (T := TX10) (N := 10) hx hb hts hin10 hown hK hW.1 1 rfl rfl 9 (by decide) w3 rfl dX10_takeLeg_112 ?_
            refine lv_iconst (v := 1) hx hb dX10_takeLeg_115 (by decide) ?_
            refine lv_iadd hx hb dX10_takeLeg_116 ?_
            refine xput (ci := 10) (v := .int (rn + 1)) (ty := .int) (C := RX10) (T := TX10) (N := 10) hx hb hts hin10 tyX10 tyX10_ok nmX10 hown hK hW 1 rfl (Nat.le_of_ble_eq_true rfl) rfl 9 (by decide) w3 rfl (by decide +kernel) rfl rfl (Nat.le_of_ble_eq_true rfl) dX10_takeLeg_117 (fun H locs hW => ?_)
            have hW : xW D A s.heap ([(mF, .inl (cI, 60, .inl (upd (upd mr (2 * rn).toNatClampNeg o1_.1) ((2 * rn) + 1).toNatClampNeg ((-100) * o9_.1)))), (aM, .inr (10, [.ref mA, .ref mB, .ref mC, .ref mD, .ref mE, .int pm, .int o9_.2.1, .int (bi o9_.2.2), .ref mF, .int (rn + 1)])), (mE, .inl (cI, 80, .inl mp))] ++ []) H _ := hW
            have hF : f_X10_takeLeg_k5 rn mr o1_ o9_ = (o9_.2.1, o9_.2.2, rn + 1, upd (upd mr (2 * rn).toNatClampNeg o1_.1) ((2 * rn) + 1).toNatClampNeg ((-100) * o9_.1)) := by
              rw [f_X10_takeLeg_k5]
            obtain rfl : (o9_.2.1, o9_.2.2, rn + 1, upd (upd mr (2 * rn).toNatClampNeg o1_.1) ((2 * rn) + 1).toNatClampNeg ((-100) * o9_.1)) = o := hF.symm.trans hK5
            have hW := xW_perm (X' := [(aM, .inr (10, [.ref mA, .ref mB, .ref mC, .ref mD, .ref mE, .int pm, .int o9_.2.1, .int (bi o9_.2.2), .ref mF, .int (rn + 1)])), (mE, .inl (cI, 80, .inl mp)), (mF, .inl (cI, 60, .inl (upd (upd mr (2 * rn).toNatClampNeg o1_.1) ((2 * rn) + 1).toNatClampNeg ((-100) * o9_.1))))]) hW [1, 2, 0] rfl (by decide)
            exact W.vret hx hb hrt (fun t ht hM => ⟨⟨(), rfl, trivial, ⟨by rw [ht]; exact hW.1, hW.2.1⟩⟩, hW.2.2.F ht⟩) hW.2.2.2.2 dX10_takeLeg_120 hlocks
