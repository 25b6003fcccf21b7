def f_L_goesOff (a0 : Int32) (tm : Int32) (sf : Nat → Int32) (lc : Int32) (lr : Nat → Option Nat) (vT : Int32) (vG : Int64) (vM : Int32) (vO : Bool) (vN : Int32) (vD : Bool) (vA : Int32) (rc : Int32) (rl : Int32) (rm : Int32) (ro : Nat → Int32) (pl : Int32) (qi : Nat → Int32) (qt : Nat → Int32) (qc : Nat → Int32) (qp : Nat → Int32) : Int64 :=
  if 0 ≤ ((((f_X9_van 1 tm sf lc vT vG vM vO vN vD vA rc rl rm ro pl).toInt64 + 8000) * (f_X9_van 15 tm sf lc vT vG vM vO vN vD vA rc rl rm ro pl).toInt64) / (100 * (f_X9_box a0 0 sf lc lr vT qi qt qc qp).toInt64)) then
    if ((((f_X9_van 1 tm sf lc vT vG vM vO vN vD vA rc rl rm ro pl).toInt64 + 8000) * (f_X9_van 15 tm sf lc vT vG vM vO vN vD vA rc rl rm ro pl).toInt64) / (100 * (f_X9_box a0 0 sf lc lr vT qi qt qc qp).toInt64)) ≤ (f_X9_box a0 2 sf lc lr vT qi qt qc qp).toInt64 then
      (((f_X9_van 1 tm sf lc vT vG vM vO vN vD vA rc rl rm ro pl).toInt64 + 8000) * (f_X9_van 15 tm sf lc vT vG vM vO vN vD vA rc rl rm ro pl).toInt64) / (100 * (f_X9_box a0 0 sf lc lr vT qi qt qc qp).toInt64)
    else
      (f_X9_box a0 2 sf lc lr vT qi qt qc qp).toInt64
  else
    0
set_option maxHeartbeats 4000000 in
set_option maxRecDepth 100000 in
theorem c_L_goesOff (l : Launch) (D : va_G) (cI cJ cZ cB : ClassId) (sz : Nat) (aX : Nat) (aV : Nat) (aS : Nat) (aSv : Nat) (aL : Nat) (aLr : Nat) (aH : Nat) (aR : Nat) (aRd : Nat) (aRo : Nat) (aP : Nat) (a0 : Int32) (aVk : Nat) (aK : Nat) (aJ : Nat) (aQ : Nat) (tm : Int32) (k1 : Int64) (k2 : Int64) (k3 : Int64) (k4 : Int64) (k5 : Int64) (sf : Nat → Int32) (lc : Int32) (lr : Nat → Option Nat) (vT : Int32) (vG : Int64) (vM : Int32) (vO : Bool) (vN : Int32) (vD : Bool) (vA : Int32) (rc : Int32) (rl : Int32) (rm : Int32) (rd : Nat → Int32) (ro : Nat → Int32) (aPc : Nat) (pl : Int32) (L : List Nat) (qi : Nat → Int32) (qt : Nat → Int32) (qc : Nat → Int32) (qp : Nat → Int32) (hr : okR L lr) (hc : okC lc 10) (hrc : okC rc 12) (hdv : ¬ 100 * (f_X9_box a0 0 sf lc lr vT qi qt qc qp).toInt64 = 0) (o : Int64) (ho : f_L_goesOff a0 tm sf lc lr vT vG vM vO vN vD vA rc rl rm ro pl qi qt qc qp = o) : Met l yL_goesOff wsL_goesOff ({ frames := 5, cells := 0, slots := 0, locals := 105 } : Room) (xPre D (xT cI cJ cZ cB) [.ref aX, .int a0] ([(aX, .inr (9, [.ref aV, .ref aVk, .ref aK, .ref aJ, .ref aP, .ref aQ])), (aV, .inr (8, [.ref aS, .ref aL, .ref aH, .ref aR, .int tm, .long k1, .long k2, .long k3, .long k4, .long k5])), (aS, .inr (6, [.ref aSv])), (aSv, .inl (cI, 11, .inl sf)), (aL, .inr (2, [.ref aLr, .int lc])), (aLr, .inl (cB, 10, .inr (.inr (.inr (.inr lr))))), (aH, .inr (1, [.int vT, .long vG, .int vM, .int (bi vO), .int vN, .int (bi vD), .int vA])), (aR, .inr (4, [.ref aRd, .ref aRo, .int rc, .int rl, .int rm])), (aRd, .inl (cI, 12, .inl rd)), (aRo, .inl (cI, 12, .inl ro)), (aP, .inr (3, [.ref aPc, .int pl]))] ++ bxP L qi qt qc qp) sz) (vp_Sl (fun r => r = o)) 0 0 (fun _ => False) := by
  refine xofW (Qc := fun _ => vp_Sl (fun r => r = o)) (fr := fun _ _ => False) (cc := cL_goesOff) (maxL := 4) (ret := (some .long)) (by decide) rfl (Nat.le_of_ble_eq_true rfl) ?_
  intro p e s m below meth c A ⟨hx, hb, hml, hown, hts⟩ hrt hlocks hnm hsz hK hW hA hG ls hl
  have hown : s.vm.findClass RL = some m.cls := hown
  have hl : lv_has ls 4 [(0, .ref aX), (1, .int a0)] := hl
  obtain ⟨H, hH⟩ : ∃ H, H = s.heap := ⟨_, rfl⟩
  have hW : xW D A s.heap ([(aX, .inr (9, [.ref aV, .ref aVk, .ref aK, .ref aJ, .ref aP, .ref aQ])), (aV, .inr (8, [.ref aS, .ref aL, .ref aH, .ref aR, .int tm, .long k1, .long k2, .long k3, .long k4, .long k5])), (aS, .inr (6, [.ref aSv])), (aSv, .inl (cI, 11, .inl sf)), (aL, .inr (2, [.ref aLr, .int lc])), (aLr, .inl (cB, 10, .inr (.inr (.inr (.inr lr))))), (aH, .inr (1, [.int vT, .long vG, .int vM, .int (bi vO), .int vN, .int (bi vD), .int vA])), (aR, .inr (4, [.ref aRd, .ref aRo, .int rc, .int rl, .int rm])), (aRd, .inl (cI, 12, .inl rd)), (aRo, .inl (cI, 12, .inl ro)), (aP, .inr (3, [.ref aPc, .int pl]))] ++ bxP L qi qt qc qp) H [] := by rw [hH]; exact hW
  have w1 := hts (.constantLong RL 14 (8000)) (by decide +kernel)
  have w2 := hts (.constantLong RL 16 (100)) (by decide +kernel)
  rw [← hH]
  refine lv_aload_n hx hb dL_goesOff_0 rfl (lv_at hl 0 rfl) ?_
  refine lv_iconst (v := 1) hx hb dL_goesOff_1 (by decide) ?_
  refine vp_callSi (va_Run.run (xrunV (As := [.int 1]) (rest := []) ⟨hx, hb, hml, hown, hts⟩ (c_X9_van l D cI cJ cZ cB H.size aX aV aS aSv aL aH aR aRo aP 1 aVk aK aJ aQ tm k1 k2 k3 k4 k5 sf aLr lc vT vG vM vO vN vD vA aRd rc rl rm ro aPc pl (by assumption) _ rfl) (cwV 1 hts gL_goesOff_X9_van rfl rfl rfl (by decide +kernel) ⟨Nat.le_of_ble_eq_true rfl, Nat.le_of_ble_eq_true rfl⟩) hK hG hW.2.2 (xsubQ hW hA [0, 1, 2, 3, 4, 6, 7, 9, 10] rfl (by decide)) (va_recv hK hW.1 (ci := 9) (q0 := 0) rfl rfl) rfl hl.1 rfl (Nat.le_of_ble_eq_true rfl) dL_goesOff_2 ⟨Nat.le_of_ble_eq_true rfl, Nat.le_of_ble_eq_true rfl⟩)) (fun r1 hq => ?_)
  rw [hq]
  refine lv_i2l hx hb dL_goesOff_5 rfl ?_
  refine lv_ldc2 hx hb hown w1 dL_goesOff_6 ?_
  refine lv_ladd hx hb dL_goesOff_9 ?_
  refine lv_aload_n hx hb dL_goesOff_10 rfl (lv_at hl 0 rfl) ?_
  refine lv_bipush (v := 15) hx hb dL_goesOff_11 (by decide) ?_
  refine vp_callSi (va_Run.run (xrunV (As := [.int 15]) (rest := [.long ((f_X9_van 1 tm sf lc vT vG vM vO vN vD vA rc rl rm ro pl).toInt64 + 8000)]) ⟨hx, hb, hml, hown, hts⟩ (c_X9_van l D cI cJ cZ cB H.size aX aV aS aSv aL aH aR aRo aP 15 aVk aK aJ aQ tm k1 k2 k3 k4 k5 sf aLr lc vT vG vM vO vN vD vA aRd rc rl rm ro aPc pl (by assumption) _ rfl) (cwV 1 hts gL_goesOff_X9_van rfl rfl rfl (by decide +kernel) ⟨Nat.le_of_ble_eq_true rfl, Nat.le_of_ble_eq_true rfl⟩) hK hG hW.2.2 (xsubQ hW hA [0, 1, 2, 3, 4, 6, 7, 9, 10] rfl (by decide)) (va_recv hK hW.1 (ci := 9) (q0 := 0) rfl rfl) rfl hl.1 rfl (Nat.le_of_ble_eq_true rfl) dL_goesOff_13 ⟨Nat.le_of_ble_eq_true rfl, Nat.le_of_ble_eq_true rfl⟩)) (fun r2 hq => ?_)
  rw [hq]
  refine lv_i2l hx hb dL_goesOff_16 rfl ?_
  refine lv_lmul hx hb dL_goesOff_17 ?_
  refine lv_ldc2 hx hb hown w2 dL_goesOff_18 ?_
  refine lv_aload_n hx hb dL_goesOff_21 rfl (lv_at hl 0 rfl) ?_
  refine lv_iload_n hx hb dL_goesOff_22 rfl (lv_at hl 1 rfl) ?_
  refine lv_iconst (v := 0) hx hb dL_goesOff_23 (by decide) ?_
  refine vp_callSi (va_Run.run (xrunV (As := [.int a0, .int 0]) (rest := [.long 100, .long (((f_X9_van 1 tm sf lc vT vG vM vO vN vD vA rc rl rm ro pl).toInt64 + 8000) * (f_X9_van 15 tm sf lc vT vG vM vO vN vD vA rc rl rm ro pl).toInt64)]) ⟨hx, hb, hml, hown, hts⟩ (c_X9_box l D cI cJ cZ cB H.size aX aV aS aSv aL aLr aH a0 0 aVk aK aJ aP aQ aR tm k1 k2 k3 k4 k5 sf lc lr vT vG vM vO vN vD vA L qi qt qc qp (by assumption) (by assumption) _ rfl) (cwV 2 hts gL_goesOff_X9_box rfl rfl rfl (by decide +kernel) ⟨Nat.le_of_ble_eq_true rfl, Nat.le_of_ble_eq_true rfl⟩) hK hG hW.2.2 (xsubP hW hA [0, 1, 2, 3, 4, 5, 6] rfl (by decide)) (va_recv hK hW.1 (ci := 9) (q0 := 0) rfl rfl) rfl hl.1 rfl (Nat.le_of_ble_eq_true rfl) dL_goesOff_24 ⟨Nat.le_of_ble_eq_true rfl, Nat.le_of_ble_eq_true rfl⟩)) (fun r3 hq => ?_)
  rw [hq]
  refine lv_i2l hx hb dL_goesOff_27 rfl ?_
  refine lv_lmul hx hb dL_goesOff_28 ?_
  refine lv_ldiv hx hb dL_goesOff_29 (hdv) ?_
  refine lv_lstore_n (lv' := [(2, .long ((((f_X9_van 1 tm sf lc vT vG vM vO vN vD vA rc rl rm ro pl).toInt64 + 8000) * (f_X9_van 15 tm sf lc vT vG vM vO vN vD vA rc rl rm ro pl).toInt64) / (100 * (f_X9_box a0 0 sf lc lr vT qi qt qc qp).toInt64))), (0, .ref aX), (1, .int a0)]) hx hb dL_goesOff_30 rfl hl (by decide) rfl (fun ls hl => ?_)
  refine lv_lload_n hx hb dL_goesOff_31 rfl (lv_at hl 0 rfl) ?_
  refine lv_lconst (v := 0) hx hb dL_goesOff_32 (by decide) ?_
  refine xlc_ge (tgt := 41) hx hb dL_goesOff_33 dL_goesOff_34 (by decide) (fun c1 => ?_) (fun c1 => ?_)
  · skip
    refine lv_lload_n hx hb dL_goesOff_41 rfl (lv_at hl 0 rfl) ?_
    refine lv_aload_n hx hb dL_goesOff_42 rfl (lv_at hl 1 rfl) ?_
    refine lv_iload_n hx hb dL_goesOff_43 rfl (lv_at hl 2 rfl) ?_
    refine lv_iconst (v := 2) hx hb dL_goesOff_44 (by decide) ?_
    refine vp_callSi (va_Run.run (xrunV (As := [.int a0, .int 2]) (rest := [.long ((((f_X9_van 1 tm sf lc vT vG vM vO vN vD vA rc rl rm ro pl).toInt64 + 8000) * (f_X9_van 15 tm sf lc vT vG vM vO vN vD vA rc rl rm ro pl).toInt64) / (100 * (f_X9_box a0 0 sf lc lr vT qi qt qc qp).toInt64))]) ⟨hx, hb, hml, hown, hts⟩ (c_X9_box l D cI cJ cZ cB H.size aX aV aS aSv aL aLr aH a0 2 aVk aK aJ aP aQ aR tm k1 k2 k3 k4 k5 sf lc lr vT vG vM vO vN vD vA L qi qt qc qp (by assumption) (by assumption) _ rfl) (cwV 2 hts gL_goesOff_X9_box rfl rfl rfl (by decide +kernel) ⟨Nat.le_of_ble_eq_true rfl, Nat.le_of_ble_eq_true rfl⟩) hK hG hW.2.2 (xsubP hW hA [0, 1, 2, 3, 4, 5, 6] rfl (by decide)) (va_recv hK hW.1 (ci := 9) (q0 := 0) rfl rfl) rfl hl.1 rfl (Nat.le_of_ble_eq_true rfl) dL_goesOff_45 ⟨Nat.le_of_ble_eq_true rfl, Nat.le_of_ble_eq_true rfl⟩)) (fun r4 hq => ?_)
    rw [hq]
    refine lv_i2l hx hb dL_goesOff_48 rfl ?_
    refine xlc_le (tgt := 63) hx hb dL_goesOff_49 dL_goesOff_50 (by decide) (fun c2 => ?_) (fun c2 => ?_)
    · skip
      refine lv_lload_n hx hb dL_goesOff_63 rfl (lv_at hl 0 rfl) ?_
      have hF : f_L_goesOff a0 tm sf lc lr vT vG vM vO vN vD vA rc rl rm ro pl qi qt qc qp = (((f_X9_van 1 tm sf lc vT vG vM vO vN vD vA rc rl rm ro pl).toInt64 + 8000) * (f_X9_van 15 tm sf lc vT vG vM vO vN vD vA rc rl rm ro pl).toInt64) / (100 * (f_X9_box a0 0 sf lc lr vT qi qt qc qp).toInt64) := by
        rw [f_L_goesOff, if_pos c1, if_pos c2]
      obtain rfl : (((f_X9_van 1 tm sf lc vT vG vM vO vN vD vA rc rl rm ro pl).toInt64 + 8000) * (f_X9_van 15 tm sf lc vT vG vM vO vN vD vA rc rl rm ro pl).toInt64) / (100 * (f_X9_box a0 0 sf lc lr vT qi qt qc qp).toInt64) = o := hF.symm.trans ho
      exact W.lret (v := (((f_X9_van 1 tm sf lc vT vG vM vO vN vD vA rc rl rm ro pl).toInt64 + 8000) * (f_X9_van 15 tm sf lc vT vG vM vO vN vD vA rc rl rm ro pl).toInt64) / (100 * (f_X9_box a0 0 sf lc lr vT qi qt qc qp).toInt64)) hx hb hrt (fun t ht hM => ⟨_, rfl, rfl, ht.trans hH⟩) (fun q h => by cases h) dL_goesOff_64 hlocks
    · skip
      refine lv_aload_n hx hb dL_goesOff_53 rfl (lv_at hl 1 rfl) ?_
      refine lv_iload_n hx hb dL_goesOff_54 rfl (lv_at hl 2 rfl) ?_
      refine lv_iconst (v := 2) hx hb dL_goesOff_55 (by decide) ?_
      refine vp_callSi (va_Run.run (xrunV (As := [.int a0, .int 2]) (rest := []) ⟨hx, hb, hml, hown, hts⟩ (c_X9_box l D cI cJ cZ cB H.size aX aV aS aSv aL aLr aH a0 2 aVk aK aJ aP aQ aR tm k1 k2 k3 k4 k5 sf lc lr vT vG vM vO vN vD vA L qi qt qc qp (by assumption) (by assumption) _ rfl) (cwV 2 hts gL_goesOff_X9_box rfl rfl rfl (by decide +kernel) ⟨Nat.le_of_ble_eq_true rfl, Nat.le_of_ble_eq_true rfl⟩) hK hG hW.2.2 (xsubP hW hA [0, 1, 2, 3, 4, 5, 6] rfl (by decide)) (va_recv hK hW.1 (ci := 9) (q0 := 0) rfl rfl) rfl hl.1 rfl (Nat.le_of_ble_eq_true rfl) dL_goesOff_56 ⟨Nat.le_of_ble_eq_true rfl, Nat.le_of_ble_eq_true rfl⟩)) (fun r5 hq => ?_)
      rw [hq]
      refine lv_i2l hx hb dL_goesOff_59 rfl ?_
      refine lv_goto (tgt := 64) hx hb dL_goesOff_60 (by decide) ?_
      have hF : f_L_goesOff a0 tm sf lc lr vT vG vM vO vN vD vA rc rl rm ro pl qi qt qc qp = (f_X9_box a0 2 sf lc lr vT qi qt qc qp).toInt64 := by
        rw [f_L_goesOff, if_pos c1, if_neg c2]
      obtain rfl : (f_X9_box a0 2 sf lc lr vT qi qt qc qp).toInt64 = o := hF.symm.trans ho
      exact W.lret (v := (f_X9_box a0 2 sf lc lr vT qi qt qc qp).toInt64) hx hb hrt (fun t ht hM => ⟨_, rfl, rfl, ht.trans hH⟩) (fun q h => by cases h) dL_goesOff_64 hlocks
  · skip
    refine lv_lconst (v := 0) hx hb dL_goesOff_37 (by decide) ?_
    refine lv_goto (tgt := 64) hx hb dL_goesOff_38 (by decide) ?_
    have hF : f_L_goesOff a0 tm sf lc lr vT vG vM vO vN vD vA rc rl rm ro pl qi qt qc qp = 0 := by
      rw [f_L_goesOff, if_neg c1]
    obtain rfl : 0 = o := hF.symm.trans ho
    exact W.lret (v := 0) hx hb hrt (fun t ht hM => ⟨_, rfl, rfl, ht.trans hH⟩) (fun q h => by cases h) dL_goesOff_64 hlocks
