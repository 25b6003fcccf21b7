def f_X9_within (a0 : Int32) (a1 : Int32) (a2 : Int32) : Bool :=
  if a0 < a1 then
    false
  else
    if a2 < a0 then
      false
    else
      true
set_option maxHeartbeats 4000000 in
set_option maxRecDepth 100000 in
theorem c_X9_within (l : Launch) (D : va_G) (cI cJ cZ cB : ClassId) (sz : Nat) (a0 : Int32) (a1 : Int32) (a2 : Int32) (o : Bool) (ho : f_X9_within a0 a1 a2 = o) : Met l yX9_within wsX9_within ({ frames := 0, cells := 0, slots := 0, locals := 0 } : Room) (xPre D (xT cI cJ cZ cB) [.int a0, .int a1, .int a2] [] sz) (vp_Si (fun r => r = bi o)) 0 0 (fun _ => False) := by
  refine xofW (Qc := fun _ => vp_Si (fun r => r = bi o)) (fr := fun _ _ => False) (cc := cX9_within) (maxL := 3) (ret := (some .boolean)) (by decide) rfl (Nat.le_of_ble_eq_true rfl) ?_
  intro p e s m below meth c A ⟨hx, hb, hml, hown, hts⟩ hrt hlocks hnm hsz hK hW hA hG ls hl
  have hown : s.vm.findClass RX9 = some m.cls := hown
  have hl : lv_has ls 3 [(0, .int a0), (1, .int a1), (2, .int a2)] := hl
  obtain ⟨H, hH⟩ : ∃ H, H = s.heap := ⟨_, rfl⟩
  have hW : xW D A s.heap ([] ++ []) H [] := by rw [hH]; exact hW
  rw [← hH]
  refine lv_iload_n hx hb dX9_within_0 rfl (lv_at hl 0 rfl) ?_
  refine lv_iload_n hx hb dX9_within_1 rfl (lv_at hl 1 rfl) ?_
  refine lv_icmp_lt (tgt := 14) hx hb dX9_within_2 (by decide) (fun c1 => ?_) (fun c1 => ?_)
  · skip
    refine lv_iconst (v := 0) hx hb dX9_within_14 (by decide) ?_
    have hF : f_X9_within a0 a1 a2 = false := by
      rw [f_X9_within, if_pos c1]
    obtain rfl : false = o := hF.symm.trans ho
    exact W.zret (v := bi false) hx hb hrt (bi_nar _) (fun t ht hM => ⟨_, rfl, rfl, ht.trans hH⟩) (fun q h => by cases h) dX9_within_15 hlocks
  · skip
    refine lv_iload_n hx hb dX9_within_5 rfl (lv_at hl 0 rfl) ?_
    refine lv_iload_n hx hb dX9_within_6 rfl (lv_at hl 2 rfl) ?_
    refine lv_icmp_gt (tgt := 14) hx hb dX9_within_7 (by decide) (fun c2 => ?_) (fun c2 => ?_)
    · skip
      refine lv_iconst (v := 0) hx hb dX9_within_14 (by decide) ?_
      have hF : f_X9_within a0 a1 a2 = false := by
        rw [f_X9_within, if_neg c1, if_pos c2]
      obtain rfl : false = o := hF.symm.trans ho
      exact W.zret (v := bi false) hx hb hrt (bi_nar _) (fun t ht hM => ⟨_, rfl, rfl, ht.trans hH⟩) (fun q h => by cases h) dX9_within_15 hlocks
    · skip
      refine lv_iconst (v := 1) hx hb dX9_within_10 (by decide) ?_
      refine lv_goto (tgt := 15) hx hb dX9_within_11 (by decide) ?_
      have hF : f_X9_within a0 a1 a2 = true := by
        rw [f_X9_within, if_neg c1, if_neg c2]
      obtain rfl : true = o := hF.symm.trans ho
      exact W.zret (v := bi true) hx hb hrt (bi_nar _) (fun t ht hM => ⟨_, rfl, rfl, ht.trans hH⟩) (fun q h => by cases h) dX9_within_15 hlocks

def f_X9_quotient (a0 : Int64) (a1 : Int64) : Int64 :=
  if 1 ≤ a1 then
    a0 / a1
  else
    0
set_option maxHeartbeats 4000000 in
set_option maxRecDepth 100000 in
theorem c_X9_quotient (l : Launch) (D : va_G) (cI cJ cZ cB : ClassId) (sz : Nat) (a0 : Int64) (a1 : Int64) (o : Int64) (ho : f_X9_quotient a0 a1 = o) : Met l yX9_quotient wsX9_quotient ({ frames := 0, cells := 0, slots := 0, locals := 0 } : Room) (xPre D (xT cI cJ cZ cB) [.long a0, .long a1] [] sz) (vp_Sl (fun r => r = o)) 0 0 (fun _ => False) := by
  refine xofW (Qc := fun _ => vp_Sl (fun r => r = o)) (fr := fun _ _ => False) (cc := cX9_quotient) (maxL := 4) (ret := (some .long)) (by decide) rfl (Nat.le_of_ble_eq_true rfl) ?_
  intro p e s m below meth c A ⟨hx, hb, hml, hown, hts⟩ hrt hlocks hnm hsz hK hW hA hG ls hl
  have hown : s.vm.findClass RX9 = some m.cls := hown
  have hl : lv_has ls 4 [(0, .long a0), (2, .long a1)] := hl
  obtain ⟨H, hH⟩ : ∃ H, H = s.heap := ⟨_, rfl⟩
  have hW : xW D A s.heap ([] ++ []) H [] := by rw [hH]; exact hW
  rw [← hH]
  refine lv_lload_n hx hb dX9_quotient_0 rfl (lv_at hl 1 rfl) ?_
  refine lv_lconst (v := 1) hx hb dX9_quotient_1 (by decide) ?_
  refine xlc_ge (tgt := 10) hx hb dX9_quotient_2 dX9_quotient_3 (by decide) (fun c1 => ?_) (fun c1 => ?_)
  · skip
    refine lv_lload_n hx hb dX9_quotient_10 rfl (lv_at hl 0 rfl) ?_
    refine lv_lload_n hx hb dX9_quotient_11 rfl (lv_at hl 1 rfl) ?_
    refine lv_ldiv hx hb dX9_quotient_12 (fun h0 => by rw [h0] at c1; exact absurd c1 (by decide)) ?_
    have hF : f_X9_quotient a0 a1 = a0 / a1 := by
      rw [f_X9_quotient, if_pos c1]
    obtain rfl : a0 / a1 = o := hF.symm.trans ho
    exact W.lret (v := a0 / a1) hx hb hrt (fun t ht hM => ⟨_, rfl, rfl, ht.trans hH⟩) (fun q h => by cases h) dX9_quotient_13 hlocks
  · skip
    refine lv_lconst (v := 0) hx hb dX9_quotient_6 (by decide) ?_
    refine lv_goto (tgt := 13) hx hb dX9_quotient_7 (by decide) ?_
    have hF : f_X9_quotient a0 a1 = 0 := by
      rw [f_X9_quotient, if_neg c1]
    obtain rfl : 0 = o := hF.symm.trans ho
    exact W.lret (v := 0) hx hb hrt (fun t ht hM => ⟨_, rfl, rfl, ht.trans hH⟩) (fun q h => by cases h) dX9_quotient_13 hlocks

theorem within_iff {x lo hi : Int32} : f_X9_within x lo hi = true ↔ lo.toInt ≤ x.toInt ∧ x.toInt ≤ hi.toInt := by
  unfold f_X9_within
  rw [← Int32.le_iff_toInt_le, ← Int32.le_iff_toInt_le]
  by_cases h1 : x < lo
  · rw [if_pos h1]
    exact ⟨fun h => absurd h (by decide), fun h => absurd h1 (Int32.not_lt.mpr h.1)⟩
  · rw [if_neg h1]
    by_cases h2 : hi < x
    · rw [if_pos h2]
      exact ⟨fun h => absurd h (by decide), fun h => absurd h2 (Int32.not_lt.mpr h.2)⟩
    · rw [if_neg h2]
      exact ⟨fun _ => ⟨Int32.not_lt.mp h1, Int32.not_lt.mp h2⟩, fun _ => rfl⟩
theorem vp_w {x hi : Int32} {N : Nat} (h : f_X9_within x 0 hi = true) (hN : hi.toInt < N) : vp_in x N := by
  obtain ⟨h1, h2⟩ := within_iff.mp h
  have h0 : (0 : Int32).toInt = 0 := by decide
  exact vp_in_iff.mpr ⟨by omega, by omega⟩

def f_X6_value (a0 : Int32) (sf : Nat → Int32) : Int32 :=
  if (f_X9_within a0 0 10) = true then
    sf a0.toNatClampNeg
  else
    0
set_option maxHeartbeats 4000000 in
set_option maxRecDepth 100000 in
theorem c_X6_value (l : Launch) (D : va_G) (cI cJ cZ cB : ClassId) (sz : Nat) (aS : Nat) (aSv : Nat) (a0 : Int32) (sf : Nat → Int32) (o : Int32) (ho : f_X6_value a0 sf = o) : Met l yX6_value wsX6_value ({ frames := 1, cells := 0, slots := 0, locals := 22 } : Room) (xPre D (xT cI cJ cZ cB) [.ref aS, .int a0] [(aS, .inr (6, [.ref aSv])), (aSv, .inl (cI, 11, .inl sf))] sz) (vp_Si (fun r => r = o)) 0 0 (fun _ => False) := by
  refine xofW (Qc := fun _ => vp_Si (fun r => r = o)) (fr := fun _ _ => False) (cc := cX6_value) (maxL := 2) (ret := (some .int)) (by decide) rfl (Nat.le_of_ble_eq_true rfl) ?_
  intro p e s m below meth c A ⟨hx, hb, hml, hown, hts⟩ hrt hlocks hnm hsz hK hW hA hG ls hl
  have hown : s.vm.findClass RX6 = some m.cls := hown
  have hl : lv_has ls 2 [(0, .ref aS), (1, .int a0)] := hl
  obtain ⟨H, hH⟩ : ∃ H, H = s.heap := ⟨_, rfl⟩
  have hW : xW D A s.heap ([(aS, .inr (6, [.ref aSv])), (aSv, .inl (cI, 11, .inl sf))] ++ []) H [] := by rw [hH]; exact hW
  have w1 := hts (.initialized RX9) (by decide +kernel)
  have w2 := hts (.static yX9_within) (by decide +kernel)
  have w3 := hts (.fieldLink RX6 18 "DryIceLane$Settings" "values" "[I") (by decide +kernel)
  have hin6 : ∀ w ∈ u_ws RX6 TX6 1, w ∈ wsX6_value := by decide +kernel
  rw [← hH]
  refine lv_iload_n hx hb dX6_value_0 rfl (lv_at hl 1 rfl) ?_
  refine lv_iconst (v := 0) hx hb dX6_value_1 (by decide) ?_
  refine lv_bipush (v := 10) hx hb dX6_value_2 (by decide) ?_
  refine vp_callSi (va_Run.run (xrunSN (As := [.int a0, .int 0, .int 10]) (rest := []) ⟨hx, hb, hml, hown, hts⟩ (c_X9_within l D cI cJ cZ cB H.size a0 0 10 _ rfl) ⟨va_cnB (host := "DryIceLane") 3 hts gX6_value_X9_within_n29 rfl rfl rfl (hG.1.1 (.methodLinkNest RX6 29 yX9_within "DryIceLane") (by decide +kernel)) w1 (by decide +kernel) ⟨Nat.le_of_ble_eq_true rfl, Nat.le_of_ble_eq_true rfl⟩, w2, trivial⟩ hK hG hW.2.2 (xsubQ hW hA [] rfl (by decide)) rfl hl.1 rfl (Nat.le_of_ble_eq_true rfl) dX6_value_4 ⟨Nat.le_of_ble_eq_true rfl, Nat.le_of_ble_eq_true rfl⟩)) (fun r1 hq => ?_)
  subst hq
  refine xb_eq (tgt := 19) hx hb dX6_value_7 (by decide) (fun c1 => ?_) (fun c1 => ?_)
  · skip
    refine lv_iconst (v := 0) hx hb dX6_value_19 (by decide) ?_
    have hF : f_X6_value a0 sf = 0 := by
      rw [f_X6_value, if_neg c1]
    obtain rfl : 0 = o := hF.symm.trans ho
    exact W.iret (v := 0) hx hb hrt (fun t ht hM => ⟨_, rfl, rfl, ht.trans hH⟩) (fun q h => by cases h) dX6_value_20 hlocks
  · skip
    refine lv_aload_n hx hb dX6_value_10 rfl (lv_at hl 0 rfl) ?_
    refine xget (ci := 6) (C := RX6) (T := TX6) (N := 1) hx hb hts hin6 hown hK hW.1 0 rfl rfl 0 (by decide) w3 rfl dX6_value_11 ?_
    refine lv_iload_n hx hb dX6_value_14 rfl (lv_at hl 1 rfl) ?_
    refine xiald hx hb hK hW.1 1 0 rfl rfl (vp_w c1 (by decide)) a0.toNatClampNeg rfl (v := sf a0.toNatClampNeg) rfl dX6_value_15 ?_
    refine lv_goto (tgt := 20) hx hb dX6_value_16 (by decide) ?_
    have hF : f_X6_value a0 sf = sf a0.toNatClampNeg := by
      rw [f_X6_value, if_pos c1]
    obtain rfl : sf a0.toNatClampNeg = o := hF.symm.trans ho
    exact W.iret (v := sf a0.toNatClampNeg) hx hb hrt (fun t ht hM => ⟨_, rfl, rfl, ht.trans hH⟩) (fun q h => by cases h) dX6_value_20 hlocks

def f_X6_allows (a0 : Int32) (a1 : Int32) : Bool :=
  if (f_X9_within a0 0 10) = true then
    if (f_X9_within a1 (sleast a0.toNatClampNeg) (smost a0.toNatClampNeg)) = true then
      true
    else
      false
  else
    false
set_option maxHeartbeats 4000000 in
set_option maxRecDepth 100000 in
theorem c_X6_allows (l : Launch) (D : va_G) (cI cJ cZ cB : ClassId) (sz : Nat) (aS : Nat) (a0 : Int32) (a1 : Int32) (aSv : Nat) (o : Bool) (ho : f_X6_allows a0 a1 = o) : Met l yX6_allows wsX6_allows ({ frames := 1, cells := 0, slots := 0, locals := 22 } : Room) (xPre D (xT cI cJ cZ cB) [.ref aS, .int a0, .int a1] [(aS, .inr (6, [.ref aSv]))] sz) (vp_Si (fun r => r = bi o)) 0 0 (fun _ => False) := by
  refine xofW (Qc := fun _ => vp_Si (fun r => r = bi o)) (fr := fun _ _ => False) (cc := cX6_allows) (maxL := 3) (ret := (some .boolean)) (by decide) rfl (Nat.le_of_ble_eq_true rfl) ?_
  intro p e s m below meth c A ⟨hx, hb, hml, hown, hts⟩ hrt hlocks hnm hsz hK hW hA hG ls hl
  have hown : s.vm.findClass RX6 = some m.cls := hown
  have hl : lv_has ls 3 [(0, .ref aS), (1, .int a0), (2, .int a1)] := hl
  obtain ⟨H, hH⟩ : ∃ H, H = s.heap := ⟨_, rfl⟩
  have hW : xW D A s.heap ([(aS, .inr (6, [.ref aSv]))] ++ []) H [] := by rw [hH]; exact hW
  have w1 := hts (.initialized RX9) (by decide +kernel)
  have w2 := hts (.static yX9_within) (by decide +kernel)
  rw [← hH]
  refine lv_iload_n hx hb dX6_allows_0 rfl (lv_at hl 1 rfl) ?_
  refine lv_iconst (v := 0) hx hb dX6_allows_1 (by decide) ?_
  refine lv_bipush (v := 10) hx hb dX6_allows_2 (by decide) ?_
  refine vp_callSi (va_Run.run (xrunSN (As := [.int a0, .int 0, .int 10]) (rest := []) ⟨hx, hb, hml, hown, hts⟩ (c_X9_within l D cI cJ cZ cB H.size a0 0 10 _ rfl) ⟨va_cnB (host := "DryIceLane") 3 hts gX6_allows_X9_within_n29 rfl rfl rfl (hG.1.1 (.methodLinkNest RX6 29 yX9_within "DryIceLane") (by decide +kernel)) w1 (by decide +kernel) ⟨Nat.le_of_ble_eq_true rfl, Nat.le_of_ble_eq_true rfl⟩, w2, trivial⟩ hK hG hW.2.2 (xsubQ hW hA [] rfl (by decide)) rfl hl.1 rfl (Nat.le_of_ble_eq_true rfl) dX6_allows_4 ⟨Nat.le_of_ble_eq_true rfl, Nat.le_of_ble_eq_true rfl⟩)) (fun r1 hq => ?_)
  subst hq
  refine xb_eq (tgt := 31) hx hb dX6_allows_7 (by decide) (fun c1 => ?_) (fun c1 => ?_)
  · skip
    refine lv_iconst (v := 0) hx hb dX6_allows_31 (by decide) ?_
    have hF : f_X6_allows a0 a1 = false := by
      rw [f_X6_allows, if_neg c1]
    obtain rfl : false = o := hF.symm.trans ho
    exact W.zret (v := bi false) hx hb hrt (bi_nar _) (fun t ht hM => ⟨_, rfl, rfl, ht.trans hH⟩) (fun q h => by cases h) dX6_allows_32 hlocks
  · skip
    refine lv_iload_n hx hb dX6_allows_10 rfl (lv_at hl 2 rfl) ?_
    obtain ⟨tq2, tq2z, tq2t, tq2c⟩ := hG.2.2.1
    refine va_getsN hx hb tq2z hW.2.2 hown (va_Nw.use rfl (hG.1.1 (.fieldLinkNest RX6 33 "DryIceLane" "SETTING_LEAST" "[I" "DryIceLane") (by decide +kernel))) (fun _ h9 => h9) dX6_allows_11 ?_
    refine lv_iload_n hx hb dX6_allows_14 rfl (lv_at hl 1 rfl) ?_
    refine va_ti (v := .int (sleast a0.toNatClampNeg)) hx hb tq2t hW.2.2 (vp_w c1 (by decide)) rfl dX6_allows_15 ?_
    obtain ⟨tq3, tq3z, tq3t, tq3c⟩ := hG.2.2.2
    refine va_getsN hx hb tq3z hW.2.2 hown (va_Nw.use rfl (hG.1.1 (.fieldLinkNest RX6 36 "DryIceLane" "SETTING_MOST" "[I" "DryIceLane") (by decide +kernel))) (fun _ h9 => h9) dX6_allows_16 ?_
    refine lv_iload_n hx hb dX6_allows_19 rfl (lv_at hl 1 rfl) ?_
    refine va_ti (v := .int (smost a0.toNatClampNeg)) hx hb tq3t hW.2.2 (vp_w c1 (by decide)) rfl dX6_allows_20 ?_
    refine vp_callSi (va_Run.run (xrunSN (As := [.int a1, .int (sleast a0.toNatClampNeg), .int (smost a0.toNatClampNeg)]) (rest := []) ⟨hx, hb, hml, hown, hts⟩ (c_X9_within l D cI cJ cZ cB H.size a1 (sleast a0.toNatClampNeg) (smost a0.toNatClampNeg) _ rfl) ⟨va_cnB (host := "DryIceLane") 3 hts gX6_allows_X9_within_n29 rfl rfl rfl (hG.1.1 (.methodLinkNest RX6 29 yX9_within "DryIceLane") (by decide +kernel)) w1 (by decide +kernel) ⟨Nat.le_of_ble_eq_true rfl, Nat.le_of_ble_eq_true rfl⟩, w2, trivial⟩ hK hG hW.2.2 (xsubQ hW hA [] rfl (by decide)) rfl hl.1 rfl (Nat.le_of_ble_eq_true rfl) dX6_allows_21 ⟨Nat.le_of_ble_eq_true rfl, Nat.le_of_ble_eq_true rfl⟩)) (fun r4 hq => ?_)
    subst hq
    refine xb_eq (tgt := 31) hx hb dX6_allows_24 (by decide) (fun c2 => ?_) (fun c2 => ?_)
    · skip
      refine lv_iconst (v := 0) hx hb dX6_allows_31 (by decide) ?_
      have hF : f_X6_allows a0 a1 = false := by
        rw [f_X6_allows, if_pos c1, if_neg c2]
      obtain rfl : false = o := hF.symm.trans ho
      exact W.zret (v := bi false) hx hb hrt (bi_nar _) (fun t ht hM => ⟨_, rfl, rfl, ht.trans hH⟩) (fun q h => by cases h) dX6_allows_32 hlocks
    · skip
      refine lv_iconst (v := 1) hx hb dX6_allows_27 (by decide) ?_
      refine lv_goto (tgt := 32) hx hb dX6_allows_28 (by decide) ?_
      have hF : f_X6_allows a0 a1 = true := by
        rw [f_X6_allows, if_pos c1, if_pos c2]
      obtain rfl : true = o := hF.symm.trans ho
      exact W.zret (v := bi true) hx hb hrt (bi_nar _) (fun t ht hM => ⟨_, rfl, rfl, ht.trans hH⟩) (fun q h => by cases h) dX6_allows_32 hlocks

theorem allows_within {a0 a1 : Int32} (h : f_X6_allows a0 a1 = true) : f_X9_within a0 0 10 = true := by
  by_cases h1 : f_X9_within a0 0 10 = true
  · exact h1
  · rw [f_X6_allows, if_neg h1] at h; exact absurd h (by decide)

def f_X6_change (a0 : Int32) (a1 : Int32) (sf : Nat → Int32) : Int32 × (Nat → Int32) :=
  if (f_X6_allows a0 a1) = true then
    (f_X6_value a0 sf, upd sf a0.toNatClampNeg a1)
  else
    (f_X6_value a0 sf, sf)
set_option maxHeartbeats 4000000 in
set_option maxRecDepth 100000 in
theorem c_X6_change (l : Launch) (D : va_G) (cI cJ cZ cB : ClassId) (sz : Nat) (aS : Nat) (aSv : Nat) (a0 : Int32) (a1 : Int32) (sf : Nat → Int32) (o : Int32 × (Nat → Int32)) (ho : f_X6_change a0 a1 sf = o) : Met l yX6_change wsX6_change ({ frames := 2, cells := 0, slots := 0, locals := 44 } : Room) (xPre D (xT cI cJ cZ cB) [.ref aS, .int a0, .int a1] [(aS, .inr (6, [.ref aSv])), (aSv, .inl (cI, 11, .inl sf))] sz) (va_Qi (fun r (_ : Unit) => r = o.1) (fun _ t => xB D ([(aS, .inr (6, [.ref aSv])), (aSv, .inl (cI, 11, .inl o.2))]) (va_A [(aS, .inr (6, [.ref aSv])), (aSv, .inl (cI, 11, .inl sf))] sz) t) (va_A [(aS, .inr (6, [.ref aSv])), (aSv, .inl (cI, 11, .inl sf))] sz)) 0 0 (va_A [(aS, .inr (6, [.ref aSv])), (aSv, .inl (cI, 11, .inl sf))] sz) := by
  refine xofW (Qc := fun A0 => va_Qi (fun r (_ : Unit) => r = o.1) (fun _ t => xB D ([(aS, .inr (6, [.ref aSv])), (aSv, .inl (cI, 11, .inl o.2))]) A0 t) A0) (fr := fun A => A) (cc := cX6_change) (maxL := 4) (ret := (some .int)) (by decide) rfl (Nat.le_of_ble_eq_true rfl) ?_
  intro p e s m below meth c A ⟨hx, hb, hml, hown, hts⟩ hrt hlocks hnm hsz hK hW hA hG ls hl
  have hown : s.vm.findClass RX6 = some m.cls := hown
  have hl : lv_has ls 4 [(0, .ref aS), (1, .int a0), (2, .int a1)] := hl
  obtain ⟨H, hH⟩ : ∃ H, H = s.heap := ⟨_, rfl⟩
  have hW : xW D A s.heap ([(aS, .inr (6, [.ref aSv])), (aSv, .inl (cI, 11, .inl sf))] ++ []) H [] := by rw [hH]; exact hW
  have w1 := hts (.fieldLink RX6 18 "DryIceLane$Settings" "values" "[I") (by decide +kernel)
  have hin6 : ∀ w ∈ u_ws RX6 TX6 1, w ∈ wsX6_change := by decide +kernel
  rw [← hH]
  refine lv_aload_n hx hb dX6_change_0 rfl (lv_at hl 0 rfl) ?_
  refine lv_iload_n hx hb dX6_change_1 rfl (lv_at hl 1 rfl) ?_
  refine vp_callSi (va_Run.run (xrunV (As := [.int a0]) (rest := []) ⟨hx, hb, hml, hown, hts⟩ (c_X6_value l D cI cJ cZ cB H.size aS aSv a0 sf _ rfl) (cwV 1 hts gX6_change_X6_value rfl rfl rfl (by decide +kernel) ⟨Nat.le_of_ble_eq_true rfl, Nat.le_of_ble_eq_true rfl⟩) hK hG hW.2.2 (xsubQ hW hA [0, 1] rfl (by decide)) (va_recv hK hW.1 (ci := 6) (q0 := 0) rfl rfl) rfl hl.1 rfl (Nat.le_of_ble_eq_true rfl) dX6_change_2 ⟨Nat.le_of_ble_eq_true rfl, Nat.le_of_ble_eq_true rfl⟩)) (fun r1 hq => ?_)
  subst hq
  refine lv_istore_n (lv' := [(3, .int (f_X6_value a0 sf)), (0, .ref aS), (1, .int a0), (2, .int a1)]) hx hb dX6_change_5 rfl hl (by decide) rfl (fun ls hl => ?_)
  refine lv_aload_n hx hb dX6_change_6 rfl (lv_at hl 1 rfl) ?_
  refine lv_iload_n hx hb dX6_change_7 rfl (lv_at hl 2 rfl) ?_
  refine lv_iload_n hx hb dX6_change_8 rfl (lv_at hl 3 rfl) ?_
  refine vp_callSi (va_Run.run (xrunV (As := [.int a0, .int a1]) (rest := []) ⟨hx, hb, hml, hown, hts⟩ (c_X6_allows l D cI cJ cZ cB H.size aS a0 a1 aSv _ rfl) (cwV 2 hts gX6_change_X6_allows rfl rfl rfl (by decide +kernel) ⟨Nat.le_of_ble_eq_true rfl, Nat.le_of_ble_eq_true rfl⟩) hK hG hW.2.2 (xsubQ hW hA [0] rfl (by decide)) (va_recv hK hW.1 (ci := 6) (q0 := 0) rfl rfl) rfl hl.1 rfl (Nat.le_of_ble_eq_true rfl) dX6_change_9 ⟨Nat.le_of_ble_eq_true rfl, Nat.le_of_ble_eq_true rfl⟩)) (fun r2 hq => ?_)
  subst hq
  refine xb_eq (tgt := 22) hx hb dX6_change_12 (by decide) (fun c1 => ?_) (fun c1 => ?_)
  · skip
    refine lv_iload_n hx hb dX6_change_22 rfl (lv_at hl 0 rfl) ?_
    have hF : f_X6_change a0 a1 sf = (f_X6_value a0 sf, sf) := by
      rw [f_X6_change, if_neg c1]
    obtain rfl : (f_X6_value a0 sf, sf) = o := hF.symm.trans ho
    exact W.iret (v := f_X6_value a0 sf) hx hb hrt (fun t ht hM => ⟨⟨_, (), rfl, rfl, ⟨by rw [ht]; exact hW.1, hW.2.1⟩⟩, hW.2.2.F ht⟩) hW.2.2.2.2 dX6_change_23 hlocks
  · skip
    refine lv_aload_n hx hb dX6_change_15 rfl (lv_at hl 1 rfl) ?_
    refine xget (ci := 6) (C := RX6) (T := TX6) (N := 1) hx hb hts hin6 hown hK hW.1 0 rfl rfl 0 (by decide) w1 rfl dX6_change_16 ?_
    refine lv_iload_n hx hb dX6_change_19 rfl (lv_at hl 2 rfl) ?_
    refine lv_iload_n hx hb dX6_change_20 rfl (lv_at hl 3 rfl) ?_
    refine xiast hx hb hK hW 1 0 rfl (Nat.le_of_ble_eq_true rfl) rfl (vp_w (allows_within c1) (by decide)) a0.toNatClampNeg rfl dX6_change_21 (fun H locs hW => ?_)
    have hW : xW D A s.heap ([(aS, .inr (6, [.ref aSv])), (aSv, .inl (cI, 11, .inl (upd sf a0.toNatClampNeg a1)))] ++ []) H _ := hW
    refine lv_iload_n hx hb dX6_change_22 rfl (lv_at hl 0 rfl) ?_
    have hF : f_X6_change a0 a1 sf = (f_X6_value a0 sf, upd sf a0.toNatClampNeg a1) := by
      rw [f_X6_change, if_pos c1]
    obtain rfl : (f_X6_value a0 sf, upd sf a0.toNatClampNeg a1) = o := hF.symm.trans ho
    exact W.iret (v := f_X6_value a0 sf) hx hb hrt (fun t ht hM => ⟨⟨_, (), rfl, rfl, ⟨by rw [ht]; exact hW.1, hW.2.1⟩⟩, hW.2.2.F ht⟩) hW.2.2.2.2 dX6_change_23 hlocks

def f_X6_becomeLike (sf : Nat → Int32) (sfb : Nat → Int32) : (Nat → Int32) :=
  va_cpy sfb sf 0 0 11
set_option maxHeartbeats 4000000 in
set_option maxRecDepth 100000 in
theorem c_X6_becomeLike (l : Launch) (D : va_G) (cI cJ cZ cB : ClassId) (sz : Nat) (aS : Nat) (aSv : Nat) (aSb : Nat) (aSvb : Nat) (sf : Nat → Int32) (sfb : Nat → Int32) (o : (Nat → Int32)) (ho : f_X6_becomeLike sf sfb = o) : Met l yX6_becomeLike wsX6_becomeLike ({ frames := 1, cells := 0, slots := 0, locals := 60 } : Room) (xPre D (xT cI cJ cZ cB) [.ref aS, .ref aSb] [(aS, .inr (6, [.ref aSv])), (aSv, .inl (cI, 11, .inl sf)), (aSb, .inr (6, [.ref aSvb])), (aSvb, .inl (cI, 11, .inl sfb))] sz) (va_Qv (fun _ : Unit => True) (fun _ t => xB D ([(aS, .inr (6, [.ref aSv])), (aSv, .inl (cI, 11, .inl o)), (aSb, .inr (6, [.ref aSvb])), (aSvb, .inl (cI, 11, .inl sfb))]) (va_A [(aS, .inr (6, [.ref aSv])), (aSv, .inl (cI, 11, .inl sf)), (aSb, .inr (6, [.ref aSvb])), (aSvb, .inl (cI, 11, .inl sfb))] sz) t) (va_A [(aS, .inr (6, [.ref aSv])), (aSv, .inl (cI, 11, .inl sf)), (aSb, .inr (6, [.ref aSvb])), (aSvb, .inl (cI, 11, .inl sfb))] sz)) 0 0 (va_A [(aS, .inr (6, [.ref aSv])), (aSv, .inl (cI, 11, .inl sf)), (aSb, .inr (6, [.ref aSvb])), (aSvb, .inl (cI, 11, .inl sfb))] sz) := by
  refine xofW (Qc := fun A0 => va_Qv (fun _ : Unit => True) (fun _ t => xB D ([(aS, .inr (6, [.ref aSv])), (aSv, .inl (cI, 11, .inl o)), (aSb, .inr (6, [.ref aSvb])), (aSvb, .inl (cI, 11, .inl sfb))]) A0 t) A0) (fr := fun A => A) (cc := cX6_becomeLike) (maxL := 2) (ret := none) (by decide) rfl (Nat.le_of_ble_eq_true rfl) ?_
  intro p e s m below meth c A ⟨hx, hb, hml, hown, hts⟩ hrt hlocks hnm hsz hK hW hA hG ls hl
  have hown : s.vm.findClass RX6 = some m.cls := hown
  have hl : lv_has ls 2 [(0, .ref aS), (1, .ref aSb)] := hl
  obtain ⟨H, hH⟩ : ∃ H, H = s.heap := ⟨_, rfl⟩
  have hW : xW D A s.heap ([(aS, .inr (6, [.ref aSv])), (aSv, .inl (cI, 11, .inl sf)), (aSb, .inr (6, [.ref aSvb])), (aSvb, .inl (cI, 11, .inl sfb))] ++ []) H [] := by rw [hH]; exact hW
  have w1 := hts (.fieldLink RX6 18 "DryIceLane$Settings" "values" "[I") (by decide +kernel)
  have hin6 : ∀ w ∈ u_ws RX6 TX6 1, w ∈ wsX6_becomeLike := by decide +kernel
  have w3 := hts (.methodLink RX6 23 arraycopyName) (by decide +kernel)
  have w4 := hts (.native arraycopyName) (by decide +kernel)
  have w5 := hts (.static arraycopyName) (by decide +kernel)
  have w6 := hts (.initialized "java/lang/System") (by decide +kernel)
  rw [← hH]
  refine lv_aload_n hx hb dX6_becomeLike_0 rfl (lv_at hl 1 rfl) ?_
  refine xget (ci := 6) (C := RX6) (T := TX6) (N := 1) hx hb hts hin6 hown hK hW.1 2 rfl rfl 0 (by decide) w1 rfl dX6_becomeLike_1 ?_
  refine lv_iconst (v := 0) hx hb dX6_becomeLike_4 (by decide) ?_
  refine lv_aload_n hx hb dX6_becomeLike_5 rfl (lv_at hl 0 rfl) ?_
  refine xget (ci := 6) (C := RX6) (T := TX6) (N := 1) hx hb hts hin6 hown hK hW.1 0 rfl rfl 0 (by decide) w1 rfl dX6_becomeLike_6 ?_
  refine lv_iconst (v := 0) hx hb dX6_becomeLike_9 (by decide) ?_
  refine lv_aload_n hx hb dX6_becomeLike_10 rfl (lv_at hl 0 rfl) ?_
  refine xget (ci := 6) (C := RX6) (T := TX6) (N := 1) hx hb hts hin6 hown hK hW.1 0 rfl rfl 0 (by decide) w1 rfl dX6_becomeLike_11 ?_
  refine va_alen (v := 11) hx hb hK hW.1 1 0 rfl rfl rfl dX6_becomeLike_14 ?_
  refine xcopy hx hb (by rw [hml]; exact hl.1.symm) hown w3 w4 w5 w6 hK hW 3 1 0 0 rfl rfl (Nat.le_of_ble_eq_true rfl) rfl rfl (sp := 0) (dp := 0) (n := 11) (by decide) (by decide) (by decide) (by decide) (by decide) (Nat.le_of_ble_eq_true rfl) (Nat.le_of_ble_eq_true rfl) dX6_becomeLike_15 (fun H locs hW => ?_)
  have hW : xW D A s.heap ([(aS, .inr (6, [.ref aSv])), (aSv, .inl (cI, 11, .inl (va_cpy sfb sf 0 0 11))), (aSb, .inr (6, [.ref aSvb])), (aSvb, .inl (cI, 11, .inl sfb))] ++ []) H _ := hW
  have hF : f_X6_becomeLike sf sfb = va_cpy sfb sf 0 0 11 := by
    rw [f_X6_becomeLike]
  obtain rfl : va_cpy sfb sf 0 0 11 = o := hF.symm.trans ho
  exact W.vret hx hb hrt (fun t ht hM => ⟨⟨(), rfl, trivial, ⟨by rw [ht]; exact hW.1, hW.2.1⟩⟩, hW.2.2.F ht⟩) hW.2.2.2.2 dX6_becomeLike_18 hlocks

def f_X0_becomeLike (aB : Nat) (aBb : Nat) (qi : Nat → Int32) (qt : Nat → Int32) (qc : Nat → Int32) (qp : Nat → Int32) : (Nat → Int32) × (Nat → Int32) × (Nat → Int32) × (Nat → Int32) :=
  (va_up qi aB (qi aBb), va_up qt aB (qt aBb), va_up qc aB (qc aBb), va_up qp aB (qp aBb))
set_option maxHeartbeats 4000000 in
set_option maxRecDepth 100000 in
theorem c_X0_becomeLike (l : Launch) (D : va_G) (cI cJ cZ cB : ClassId) (sz : Nat) (aB : Nat) (aBb : Nat) (L : List Nat) (qi : Nat → Int32) (qt : Nat → Int32) (qc : Nat → Int32) (qp : Nat → Int32) (hm : aB ∈ L) (hmb : aBb ∈ L) (o : (Nat → Int32) × (Nat → Int32) × (Nat → Int32) × (Nat → Int32)) (ho : f_X0_becomeLike aB aBb qi qt qc qp = o) : Met l yX0_becomeLike wsX0_becomeLike ({ frames := 0, cells := 0, slots := 0, locals := 0 } : Room) (xPre D (xT cI cJ cZ cB) [.ref aB, .ref aBb] ([] ++ bxP L qi qt qc qp) sz) (va_Qv (fun _ : Unit => True) (fun _ t => xB D (([] : va_W) ++ bxP L o.1 o.2.1 o.2.2.1 o.2.2.2) (va_A ([] ++ bxP L qi qt qc qp) sz) t) (va_A ([] ++ bxP L qi qt qc qp) sz)) 0 0 (va_A ([] ++ bxP L qi qt qc qp) sz) := by
  refine xofW (Qc := fun A0 => va_Qv (fun _ : Unit => True) (fun _ t => xB D (([] : va_W) ++ bxP L o.1 o.2.1 o.2.2.1 o.2.2.2) A0 t) A0) (fr := fun A => A) (cc := cX0_becomeLike) (maxL := 2) (ret := none) (by decide) rfl (Nat.le_of_ble_eq_true rfl) ?_
  intro p e s m below meth c A ⟨hx, hb, hml, hown, hts⟩ hrt hlocks hnm hsz hK hW hA hG ls hl
  have hown : s.vm.findClass RX0 = some m.cls := hown
  have hl : lv_has ls 2 [(0, .ref aB), (1, .ref aBb)] := hl
  obtain ⟨H, hH⟩ : ∃ H, H = s.heap := ⟨_, rfl⟩
  have hW : xW D A s.heap ([] ++ bxP L qi qt qc qp) H [] := by rw [hH]; exact hW
  have w1 := hts (.fieldLink RX0 9 "DryIceLane$Box" "insulation" "I") (by decide +kernel)
  have hin0 : ∀ w ∈ u_ws RX0 TX0 4, w ∈ wsX0_becomeLike := by decide +kernel
  have w3 := hts (.fieldLink RX0 15 "DryIceLane$Box" "tare" "I") (by decide +kernel)
  have w4 := hts (.fieldLink RX0 18 "DryIceLane$Box" "ice" "I") (by decide +kernel)
  have w5 := hts (.fieldLink RX0 21 "DryIceLane$Box" "paper" "I") (by decide +kernel)
  rw [← hH]
  refine lv_aload_n hx hb dX0_becomeLike_0 rfl (lv_at hl 0 rfl) ?_
  refine lv_aload_n hx hb dX0_becomeLike_1 rfl (lv_at hl 1 rfl) ?_
  refine xbget0 hx hb hts hin0 hown hK hW (hmb) w1 dX0_becomeLike_2 ?_
  refine xbput0 hx hb hts hin0 hown hK hW (hm) w1 dX0_becomeLike_5 (fun H locs hW => ?_)
  have hW : xW D A s.heap ([] ++ bxP L (va_up qi aB (qi aBb)) qt qc qp) H _ := hW
  refine lv_aload_n hx hb dX0_becomeLike_8 rfl (lv_at hl 0 rfl) ?_
  refine lv_aload_n hx hb dX0_becomeLike_9 rfl (lv_at hl 1 rfl) ?_
  refine xbget1 hx hb hts hin0 hown hK hW (hmb) w3 dX0_becomeLike_10 ?_
  refine xbput1 hx hb hts hin0 hown hK hW (hm) w3 dX0_becomeLike_13 (fun H locs hW => ?_)
  have hW : xW D A s.heap ([] ++ bxP L (va_up qi aB (qi aBb)) (va_up qt aB (qt aBb)) qc qp) H _ := hW
  refine lv_aload_n hx hb dX0_becomeLike_16 rfl (lv_at hl 0 rfl) ?_
  refine lv_aload_n hx hb dX0_becomeLike_17 rfl (lv_at hl 1 rfl) ?_
  refine xbget2 hx hb hts hin0 hown hK hW (hmb) w4 dX0_becomeLike_18 ?_
  refine xbput2 hx hb hts hin0 hown hK hW (hm) w4 dX0_becomeLike_21 (fun H locs hW => ?_)
  have hW : xW D A s.heap ([] ++ bxP L (va_up qi aB (qi aBb)) (va_up qt aB (qt aBb)) (va_up qc aB (qc aBb)) qp) H _ := hW
  refine lv_aload_n hx hb dX0_becomeLike_24 rfl (lv_at hl 0 rfl) ?_
  refine lv_aload_n hx hb dX0_becomeLike_25 rfl (lv_at hl 1 rfl) ?_
  refine xbget3 hx hb hts hin0 hown hK hW (hmb) w5 dX0_becomeLike_26 ?_
  refine xbput3 hx hb hts hin0 hown hK hW (hm) w5 dX0_becomeLike_29 (fun H locs hW => ?_)
  have hW : xW D A s.heap ([] ++ bxP L (va_up qi aB (qi aBb)) (va_up qt aB (qt aBb)) (va_up qc aB (qc aBb)) (va_up qp aB (qp aBb))) H _ := hW
  have hF : f_X0_becomeLike aB aBb qi qt qc qp = (va_up qi aB (qi aBb), va_up qt aB (qt aBb), va_up qc aB (qc aBb), va_up qp aB (qp aBb)) := by
    rw [f_X0_becomeLike]
  obtain rfl : (va_up qi aB (qi aBb), va_up qt aB (qt aBb), va_up qc aB (qc aBb), va_up qp aB (qp aBb)) = o := hF.symm.trans ho
  exact W.vret hx hb hrt (fun t ht hM => ⟨⟨(), rfl, trivial, ⟨by rw [ht]; exact hW.1, hW.2.1⟩⟩, hW.2.2.F ht⟩) hW.2.2.2.2 dX0_becomeLike_32 hlocks

def f_X0_goingOff (aB : Nat) (a0 : Int32) (a1 : Int32) (qi : Nat → Int32) (qc : Nat → Int32) : Int32 :=
  (if (qc aB).toInt64 < (if 0 < (f_X9_quotient ((a0 - (-8000)).toInt64 * a1.toInt64) (100 * (qi aB).toInt64)) then (f_X9_quotient ((a0 - (-8000)).toInt64 * a1.toInt64) (100 * (qi aB).toInt64)) else 0) then (qc aB).toInt64 else (if 0 < (f_X9_quotient ((a0 - (-8000)).toInt64 * a1.toInt64) (100 * (qi aB).toInt64)) then (f_X9_quotient ((a0 - (-8000)).toInt64 * a1.toInt64) (100 * (qi aB).toInt64)) else 0)).toInt32
set_option maxHeartbeats 4000000 in
set_option maxRecDepth 100000 in
theorem c_X0_goingOff (l : Launch) (D : va_G) (cI cJ cZ cB : ClassId) (sz : Nat) (aB : Nat) (a0 : Int32) (a1 : Int32) (L : List Nat) (qi : Nat → Int32) (qt : Nat → Int32) (qc : Nat → Int32) (qp : Nat → Int32) (hm : aB ∈ L) (o : Int32) (ho : f_X0_goingOff aB a0 a1 qi qc = o) : Met l yX0_goingOff wsX0_goingOff ({ frames := 1, cells := 0, slots := 0, locals := 23 } : Room) (xPre D (xT cI cJ cZ cB) [.ref aB, .int a0, .int a1] ([] ++ bxP L qi qt qc qp) sz) (vp_Si (fun r => r = o)) 0 0 (fun _ => False) := by
  refine xofW (Qc := fun _ => vp_Si (fun r => r = o)) (fr := fun _ _ => False) (cc := cX0_goingOff) (maxL := 5) (ret := (some .int)) (by decide) rfl (Nat.le_of_ble_eq_true rfl) ?_
  intro p e s m below meth c A ⟨hx, hb, hml, hown, hts⟩ hrt hlocks hnm hsz hK hW hA hG ls hl
  have hown : s.vm.findClass RX0 = some m.cls := hown
  have hl : lv_has ls 5 [(0, .ref aB), (1, .int a0), (2, .int a1)] := hl
  obtain ⟨H, hH⟩ : ∃ H, H = s.heap := ⟨_, rfl⟩
  have hW : xW D A s.heap ([] ++ bxP L qi qt qc qp) H [] := by rw [hH]; exact hW
  have w1 := hts (.constantLong RX0 24 (100)) (by decide +kernel)
  have w2 := hts (.fieldLink RX0 9 "DryIceLane$Box" "insulation" "I") (by decide +kernel)
  have hin0 : ∀ w ∈ u_ws RX0 TX0 4, w ∈ wsX0_goingOff := by decide +kernel
  have w4 := hts (.initialized RX9) (by decide +kernel)
  have w5 := hts (.static yX9_quotient) (by decide +kernel)
  have w6 := hts (.methodLink RX0 30 Lib.MathLoose.max_long.x) (by decide +kernel)
  have w7 := hts (.static Lib.MathLoose.max_long.x) (by decide +kernel)
  have w8 := hts (.initialized "java/lang/Math") (by decide +kernel)
  have w9 := hts (.code Lib.MathLoose.max_long.x Lib.MathLoose.max_long.code 4 (some .long)) (by decide +kernel)
  have w10 := hts (.fieldLink RX0 18 "DryIceLane$Box" "ice" "I") (by decide +kernel)
  have w11 := hts (.methodLink RX0 35 Lib.MathLoose.min_long.x) (by decide +kernel)
  have w12 := hts (.static Lib.MathLoose.min_long.x) (by decide +kernel)
  have w13 := hts (.code Lib.MathLoose.min_long.x Lib.MathLoose.min_long.code 4 (some .long)) (by decide +kernel)
  rw [← hH]
  refine lv_iload_n hx hb dX0_goingOff_0 rfl (lv_at hl 1 rfl) ?_
  refine lv_sipush (v := -8000) hx hb dX0_goingOff_1 (by decide) ?_
  refine lv_isub hx hb dX0_goingOff_4 ?_
  refine lv_i2l hx hb dX0_goingOff_5 rfl ?_
  refine lv_iload_n hx hb dX0_goingOff_6 rfl (lv_at hl 2 rfl) ?_
  refine lv_i2l hx hb dX0_goingOff_7 rfl ?_
  refine lv_lmul hx hb dX0_goingOff_8 ?_
  refine lv_ldc2 hx hb hown w1 dX0_goingOff_9 ?_
  refine lv_aload_n hx hb dX0_goingOff_12 rfl (lv_at hl 0 rfl) ?_
  refine xbget0 hx hb hts hin0 hown hK hW (hm) w2 dX0_goingOff_13 ?_
  refine lv_i2l hx hb dX0_goingOff_16 rfl ?_
  refine lv_lmul hx hb dX0_goingOff_17 ?_
  refine vp_callSl (va_Run.run (xrunSN (As := [.long ((a0 - (-8000)).toInt64 * a1.toInt64), .long (100 * (qi aB).toInt64)]) (rest := []) ⟨hx, hb, hml, hown, hts⟩ (c_X9_quotient l D cI cJ cZ cB H.size ((a0 - (-8000)).toInt64 * a1.toInt64) (100 * (qi aB).toInt64) _ rfl) ⟨va_cnB (host := "DryIceLane") 2 hts gX0_goingOff_X9_quotient_n26 rfl rfl rfl (hG.1.1 (.methodLinkNest RX0 26 yX9_quotient "DryIceLane") (by decide +kernel)) w4 (by decide +kernel) ⟨Nat.le_of_ble_eq_true rfl, Nat.le_of_ble_eq_true rfl⟩, w5, trivial⟩ hK hG hW.2.2 (xsubQ hW hA [] rfl (by decide)) rfl hl.1 rfl (Nat.le_of_ble_eq_true rfl) dX0_goingOff_18 ⟨Nat.le_of_ble_eq_true rfl, Nat.le_of_ble_eq_true rfl⟩)) (fun r1 hq => ?_)
  subst hq
  refine lv_lstore_n (lv' := [(3, .long (f_X9_quotient ((a0 - (-8000)).toInt64 * a1.toInt64) (100 * (qi aB).toInt64))), (0, .ref aB), (1, .int a0), (2, .int a1)]) hx hb dX0_goingOff_21 rfl hl (by decide) rfl (fun ls hl => ?_)
  refine lv_lload_n hx hb dX0_goingOff_22 rfl (lv_at hl 0 rfl) ?_
  refine lv_lconst (v := 0) hx hb dX0_goingOff_23 (by decide) ?_
  refine va_mmax_long hx hb (by rw [hml]; exact hl.1.symm) hown w6 w7 w8 w9 (Nat.le_of_ble_eq_true rfl) (Nat.le_of_ble_eq_true rfl) (by omega) (by omega) dX0_goingOff_24 ?_
  refine lv_aload_n hx hb dX0_goingOff_27 rfl (lv_at hl 1 rfl) ?_
  refine xbget2 hx hb hts hin0 hown hK hW (hm) w10 dX0_goingOff_28 ?_
  refine lv_i2l hx hb dX0_goingOff_31 rfl ?_
  refine va_mmin_long hx hb (by rw [hml]; exact hl.1.symm) hown w11 w12 w8 w13 (Nat.le_of_ble_eq_true rfl) (Nat.le_of_ble_eq_true rfl) (by omega) (by omega) dX0_goingOff_32 ?_
  refine lv_l2i hx hb dX0_goingOff_35 rfl ?_
  have hF : f_X0_goingOff aB a0 a1 qi qc = (if (qc aB).toInt64 < (if 0 < (f_X9_quotient ((a0 - (-8000)).toInt64 * a1.toInt64) (100 * (qi aB).toInt64)) then (f_X9_quotient ((a0 - (-8000)).toInt64 * a1.toInt64) (100 * (qi aB).toInt64)) else 0) then (qc aB).toInt64 else (if 0 < (f_X9_quotient ((a0 - (-8000)).toInt64 * a1.toInt64) (100 * (qi aB).toInt64)) then (f_X9_quotient ((a0 - (-8000)).toInt64 * a1.toInt64) (100 * (qi aB).toInt64)) else 0)).toInt32 := by
    rw [f_X0_goingOff]
  obtain rfl : (if (qc aB).toInt64 < (if 0 < (f_X9_quotient ((a0 - (-8000)).toInt64 * a1.toInt64) (100 * (qi aB).toInt64)) then (f_X9_quotient ((a0 - (-8000)).toInt64 * a1.toInt64) (100 * (qi aB).toInt64)) else 0) then (qc aB).toInt64 else (if 0 < (f_X9_quotient ((a0 - (-8000)).toInt64 * a1.toInt64) (100 * (qi aB).toInt64)) then (f_X9_quotient ((a0 - (-8000)).toInt64 * a1.toInt64) (100 * (qi aB).toInt64)) else 0)).toInt32 = o := hF.symm.trans ho
  exact W.iret (v := (if (qc aB).toInt64 < (if 0 < (f_X9_quotient ((a0 - (-8000)).toInt64 * a1.toInt64) (100 * (qi aB).toInt64)) then (f_X9_quotient ((a0 - (-8000)).toInt64 * a1.toInt64) (100 * (qi aB).toInt64)) else 0) then (qc aB).toInt64 else (if 0 < (f_X9_quotient ((a0 - (-8000)).toInt64 * a1.toInt64) (100 * (qi aB).toInt64)) then (f_X9_quotient ((a0 - (-8000)).toInt64 * a1.toInt64) (100 * (qi aB).toInt64)) else 0)).toInt32) hx hb hrt (fun t ht hM => ⟨_, rfl, rfl, ht.trans hH⟩) (fun q h => by cases h) dX0_goingOff_36 hlocks

def f_X0_take (aB : Nat) (a0 : Int32) (qc : Nat → Int32) (qp : Nat → Int32) : (Nat → Int32) × (Nat → Int32) :=
  (va_up qc aB ((qc aB) - a0), va_up qp aB (if ((qp aB) - a0) < 0 then 0 else ((qp aB) - a0)))
set_option maxHeartbeats 4000000 in
set_option maxRecDepth 100000 in
theorem c_X0_take (l : Launch) (D : va_G) (cI cJ cZ cB : ClassId) (sz : Nat) (aB : Nat) (a0 : Int32) (L : List Nat) (qi : Nat → Int32) (qt : Nat → Int32) (qc : Nat → Int32) (qp : Nat → Int32) (hm : aB ∈ L) (o : (Nat → Int32) × (Nat → Int32)) (ho : f_X0_take aB a0 qc qp = o) : Met l yX0_take wsX0_take ({ frames := 1, cells := 0, slots := 0, locals := 14 } : Room) (xPre D (xT cI cJ cZ cB) [.ref aB, .int a0] ([] ++ bxP L qi qt qc qp) sz) (va_Qv (fun _ : Unit => True) (fun _ t => xB D (([] : va_W) ++ bxP L qi qt o.1 o.2) (va_A ([] ++ bxP L qi qt qc qp) sz) t) (va_A ([] ++ bxP L qi qt qc qp) sz)) 0 0 (va_A ([] ++ bxP L qi qt qc qp) sz) := by
  refine xofW (Qc := fun A0 => va_Qv (fun _ : Unit => True) (fun _ t => xB D (([] : va_W) ++ bxP L qi qt o.1 o.2) A0 t) A0) (fr := fun A => A) (cc := cX0_take) (maxL := 2) (ret := none) (by decide) rfl (Nat.le_of_ble_eq_true rfl) ?_
  intro p e s m below meth c A ⟨hx, hb, hml, hown, hts⟩ hrt hlocks hnm hsz hK hW hA hG ls hl
  have hown : s.vm.findClass RX0 = some m.cls := hown
  have hl : lv_has ls 2 [(0, .ref aB), (1, .int a0)] := hl
  obtain ⟨H, hH⟩ : ∃ H, H = s.heap := ⟨_, rfl⟩
  have hW : xW D A s.heap ([] ++ bxP L qi qt qc qp) H [] := by rw [hH]; exact hW
  have w1 := hts (.fieldLink RX0 18 "DryIceLane$Box" "ice" "I") (by decide +kernel)
  have hin0 : ∀ w ∈ u_ws RX0 TX0 4, w ∈ wsX0_take := by decide +kernel
  have w3 := hts (.fieldLink RX0 21 "DryIceLane$Box" "paper" "I") (by decide +kernel)
  have w4 := hts (.methodLink RX0 38 Lib.Math.max.name) (by decide +kernel)
  have w5 := hts (.static Lib.Math.max.name) (by decide +kernel)
  have w6 := hts (.initialized "java/lang/Math") (by decide +kernel)
  have w7 := hts (.code Lib.Math.max.name Lib.Math.max.code 2 (some .int)) (by decide +kernel)
  rw [← hH]
  refine lv_aload_n hx hb dX0_take_0 rfl (lv_at hl 0 rfl) ?_
  refine lv_dup hx hb dX0_take_1 rfl ?_
  refine xbget2 hx hb hts hin0 hown hK hW (hm) w1 dX0_take_2 ?_
  refine lv_iload_n hx hb dX0_take_5 rfl (lv_at hl 1 rfl) ?_
  refine lv_isub hx hb dX0_take_6 ?_
  refine xbput2 hx hb hts hin0 hown hK hW (hm) w1 dX0_take_7 (fun H locs hW => ?_)
  have hW : xW D A s.heap ([] ++ bxP L qi qt (va_up qc aB ((qc aB) - a0)) qp) H _ := hW
  refine lv_aload_n hx hb dX0_take_10 rfl (lv_at hl 0 rfl) ?_
  refine lv_aload_n hx hb dX0_take_11 rfl (lv_at hl 0 rfl) ?_
  refine xbget3 hx hb hts hin0 hown hK hW (hm) w3 dX0_take_12 ?_
  refine lv_iload_n hx hb dX0_take_15 rfl (lv_at hl 1 rfl) ?_
  refine lv_isub hx hb dX0_take_16 ?_
  refine lv_iconst (v := 0) hx hb dX0_take_17 (by decide) ?_
  refine va_mmax hx hb (by rw [hml]; exact hl.1.symm) hown w4 w5 w6 w7 (Nat.le_of_ble_eq_true rfl) (Nat.le_of_ble_eq_true rfl) (by omega) (by omega) dX0_take_18 ?_
  refine xbput3 hx hb hts hin0 hown hK hW (hm) w3 dX0_take_21 (fun H locs hW => ?_)
  have hW : xW D A s.heap ([] ++ bxP L qi qt (va_up qc aB ((qc aB) - a0)) (va_up qp aB (if ((qp aB) - a0) < 0 then 0 else ((qp aB) - a0)))) H _ := hW
  have hF : f_X0_take aB a0 qc qp = (va_up qc aB ((qc aB) - a0), va_up qp aB (if ((qp aB) - a0) < 0 then 0 else ((qp aB) - a0))) := by
    rw [f_X0_take]
  obtain rfl : (va_up qc aB ((qc aB) - a0), va_up qp aB (if ((qp aB) - a0) < 0 then 0 else ((qp aB) - a0))) = o := hF.symm.trans ho
  exact W.vret hx hb hrt (fun t ht hM => ⟨⟨(), rfl, trivial, ⟨by rw [ht]; exact hW.1, hW.2.1⟩⟩, hW.2.2.F ht⟩) hW.2.2.2.2 dX0_take_24 hlocks

def f_X1_becomeLike (vTb : Int32) (vGb : Int64) (vMb : Int32) (vOb : Bool) (vNb : Int32) (vDb : Bool) (vAb : Int32) : Int32 × Int64 × Int32 × Bool × Int32 × Bool × Int32 :=
  (vTb, vGb, vMb, vOb, vNb, vDb, vAb)
set_option maxHeartbeats 4000000 in
set_option maxRecDepth 100000 in
theorem c_X1_becomeLike (l : Launch) (D : va_G) (cI cJ cZ cB : ClassId) (sz : Nat) (aH : Nat) (aHb : Nat) (vT : Int32) (vG : Int64) (vM : Int32) (vO : Bool) (vN : Int32) (vD : Bool) (vA : Int32) (vTb : Int32) (vGb : Int64) (vMb : Int32) (vOb : Bool) (vNb : Int32) (vDb : Bool) (vAb : Int32) (o : Int32 × Int64 × Int32 × Bool × Int32 × Bool × Int32) (ho : f_X1_becomeLike vTb vGb vMb vOb vNb vDb vAb = o) : Met l yX1_becomeLike wsX1_becomeLike ({ frames := 0, cells := 0, slots := 0, locals := 0 } : Room) (xPre D (xT cI cJ cZ cB) [.ref aH, .ref aHb] [(aH, .inr (1, [.int vT, .long vG, .int vM, .int (bi vO), .int vN, .int (bi vD), .int vA])), (aHb, .inr (1, [.int vTb, .long vGb, .int vMb, .int (bi vOb), .int vNb, .int (bi vDb), .int vAb]))] sz) (va_Qv (fun _ : Unit => True) (fun _ t => xB D ([(aH, .inr (1, [.int o.1, .long o.2.1, .int o.2.2.1, .int (bi o.2.2.2.1), .int o.2.2.2.2.1, .int (bi o.2.2.2.2.2.1), .int o.2.2.2.2.2.2])), (aHb, .inr (1, [.int vTb, .long vGb, .int vMb, .int (bi vOb), .int vNb, .int (bi vDb), .int vAb]))]) (va_A [(aH, .inr (1, [.int vT, .long vG, .int vM, .int (bi vO), .int vN, .int (bi vD), .int vA])), (aHb, .inr (1, [.int vTb, .long vGb, .int vMb, .int (bi vOb), .int vNb, .int (bi vDb), .int vAb]))] sz) t) (va_A [(aH, .inr (1, [.int vT, .long vG, .int vM, .int (bi vO), .int vN, .int (bi vD), .int vA])), (aHb, .inr (1, [.int vTb, .long vGb, .int vMb, .int (bi vOb), .int vNb, .int (bi vDb), .int vAb]))] sz)) 0 0 (va_A [(aH, .inr (1, [.int vT, .long vG, .int vM, .int (bi vO), .int vN, .int (bi vD), .int vA])), (aHb, .inr (1, [.int vTb, .long vGb, .int vMb, .int (bi vOb), .int vNb, .int (bi vDb), .int vAb]))] sz) := by
  refine xofW (Qc := fun A0 => va_Qv (fun _ : Unit => True) (fun _ t => xB D ([(aH, .inr (1, [.int o.1, .long o.2.1, .int o.2.2.1, .int (bi o.2.2.2.1), .int o.2.2.2.2.1, .int (bi o.2.2.2.2.2.1), .int o.2.2.2.2.2.2])), (aHb, .inr (1, [.int vTb, .long vGb, .int vMb, .int (bi vOb), .int vNb, .int (bi vDb), .int vAb]))]) A0 t) A0) (fr := fun A => A) (cc := cX1_becomeLike) (maxL := 2) (ret := none) (by decide) rfl (Nat.le_of_ble_eq_true rfl) ?_
  intro p e s m below meth c A ⟨hx, hb, hml, hown, hts⟩ hrt hlocks hnm hsz hK hW hA hG ls hl
  have hown : s.vm.findClass RX1 = some m.cls := hown
  have hl : lv_has ls 2 [(0, .ref aH), (1, .ref aHb)] := hl
  obtain ⟨H, hH⟩ : ∃ H, H = s.heap := ⟨_, rfl⟩
  have hW : xW D A s.heap ([(aH, .inr (1, [.int vT, .long vG, .int vM, .int (bi vO), .int vN, .int (bi vD), .int vA])), (aHb, .inr (1, [.int vTb, .long vGb, .int vMb, .int (bi vOb), .int vNb, .int (bi vDb), .int vAb]))] ++ []) H [] := by rw [hH]; exact hW
  have w1 := hts (.fieldLink RX1 9 "DryIceLane$Hold" "temperature" "I") (by decide +kernel)
  have hin1 : ∀ w ∈ u_ws RX1 TX1 7, w ∈ wsX1_becomeLike := by decide +kernel
  have w3 := hts (.fieldLink RX1 18 "DryIceLane$Hold" "gas" "J") (by decide +kernel)
  have w4 := hts (.fieldLink RX1 15 "DryIceLane$Hold" "ventMode" "I") (by decide +kernel)
  have w5 := hts (.fieldLink RX1 22 "DryIceLane$Hold" "ventOpen" "Z") (by decide +kernel)
  have w6 := hts (.fieldLink RX1 26 "DryIceLane$Hold" "ventMinutes" "I") (by decide +kernel)
  have w7 := hts (.fieldLink RX1 29 "DryIceLane$Hold" "doorOpen" "Z") (by decide +kernel)
  have w8 := hts (.fieldLink RX1 32 "DryIceLane$Hold" "alarms" "I") (by decide +kernel)
  rw [← hH]
  refine lv_aload_n hx hb dX1_becomeLike_0 rfl (lv_at hl 0 rfl) ?_
  refine lv_aload_n hx hb dX1_becomeLike_1 rfl (lv_at hl 1 rfl) ?_
  refine xget (ci := 1) (C := RX1) (T := TX1) (N := 7) hx hb hts hin1 hown hK hW.1 1 rfl rfl 0 (by decide) w1 rfl dX1_becomeLike_2 ?_
  refine xput (ci := 1) (v := .int vTb) (ty := .int) (C := RX1) (T := TX1) (N := 7) hx hb hts hin1 tyX1 tyX1_ok nmX1 hown hK hW 0 rfl (Nat.le_of_ble_eq_true rfl) rfl 0 (by decide) w1 rfl (by decide +kernel) rfl rfl (Nat.le_of_ble_eq_true rfl) dX1_becomeLike_5 (fun H locs hW => ?_)
  have hW : xW D A s.heap ([(aH, .inr (1, [.int vTb, .long vG, .int vM, .int (bi vO), .int vN, .int (bi vD), .int vA])), (aHb, .inr (1, [.int vTb, .long vGb, .int vMb, .int (bi vOb), .int vNb, .int (bi vDb), .int vAb]))] ++ []) H _ := hW
  refine lv_aload_n hx hb dX1_becomeLike_8 rfl (lv_at hl 0 rfl) ?_
  refine lv_aload_n hx hb dX1_becomeLike_9 rfl (lv_at hl 1 rfl) ?_
  refine xget (ci := 1) (C := RX1) (T := TX1) (N := 7) hx hb hts hin1 hown hK hW.1 1 rfl rfl 1 (by decide) w3 rfl dX1_becomeLike_10 ?_
  refine xput (ci := 1) (v := .long vGb) (ty := .long) (C := RX1) (T := TX1) (N := 7) hx hb hts hin1 tyX1 tyX1_ok nmX1 hown hK hW 0 rfl (Nat.le_of_ble_eq_true rfl) rfl 1 (by decide) w3 rfl (by decide +kernel) rfl rfl (Nat.le_of_ble_eq_true rfl) dX1_becomeLike_13 (fun H locs hW => ?_)
  have hW : xW D A s.heap ([(aH, .inr (1, [.int vTb, .long vGb, .int vM, .int (bi vO), .int vN, .int (bi vD), .int vA])), (aHb, .inr (1, [.int vTb, .long vGb, .int vMb, .int (bi vOb), .int vNb, .int (bi vDb), .int vAb]))] ++ []) H _ := hW
  refine lv_aload_n hx hb dX1_becomeLike_16 rfl (lv_at hl 0 rfl) ?_
  refine lv_aload_n hx hb dX1_becomeLike_17 rfl (lv_at hl 1 rfl) ?_
  refine xget (ci := 1) (C := RX1) (T := TX1) (N := 7) hx hb hts hin1 hown hK hW.1 1 rfl rfl 2 (by decide) w4 rfl dX1_becomeLike_18 ?_
  refine xput (ci := 1) (v := .int vMb) (ty := .int) (C := RX1) (T := TX1) (N := 7) hx hb hts hin1 tyX1 tyX1_ok nmX1 hown hK hW 0 rfl (Nat.le_of_ble_eq_true rfl) rfl 2 (by decide) w4 rfl (by decide +kernel) rfl rfl (Nat.le_of_ble_eq_true rfl) dX1_becomeLike_21 (fun H locs hW => ?_)
  have hW : xW D A s.heap ([(aH, .inr (1, [.int vTb, .long vGb, .int vMb, .int (bi vO), .int vN, .int (bi vD), .int vA])), (aHb, .inr (1, [.int vTb, .long vGb, .int vMb, .int (bi vOb), .int vNb, .int (bi vDb), .int vAb]))] ++ []) H _ := hW
  refine lv_aload_n hx hb dX1_becomeLike_24 rfl (lv_at hl 0 rfl) ?_
  refine lv_aload_n hx hb dX1_becomeLike_25 rfl (lv_at hl 1 rfl) ?_
  refine xget (ci := 1) (C := RX1) (T := TX1) (N := 7) hx hb hts hin1 hown hK hW.1 1 rfl rfl 3 (by decide) w5 rfl dX1_becomeLike_26 ?_
  refine xput (ci := 1) (v := .int (bi vOb)) (ty := .boolean) (C := RX1) (T := TX1) (N := 7) hx hb hts hin1 tyX1 tyX1_ok nmX1 hown hK hW 0 rfl (Nat.le_of_ble_eq_true rfl) rfl 3 (by decide) w5 rfl (by decide +kernel) (bi_nar _) (bi_fit _) (Nat.le_of_ble_eq_true rfl) dX1_becomeLike_29 (fun H locs hW => ?_)
  have hW : xW D A s.heap ([(aH, .inr (1, [.int vTb, .long vGb, .int vMb, .int (bi vOb), .int vN, .int (bi vD), .int vA])), (aHb, .inr (1, [.int vTb, .long vGb, .int vMb, .int (bi vOb), .int vNb, .int (bi vDb), .int vAb]))] ++ []) H _ := hW
  refine lv_aload_n hx hb dX1_becomeLike_32 rfl (lv_at hl 0 rfl) ?_
  refine lv_aload_n hx hb dX1_becomeLike_33 rfl (lv_at hl 1 rfl) ?_
  refine xget (ci := 1) (C := RX1) (T := TX1) (N := 7) hx hb hts hin1 hown hK hW.1 1 rfl rfl 4 (by decide) w6 rfl dX1_becomeLike_34 ?_
  refine xput (ci := 1) (v := .int vNb) (ty := .int) (C := RX1) (T := TX1) (N := 7) hx hb hts hin1 tyX1 tyX1_ok nmX1 hown hK hW 0 rfl (Nat.le_of_ble_eq_true rfl) rfl 4 (by decide) w6 rfl (by decide +kernel) rfl rfl (Nat.le_of_ble_eq_true rfl) dX1_becomeLike_37 (fun H locs hW => ?_)
  have hW : xW D A s.heap ([(aH, .inr (1, [.int vTb, .long vGb, .int vMb, .int (bi vOb), .int vNb, .int (bi vD), .int vA])), (aHb, .inr (1, [.int vTb, .long vGb, .int vMb, .int (bi vOb), .int vNb, .int (bi vDb), .int vAb]))] ++ []) H _ := hW
  refine lv_aload_n hx hb dX1_becomeLike_40 rfl (lv_at hl 0 rfl) ?_
  refine lv_aload_n hx hb dX1_becomeLike_41 rfl (lv_at hl 1 rfl) ?_
  refine xget (ci := 1) (C := RX1) (T := TX1) (N := 7) hx hb hts hin1 hown hK hW.1 1 rfl rfl 5 (by decide) w7 rfl dX1_becomeLike_42 ?_
  refine xput (ci := 1) (v := .int (bi vDb)) (ty := .boolean) (C := RX1) (T := TX1) (N := 7) hx hb hts hin1 tyX1 tyX1_ok nmX1 hown hK hW 0 rfl (Nat.le_of_ble_eq_true rfl) rfl 5 (by decide) w7 rfl (by decide +kernel) (bi_nar _) (bi_fit _) (Nat.le_of_ble_eq_true rfl) dX1_becomeLike_45 (fun H locs hW => ?_)
  have hW : xW D A s.heap ([(aH, .inr (1, [.int vTb, .long vGb, .int vMb, .int (bi vOb), .int vNb, .int (bi vDb), .int vA])), (aHb, .inr (1, [.int vTb, .long vGb, .int vMb, .int (bi vOb), .int vNb, .int (bi vDb), .int vAb]))] ++ []) H _ := hW
  refine lv_aload_n hx hb dX1_becomeLike_48 rfl (lv_at hl 0 rfl) ?_
  refine lv_aload_n hx hb dX1_becomeLike_49 rfl (lv_at hl 1 rfl) ?_
  refine xget (ci := 1) (C := RX1) (T := TX1) (N := 7) hx hb hts hin1 hown hK hW.1 1 rfl rfl 6 (by decide) w8 rfl dX1_becomeLike_50 ?_
  refine xput (ci := 1) (v := .int vAb) (ty := .int) (C := RX1) (T := TX1) (N := 7) hx hb hts hin1 tyX1 tyX1_ok nmX1 hown hK hW 0 rfl (Nat.le_of_ble_eq_true rfl) rfl 6 (by decide) w8 rfl (by decide +kernel) rfl rfl (Nat.le_of_ble_eq_true rfl) dX1_becomeLike_53 (fun H locs hW => ?_)
  have hW : xW D A s.heap ([(aH, .inr (1, [.int vTb, .long vGb, .int vMb, .int (bi vOb), .int vNb, .int (bi vDb), .int vAb])), (aHb, .inr (1, [.int vTb, .long vGb, .int vMb, .int (bi vOb), .int vNb, .int (bi vDb), .int vAb]))] ++ []) H _ := hW
  have hF : f_X1_becomeLike vTb vGb vMb vOb vNb vDb vAb = (vTb, vGb, vMb, vOb, vNb, vDb, vAb) := by
    rw [f_X1_becomeLike]
  obtain rfl : (vTb, vGb, vMb, vOb, vNb, vDb, vAb) = o := hF.symm.trans ho
  exact W.vret hx hb hrt (fun t ht hM => ⟨⟨(), rfl, trivial, ⟨by rw [ht]; exact hW.1, hW.2.1⟩⟩, hW.2.2.F ht⟩) hW.2.2.2.2 dX1_becomeLike_56 hlocks

def f_X1_concentration (vG : Int64) (sf : Nat → Int32) : Int64 :=
  f_X9_quotient vG (2 * (f_X6_value 1 sf).toInt64)
set_option maxHeartbeats 4000000 in
set_option maxRecDepth 100000 in
theorem c_X1_concentration (l : Launch) (D : va_G) (cI cJ cZ cB : ClassId) (sz : Nat) (aH : Nat) (aS : Nat) (aSv : Nat) (vT : Int32) (vG : Int64) (vM : Int32) (vO : Bool) (vN : Int32) (vD : Bool) (vA : Int32) (sf : Nat → Int32) (o : Int64) (ho : f_X1_concentration vG sf = o) : Met l yX1_concentration wsX1_concentration ({ frames := 2, cells := 0, slots := 0, locals := 43 } : Room) (xPre D (xT cI cJ cZ cB) [.ref aH, .ref aS] [(aH, .inr (1, [.int vT, .long vG, .int vM, .int (bi vO), .int vN, .int (bi vD), .int vA])), (aS, .inr (6, [.ref aSv])), (aSv, .inl (cI, 11, .inl sf))] sz) (vp_Sl (fun r => r = o)) 0 0 (fun _ => False) := by
  refine xofW (Qc := fun _ => vp_Sl (fun r => r = o)) (fr := fun _ _ => False) (cc := cX1_concentration) (maxL := 2) (ret := (some .long)) (by decide) rfl (Nat.le_of_ble_eq_true rfl) ?_
  intro p e s m below meth c A ⟨hx, hb, hml, hown, hts⟩ hrt hlocks hnm hsz hK hW hA hG ls hl
  have hown : s.vm.findClass RX1 = some m.cls := hown
  have hl : lv_has ls 2 [(0, .ref aH), (1, .ref aS)] := hl
  obtain ⟨H, hH⟩ : ∃ H, H = s.heap := ⟨_, rfl⟩
  have hW : xW D A s.heap ([(aH, .inr (1, [.int vT, .long vG, .int vM, .int (bi vO), .int vN, .int (bi vD), .int vA])), (aS, .inr (6, [.ref aSv])), (aSv, .inl (cI, 11, .inl sf))] ++ []) H [] := by rw [hH]; exact hW
  have w1 := hts (.fieldLink RX1 18 "DryIceLane$Hold" "gas" "J") (by decide +kernel)
  have hin1 : ∀ w ∈ u_ws RX1 TX1 7, w ∈ wsX1_concentration := by decide +kernel
  have w3 := hts (.constantLong RX1 35 (2)) (by decide +kernel)
  have w4 := hts (.initialized RX9) (by decide +kernel)
  have w5 := hts (.static yX9_quotient) (by decide +kernel)
  rw [← hH]
  refine lv_aload_n hx hb dX1_concentration_0 rfl (lv_at hl 0 rfl) ?_
  refine xget (ci := 1) (C := RX1) (T := TX1) (N := 7) hx hb hts hin1 hown hK hW.1 0 rfl rfl 1 (by decide) w1 rfl dX1_concentration_1 ?_
  refine lv_ldc2 hx hb hown w3 dX1_concentration_4 ?_
  refine lv_aload_n hx hb dX1_concentration_7 rfl (lv_at hl 1 rfl) ?_
  refine lv_iconst (v := 1) hx hb dX1_concentration_8 (by decide) ?_
  refine vp_callSi (va_Run.run (xrunV (As := [.int 1]) (rest := [.long 2, .long vG]) ⟨hx, hb, hml, hown, hts⟩ (c_X6_value l D cI cJ cZ cB H.size aS aSv 1 sf _ rfl) (cwV 1 hts gX1_concentration_X6_value rfl rfl rfl (by decide +kernel) ⟨Nat.le_of_ble_eq_true rfl, Nat.le_of_ble_eq_true rfl⟩) hK hG hW.2.2 (xsubQ hW hA [1, 2] rfl (by decide)) (va_recv hK hW.1 (ci := 6) (q0 := 1) rfl rfl) rfl hl.1 rfl (Nat.le_of_ble_eq_true rfl) dX1_concentration_9 ⟨Nat.le_of_ble_eq_true rfl, Nat.le_of_ble_eq_true rfl⟩)) (fun r1 hq => ?_)
  subst hq
  refine lv_i2l hx hb dX1_concentration_12 rfl ?_
  refine lv_lmul hx hb dX1_concentration_13 ?_
  refine vp_callSl (va_Run.run (xrunSN (As := [.long vG, .long (2 * (f_X6_value 1 sf).toInt64)]) (rest := []) ⟨hx, hb, hml, hown, hts⟩ (c_X9_quotient l D cI cJ cZ cB H.size vG (2 * (f_X6_value 1 sf).toInt64) _ rfl) ⟨va_cnB (host := "DryIceLane") 2 hts gX1_concentration_X9_quotient_n43 rfl rfl rfl (hG.1.1 (.methodLinkNest RX1 43 yX9_quotient "DryIceLane") (by decide +kernel)) w4 (by decide +kernel) ⟨Nat.le_of_ble_eq_true rfl, Nat.le_of_ble_eq_true rfl⟩, w5, trivial⟩ hK hG hW.2.2 (xsubQ hW hA [] rfl (by decide)) rfl hl.1 rfl (Nat.le_of_ble_eq_true rfl) dX1_concentration_14 ⟨Nat.le_of_ble_eq_true rfl, Nat.le_of_ble_eq_true rfl⟩)) (fun r2 hq => ?_)
  subst hq
  have hF : f_X1_concentration vG sf = f_X9_quotient vG (2 * (f_X6_value 1 sf).toInt64) := by
    rw [f_X1_concentration]
  obtain rfl : f_X9_quotient vG (2 * (f_X6_value 1 sf).toInt64) = o := hF.symm.trans ho
  exact W.lret (v := f_X9_quotient vG (2 * (f_X6_value 1 sf).toInt64)) hx hb hrt (fun t ht hM => ⟨_, rfl, rfl, ht.trans hH⟩) (fun q h => by cases h) dX1_concentration_17 hlocks

def f_X1_openVent : Bool :=
  true
set_option maxHeartbeats 4000000 in
set_option maxRecDepth 100000 in
theorem c_X1_openVent (l : Launch) (D : va_G) (cI cJ cZ cB : ClassId) (sz : Nat) (aH : Nat) (vT : Int32) (vG : Int64) (vM : Int32) (vO : Bool) (vN : Int32) (vD : Bool) (vA : Int32) (o : Bool) (ho : f_X1_openVent = o) : Met l yX1_openVent wsX1_openVent ({ frames := 0, cells := 0, slots := 0, locals := 0 } : Room) (xPre D (xT cI cJ cZ cB) [.ref aH] [(aH, .inr (1, [.int vT, .long vG, .int vM, .int (bi vO), .int vN, .int (bi vD), .int vA]))] sz) (va_Qv (fun _ : Unit => True) (fun _ t => xB D ([(aH, .inr (1, [.int vT, .long vG, .int vM, .int (bi o), .int vN, .int (bi vD), .int vA]))]) (va_A [(aH, .inr (1, [.int vT, .long vG, .int vM, .int (bi vO), .int vN, .int (bi vD), .int vA]))] sz) t) (va_A [(aH, .inr (1, [.int vT, .long vG, .int vM, .int (bi vO), .int vN, .int (bi vD), .int vA]))] sz)) 0 0 (va_A [(aH, .inr (1, [.int vT, .long vG, .int vM, .int (bi vO), .int vN, .int (bi vD), .int vA]))] sz) := by
  refine xofW (Qc := fun A0 => va_Qv (fun _ : Unit => True) (fun _ t => xB D ([(aH, .inr (1, [.int vT, .long vG, .int vM, .int (bi o), .int vN, .int (bi vD), .int vA]))]) A0 t) A0) (fr := fun A => A) (cc := cX1_openVent) (maxL := 1) (ret := none) (by decide) rfl (Nat.le_of_ble_eq_true rfl) ?_
  intro p e s m below meth c A ⟨hx, hb, hml, hown, hts⟩ hrt hlocks hnm hsz hK hW hA hG ls hl
  have hown : s.vm.findClass RX1 = some m.cls := hown
  have hl : lv_has ls 1 [(0, .ref aH)] := hl
  obtain ⟨H, hH⟩ : ∃ H, H = s.heap := ⟨_, rfl⟩
  have hW : xW D A s.heap ([(aH, .inr (1, [.int vT, .long vG, .int vM, .int (bi vO), .int vN, .int (bi vD), .int vA]))] ++ []) H [] := by rw [hH]; exact hW
  have w1 := hts (.fieldLink RX1 22 "DryIceLane$Hold" "ventOpen" "Z") (by decide +kernel)
  have hin1 : ∀ w ∈ u_ws RX1 TX1 7, w ∈ wsX1_openVent := by decide +kernel
  rw [← hH]
  refine lv_aload_n hx hb dX1_openVent_0 rfl (lv_at hl 0 rfl) ?_
  refine lv_iconst (v := 1) hx hb dX1_openVent_1 (by decide) ?_
  refine xput (ci := 1) (v := .int 1) (ty := .boolean) (C := RX1) (T := TX1) (N := 7) hx hb hts hin1 tyX1 tyX1_ok nmX1 hown hK hW 0 rfl (Nat.le_of_ble_eq_true rfl) rfl 3 (by decide) w1 rfl (by decide +kernel) rfl rfl (Nat.le_of_ble_eq_true rfl) dX1_openVent_2 (fun H locs hW => ?_)
  have hW : xW D A s.heap ([(aH, .inr (1, [.int vT, .long vG, .int vM, .int (bi true), .int vN, .int (bi vD), .int vA]))] ++ []) H _ := hW
  have hF : f_X1_openVent = true := by
    rw [f_X1_openVent]
  obtain rfl : true = o := hF.symm.trans ho
  exact W.vret hx hb hrt (fun t ht hM => ⟨⟨(), rfl, trivial, ⟨by rw [ht]; exact hW.1, hW.2.1⟩⟩, hW.2.2.F ht⟩) hW.2.2.2.2 dX1_openVent_5 hlocks

def f_X1_shutVent : Bool × Int32 :=
  (false, 0)
set_option maxHeartbeats 4000000 in
set_option maxRecDepth 100000 in
theorem c_X1_shutVent (l : Launch) (D : va_G) (cI cJ cZ cB : ClassId) (sz : Nat) (aH : Nat) (vT : Int32) (vG : Int64) (vM : Int32) (vO : Bool) (vN : Int32) (vD : Bool) (vA : Int32) (o : Bool × Int32) (ho : f_X1_shutVent = o) : Met l yX1_shutVent wsX1_shutVent ({ frames := 0, cells := 0, slots := 0, locals := 0 } : Room) (xPre D (xT cI cJ cZ cB) [.ref aH] [(aH, .inr (1, [.int vT, .long vG, .int vM, .int (bi vO), .int vN, .int (bi vD), .int vA]))] sz) (va_Qv (fun _ : Unit => True) (fun _ t => xB D ([(aH, .inr (1, [.int vT, .long vG, .int vM, .int (bi o.1), .int o.2, .int (bi vD), .int vA]))]) (va_A [(aH, .inr (1, [.int vT, .long vG, .int vM, .int (bi vO), .int vN, .int (bi vD), .int vA]))] sz) t) (va_A [(aH, .inr (1, [.int vT, .long vG, .int vM, .int (bi vO), .int vN, .int (bi vD), .int vA]))] sz)) 0 0 (va_A [(aH, .inr (1, [.int vT, .long vG, .int vM, .int (bi vO), .int vN, .int (bi vD), .int vA]))] sz) := by
  refine xofW (Qc := fun A0 => va_Qv (fun _ : Unit => True) (fun _ t => xB D ([(aH, .inr (1, [.int vT, .long vG, .int vM, .int (bi o.1), .int o.2, .int (bi vD), .int vA]))]) A0 t) A0) (fr := fun A => A) (cc := cX1_shutVent) (maxL := 1) (ret := none) (by decide) rfl (Nat.le_of_ble_eq_true rfl) ?_
  intro p e s m below meth c A ⟨hx, hb, hml, hown, hts⟩ hrt hlocks hnm hsz hK hW hA hG ls hl
  have hown : s.vm.findClass RX1 = some m.cls := hown
  have hl : lv_has ls 1 [(0, .ref aH)] := hl
  obtain ⟨H, hH⟩ : ∃ H, H = s.heap := ⟨_, rfl⟩
  have hW : xW D A s.heap ([(aH, .inr (1, [.int vT, .long vG, .int vM, .int (bi vO), .int vN, .int (bi vD), .int vA]))] ++ []) H [] := by rw [hH]; exact hW
  have w1 := hts (.fieldLink RX1 22 "DryIceLane$Hold" "ventOpen" "Z") (by decide +kernel)
  have hin1 : ∀ w ∈ u_ws RX1 TX1 7, w ∈ wsX1_shutVent := by decide +kernel
  have w3 := hts (.fieldLink RX1 26 "DryIceLane$Hold" "ventMinutes" "I") (by decide +kernel)
  rw [← hH]
  refine lv_aload_n hx hb dX1_shutVent_0 rfl (lv_at hl 0 rfl) ?_
  refine lv_iconst (v := 0) hx hb dX1_shutVent_1 (by decide) ?_
  refine xput (ci := 1) (v := .int 0) (ty := .boolean) (C := RX1) (T := TX1) (N := 7) hx hb hts hin1 tyX1 tyX1_ok nmX1 hown hK hW 0 rfl (Nat.le_of_ble_eq_true rfl) rfl 3 (by decide) w1 rfl (by decide +kernel) rfl rfl (Nat.le_of_ble_eq_true rfl) dX1_shutVent_2 (fun H locs hW => ?_)
  have hW : xW D A s.heap ([(aH, .inr (1, [.int vT, .long vG, .int vM, .int (bi false), .int vN, .int (bi vD), .int vA]))] ++ []) H _ := hW
  refine lv_aload_n hx hb dX1_shutVent_5 rfl (lv_at hl 0 rfl) ?_
  refine lv_iconst (v := 0) hx hb dX1_shutVent_6 (by decide) ?_
  refine xput (ci := 1) (v := .int 0) (ty := .int) (C := RX1) (T := TX1) (N := 7) hx hb hts hin1 tyX1 tyX1_ok nmX1 hown hK hW 0 rfl (Nat.le_of_ble_eq_true rfl) rfl 4 (by decide) w3 rfl (by decide +kernel) rfl rfl (Nat.le_of_ble_eq_true rfl) dX1_shutVent_7 (fun H locs hW => ?_)
  have hW : xW D A s.heap ([(aH, .inr (1, [.int vT, .long vG, .int vM, .int (bi false), .int 0, .int (bi vD), .int vA]))] ++ []) H _ := hW
  have hF : f_X1_shutVent = (false, 0) := by
    rw [f_X1_shutVent]
  obtain rfl : (false, 0) = o := hF.symm.trans ho
  exact W.vret hx hb hrt (fun t ht hM => ⟨⟨(), rfl, trivial, ⟨by rw [ht]; exact hW.1, hW.2.1⟩⟩, hW.2.2.F ht⟩) hW.2.2.2.2 dX1_shutVent_10 hlocks

def f_X1_keepToMode (vM : Int32) (vO : Bool) (vN : Int32) : Bool × Int32 :=
  if vM = 2 then
    (f_X1_openVent , vN)
  else
    if vM = 1 then
      ((f_X1_shutVent ).1, (f_X1_shutVent ).2)
    else
      (vO, vN)
set_option maxHeartbeats 4000000 in
set_option maxRecDepth 100000 in
theorem c_X1_keepToMode (l : Launch) (D : va_G) (cI cJ cZ cB : ClassId) (sz : Nat) (aH : Nat) (vT : Int32) (vG : Int64) (vM : Int32) (vO : Bool) (vN : Int32) (vD : Bool) (vA : Int32) (o : Bool × Int32) (ho : f_X1_keepToMode vM vO vN = o) : Met l yX1_keepToMode wsX1_keepToMode ({ frames := 1, cells := 0, slots := 0, locals := 20 } : Room) (xPre D (xT cI cJ cZ cB) [.ref aH] [(aH, .inr (1, [.int vT, .long vG, .int vM, .int (bi vO), .int vN, .int (bi vD), .int vA]))] sz) (va_Qv (fun _ : Unit => True) (fun _ t => xB D ([(aH, .inr (1, [.int vT, .long vG, .int vM, .int (bi o.1), .int o.2, .int (bi vD), .int vA]))]) (va_A [(aH, .inr (1, [.int vT, .long vG, .int vM, .int (bi vO), .int vN, .int (bi vD), .int vA]))] sz) t) (va_A [(aH, .inr (1, [.int vT, .long vG, .int vM, .int (bi vO), .int vN, .int (bi vD), .int vA]))] sz)) 0 0 (va_A [(aH, .inr (1, [.int vT, .long vG, .int vM, .int (bi vO), .int vN, .int (bi vD), .int vA]))] sz) := by
  refine xofW (Qc := fun A0 => va_Qv (fun _ : Unit => True) (fun _ t => xB D ([(aH, .inr (1, [.int vT, .long vG, .int vM, .int (bi o.1), .int o.2, .int (bi vD), .int vA]))]) A0 t) A0) (fr := fun A => A) (cc := cX1_keepToMode) (maxL := 1) (ret := none) (by decide) rfl (Nat.le_of_ble_eq_true rfl) ?_
  intro p e s m below meth c A ⟨hx, hb, hml, hown, hts⟩ hrt hlocks hnm hsz hK hW hA hG ls hl
  have hown : s.vm.findClass RX1 = some m.cls := hown
  have hl : lv_has ls 1 [(0, .ref aH)] := hl
  obtain ⟨H, hH⟩ : ∃ H, H = s.heap := ⟨_, rfl⟩
  have hW : xW D A s.heap ([(aH, .inr (1, [.int vT, .long vG, .int vM, .int (bi vO), .int vN, .int (bi vD), .int vA]))] ++ []) H [] := by rw [hH]; exact hW
  have w1 := hts (.fieldLink RX1 15 "DryIceLane$Hold" "ventMode" "I") (by decide +kernel)
  have hin1 : ∀ w ∈ u_ws RX1 TX1 7, w ∈ wsX1_keepToMode := by decide +kernel
  rw [← hH]
  refine lv_aload_n hx hb dX1_keepToMode_0 rfl (lv_at hl 0 rfl) ?_
  refine xget (ci := 1) (C := RX1) (T := TX1) (N := 7) hx hb hts hin1 hown hK hW.1 0 rfl rfl 2 (by decide) w1 rfl dX1_keepToMode_1 ?_
  refine lv_iconst (v := 2) hx hb dX1_keepToMode_4 (by decide) ?_
  refine lv_icmp_ne (tgt := 15) hx hb dX1_keepToMode_5 (by decide) (fun c1 => ?_) (fun c1 => ?_)
  · skip
    refine lv_aload_n hx hb dX1_keepToMode_15 rfl (lv_at hl 0 rfl) ?_
    refine xget (ci := 1) (C := RX1) (T := TX1) (N := 7) hx hb hts hin1 hown hK hW.1 0 rfl rfl 2 (by decide) w1 rfl dX1_keepToMode_16 ?_
    refine lv_iconst (v := 1) hx hb dX1_keepToMode_19 (by decide) ?_
    refine lv_icmp_ne (tgt := 27) hx hb dX1_keepToMode_20 (by decide) (fun c2 => ?_) (fun c2 => ?_)
    · skip
      have hF : f_X1_keepToMode vM vO vN = (vO, vN) := by
        rw [f_X1_keepToMode, if_neg c1, if_neg c2]
      obtain rfl : (vO, vN) = o := hF.symm.trans ho
      exact W.vret hx hb hrt (fun t ht hM => ⟨⟨(), rfl, trivial, ⟨by rw [ht]; exact hW.1, hW.2.1⟩⟩, hW.2.2.F ht⟩) hW.2.2.2.2 dX1_keepToMode_27 hlocks
    · skip
      refine lv_aload_n hx hb dX1_keepToMode_23 rfl (lv_at hl 0 rfl) ?_
      refine xQv (wr := []) hW hA [0] [] rfl rfl (by decide) (by decide) (by decide) (xrunV (As := []) (rest := []) ⟨hx, hb, hml, hown, hts⟩ (c_X1_shutVent l D cI cJ cZ cB H.size aH vT vG vM vO vN vD vA _ rfl) (cwV 0 hts gX1_keepToMode_X1_shutVent rfl rfl rfl (by decide +kernel) ⟨Nat.le_of_ble_eq_true rfl, Nat.le_of_ble_eq_true rfl⟩) hK hG hW.2.2 (xsubQ hW hA [0] rfl (by decide)) (va_recv hK hW.1 (ci := 1) (q0 := 0) rfl rfl) rfl hl.1 rfl (Nat.le_of_ble_eq_true rfl) dX1_keepToMode_24 ⟨Nat.le_of_ble_eq_true rfl, Nat.le_of_ble_eq_true rfl⟩) (fun _ H locs _ hW => ?_)
      have hW : xW D A s.heap ([(aH, .inr (1, [.int vT, .long vG, .int vM, .int (bi (f_X1_shutVent ).1), .int (f_X1_shutVent ).2, .int (bi vD), .int vA]))] ++ []) H _ := hW
      have hF : f_X1_keepToMode vM vO vN = ((f_X1_shutVent ).1, (f_X1_shutVent ).2) := by
        rw [f_X1_keepToMode, if_neg c1, if_pos c2]
      obtain rfl : ((f_X1_shutVent ).1, (f_X1_shutVent ).2) = o := hF.symm.trans ho
      exact W.vret hx hb hrt (fun t ht hM => ⟨⟨(), rfl, trivial, ⟨by rw [ht]; exact hW.1, hW.2.1⟩⟩, hW.2.2.F ht⟩) hW.2.2.2.2 dX1_keepToMode_27 hlocks
  · skip
    refine lv_aload_n hx hb dX1_keepToMode_8 rfl (lv_at hl 0 rfl) ?_
    refine xQv (wr := []) hW hA [0] [] rfl rfl (by decide) (by decide) (by decide) (xrunV (As := []) (rest := []) ⟨hx, hb, hml, hown, hts⟩ (c_X1_openVent l D cI cJ cZ cB H.size aH vT vG vM vO vN vD vA _ rfl) (cwV 0 hts gX1_keepToMode_X1_openVent rfl rfl rfl (by decide +kernel) ⟨Nat.le_of_ble_eq_true rfl, Nat.le_of_ble_eq_true rfl⟩) hK hG hW.2.2 (xsubQ hW hA [0] rfl (by decide)) (va_recv hK hW.1 (ci := 1) (q0 := 0) rfl rfl) rfl hl.1 rfl (Nat.le_of_ble_eq_true rfl) dX1_keepToMode_9 ⟨Nat.le_of_ble_eq_true rfl, Nat.le_of_ble_eq_true rfl⟩) (fun _ H locs _ hW => ?_)
    have hW : xW D A s.heap ([(aH, .inr (1, [.int vT, .long vG, .int vM, .int (bi (f_X1_openVent )), .int vN, .int (bi vD), .int vA]))] ++ []) H _ := hW
    refine lv_goto (tgt := 27) hx hb dX1_keepToMode_12 (by decide) ?_
    have hF : f_X1_keepToMode vM vO vN = (f_X1_openVent , vN) := by
      rw [f_X1_keepToMode, if_pos c1]
    obtain rfl : (f_X1_openVent , vN) = o := hF.symm.trans ho
    exact W.vret hx hb hrt (fun t ht hM => ⟨⟨(), rfl, trivial, ⟨by rw [ht]; exact hW.1, hW.2.1⟩⟩, hW.2.2.F ht⟩) hW.2.2.2.2 dX1_keepToMode_27 hlocks

def f_X1_setVentMode (a0 : Int32) (vO : Bool) (vN : Int32) : Int32 × Bool × Int32 :=
  (a0, (f_X1_keepToMode a0 vO vN).1, (f_X1_keepToMode a0 vO vN).2)
set_option maxHeartbeats 4000000 in
set_option maxRecDepth 100000 in
theorem c_X1_setVentMode (l : Launch) (D : va_G) (cI cJ cZ cB : ClassId) (sz : Nat) (aH : Nat) (a0 : Int32) (vT : Int32) (vG : Int64) (vM : Int32) (vO : Bool) (vN : Int32) (vD : Bool) (vA : Int32) (o : Int32 × Bool × Int32) (ho : f_X1_setVentMode a0 vO vN = o) : Met l yX1_setVentMode wsX1_setVentMode ({ frames := 2, cells := 0, slots := 0, locals := 40 } : Room) (xPre D (xT cI cJ cZ cB) [.ref aH, .int a0] [(aH, .inr (1, [.int vT, .long vG, .int vM, .int (bi vO), .int vN, .int (bi vD), .int vA]))] sz) (va_Qv (fun _ : Unit => True) (fun _ t => xB D ([(aH, .inr (1, [.int vT, .long vG, .int o.1, .int (bi o.2.1), .int o.2.2, .int (bi vD), .int vA]))]) (va_A [(aH, .inr (1, [.int vT, .long vG, .int vM, .int (bi vO), .int vN, .int (bi vD), .int vA]))] sz) t) (va_A [(aH, .inr (1, [.int vT, .long vG, .int vM, .int (bi vO), .int vN, .int (bi vD), .int vA]))] sz)) 0 0 (va_A [(aH, .inr (1, [.int vT, .long vG, .int vM, .int (bi vO), .int vN, .int (bi vD), .int vA]))] sz) := by
  refine xofW (Qc := fun A0 => va_Qv (fun _ : Unit => True) (fun _ t => xB D ([(aH, .inr (1, [.int vT, .long vG, .int o.1, .int (bi o.2.1), .int o.2.2, .int (bi vD), .int vA]))]) A0 t) A0) (fr := fun A => A) (cc := cX1_setVentMode) (maxL := 2) (ret := none) (by decide) rfl (Nat.le_of_ble_eq_true rfl) ?_
  intro p e s m below meth c A ⟨hx, hb, hml, hown, hts⟩ hrt hlocks hnm hsz hK hW hA hG ls hl
  have hown : s.vm.findClass RX1 = some m.cls := hown
  have hl : lv_has ls 2 [(0, .ref aH), (1, .int a0)] := hl
  obtain ⟨H, hH⟩ : ∃ H, H = s.heap := ⟨_, rfl⟩
  have hW : xW D A s.heap ([(aH, .inr (1, [.int vT, .long vG, .int vM, .int (bi vO), .int vN, .int (bi vD), .int vA]))] ++ []) H [] := by rw [hH]; exact hW
  have w1 := hts (.fieldLink RX1 15 "DryIceLane$Hold" "ventMode" "I") (by decide +kernel)
  have hin1 : ∀ w ∈ u_ws RX1 TX1 7, w ∈ wsX1_setVentMode := by decide +kernel
  rw [← hH]
  refine lv_aload_n hx hb dX1_setVentMode_0 rfl (lv_at hl 0 rfl) ?_
  refine lv_iload_n hx hb dX1_setVentMode_1 rfl (lv_at hl 1 rfl) ?_
  refine xput (ci := 1) (v := .int a0) (ty := .int) (C := RX1) (T := TX1) (N := 7) hx hb hts hin1 tyX1 tyX1_ok nmX1 hown hK hW 0 rfl (Nat.le_of_ble_eq_true rfl) rfl 2 (by decide) w1 rfl (by decide +kernel) rfl rfl (Nat.le_of_ble_eq_true rfl) dX1_setVentMode_2 (fun H locs hW => ?_)
  have hW : xW D A s.heap ([(aH, .inr (1, [.int vT, .long vG, .int a0, .int (bi vO), .int vN, .int (bi vD), .int vA]))] ++ []) H _ := hW
  refine lv_aload_n hx hb dX1_setVentMode_5 rfl (lv_at hl 0 rfl) ?_
  refine xQv (wr := []) hW hA [0] [] rfl rfl (by decide) (by decide) (by decide) (xrunV (As := []) (rest := []) ⟨hx, hb, hml, hown, hts⟩ (c_X1_keepToMode l D cI cJ cZ cB H.size aH vT vG a0 vO vN vD vA _ rfl) (cwV 0 hts gX1_setVentMode_X1_keepToMode rfl rfl rfl (by decide +kernel) ⟨Nat.le_of_ble_eq_true rfl, Nat.le_of_ble_eq_true rfl⟩) hK hG hW.2.2 (xsubQ hW hA [0] rfl (by decide)) (va_recv hK hW.1 (ci := 1) (q0 := 0) rfl rfl) rfl hl.1 rfl (Nat.le_of_ble_eq_true rfl) dX1_setVentMode_6 ⟨Nat.le_of_ble_eq_true rfl, Nat.le_of_ble_eq_true rfl⟩) (fun _ H locs _ hW => ?_)
  have hW : xW D A s.heap ([(aH, .inr (1, [.int vT, .long vG, .int a0, .int (bi (f_X1_keepToMode a0 vO vN).1), .int (f_X1_keepToMode a0 vO vN).2, .int (bi vD), .int vA]))] ++ []) H _ := hW
  have hF : f_X1_setVentMode a0 vO vN = (a0, (f_X1_keepToMode a0 vO vN).1, (f_X1_keepToMode a0 vO vN).2) := by
    rw [f_X1_setVentMode]
  obtain rfl : (a0, (f_X1_keepToMode a0 vO vN).1, (f_X1_keepToMode a0 vO vN).2) = o := hF.symm.trans ho
  exact W.vret hx hb hrt (fun t ht hM => ⟨⟨(), rfl, trivial, ⟨by rw [ht]; exact hW.1, hW.2.1⟩⟩, hW.2.2.F ht⟩) hW.2.2.2.2 dX1_setVentMode_9 hlocks

def f_X1_changeTemperature (a0 : Int32) (a1 : Int32) (vT : Int32) (vO : Bool) (vD : Bool) (sf : Nat → Int32) : Int32 :=
  if vO = true then
    if vD = true then
      (if ((((vT + (f_X9_quotient (a1 - vT).toInt64 (f_X6_value 9 sf).toInt64).toInt32) + (f_X9_quotient (a1 - (vT + (f_X9_quotient (a1 - vT).toInt64 (f_X6_value 9 sf).toInt64).toInt32)).toInt64 (f_X6_value 9 sf).toInt64).toInt32) + ((a1 - ((vT + (f_X9_quotient (a1 - vT).toInt64 (f_X6_value 9 sf).toInt64).toInt32) + (f_X9_quotient (a1 - (vT + (f_X9_quotient (a1 - vT).toInt64 (f_X6_value 9 sf).toInt64).toInt32)).toInt64 (f_X6_value 9 sf).toInt64).toInt32)) / 4)) - (f_X9_quotient a0.toInt64 (f_X6_value 10 sf).toInt64).toInt32) < (if (-7900) < (((vT + (f_X9_quotient (a1 - vT).toInt64 (f_X6_value 9 sf).toInt64).toInt32) + (f_X9_quotient (a1 - (vT + (f_X9_quotient (a1 - vT).toInt64 (f_X6_value 9 sf).toInt64).toInt32)).toInt64 (f_X6_value 9 sf).toInt64).toInt32) + ((a1 - ((vT + (f_X9_quotient (a1 - vT).toInt64 (f_X6_value 9 sf).toInt64).toInt32) + (f_X9_quotient (a1 - (vT + (f_X9_quotient (a1 - vT).toInt64 (f_X6_value 9 sf).toInt64).toInt32)).toInt64 (f_X6_value 9 sf).toInt64).toInt32)) / 4)) then (-7900) else (((vT + (f_X9_quotient (a1 - vT).toInt64 (f_X6_value 9 sf).toInt64).toInt32) + (f_X9_quotient (a1 - (vT + (f_X9_quotient (a1 - vT).toInt64 (f_X6_value 9 sf).toInt64).toInt32)).toInt64 (f_X6_value 9 sf).toInt64).toInt32) + ((a1 - ((vT + (f_X9_quotient (a1 - vT).toInt64 (f_X6_value 9 sf).toInt64).toInt32) + (f_X9_quotient (a1 - (vT + (f_X9_quotient (a1 - vT).toInt64 (f_X6_value 9 sf).toInt64).toInt32)).toInt64 (f_X6_value 9 sf).toInt64).toInt32)) / 4))) then (if (-7900) < (((vT + (f_X9_quotient (a1 - vT).toInt64 (f_X6_value 9 sf).toInt64).toInt32) + (f_X9_quotient (a1 - (vT + (f_X9_quotient (a1 - vT).toInt64 (f_X6_value 9 sf).toInt64).toInt32)).toInt64 (f_X6_value 9 sf).toInt64).toInt32) + ((a1 - ((vT + (f_X9_quotient (a1 - vT).toInt64 (f_X6_value 9 sf).toInt64).toInt32) + (f_X9_quotient (a1 - (vT + (f_X9_quotient (a1 - vT).toInt64 (f_X6_value 9 sf).toInt64).toInt32)).toInt64 (f_X6_value 9 sf).toInt64).toInt32)) / 4)) then (-7900) else (((vT + (f_X9_quotient (a1 - vT).toInt64 (f_X6_value 9 sf).toInt64).toInt32) + (f_X9_quotient (a1 - (vT + (f_X9_quotient (a1 - vT).toInt64 (f_X6_value 9 sf).toInt64).toInt32)).toInt64 (f_X6_value 9 sf).toInt64).toInt32) + ((a1 - ((vT + (f_X9_quotient (a1 - vT).toInt64 (f_X6_value 9 sf).toInt64).toInt32) + (f_X9_quotient (a1 - (vT + (f_X9_quotient (a1 - vT).toInt64 (f_X6_value 9 sf).toInt64).toInt32)).toInt64 (f_X6_value 9 sf).toInt64).toInt32)) / 4))) else ((((vT + (f_X9_quotient (a1 - vT).toInt64 (f_X6_value 9 sf).toInt64).toInt32) + (f_X9_quotient (a1 - (vT + (f_X9_quotient (a1 - vT).toInt64 (f_X6_value 9 sf).toInt64).toInt32)).toInt64 (f_X6_value 9 sf).toInt64).toInt32) + ((a1 - ((vT + (f_X9_quotient (a1 - vT).toInt64 (f_X6_value 9 sf).toInt64).toInt32) + (f_X9_quotient (a1 - (vT + (f_X9_quotient (a1 - vT).toInt64 (f_X6_value 9 sf).toInt64).toInt32)).toInt64 (f_X6_value 9 sf).toInt64).toInt32)) / 4)) - (f_X9_quotient a0.toInt64 (f_X6_value 10 sf).toInt64).toInt32))
    else
      (if (((vT + (f_X9_quotient (a1 - vT).toInt64 (f_X6_value 9 sf).toInt64).toInt32) + (f_X9_quotient (a1 - (vT + (f_X9_quotient (a1 - vT).toInt64 (f_X6_value 9 sf).toInt64).toInt32)).toInt64 (f_X6_value 9 sf).toInt64).toInt32) - (f_X9_quotient a0.toInt64 (f_X6_value 10 sf).toInt64).toInt32) < (if (-7900) < ((vT + (f_X9_quotient (a1 - vT).toInt64 (f_X6_value 9 sf).toInt64).toInt32) + (f_X9_quotient (a1 - (vT + (f_X9_quotient (a1 - vT).toInt64 (f_X6_value 9 sf).toInt64).toInt32)).toInt64 (f_X6_value 9 sf).toInt64).toInt32) then (-7900) else ((vT + (f_X9_quotient (a1 - vT).toInt64 (f_X6_value 9 sf).toInt64).toInt32) + (f_X9_quotient (a1 - (vT + (f_X9_quotient (a1 - vT).toInt64 (f_X6_value 9 sf).toInt64).toInt32)).toInt64 (f_X6_value 9 sf).toInt64).toInt32)) then (if (-7900) < ((vT + (f_X9_quotient (a1 - vT).toInt64 (f_X6_value 9 sf).toInt64).toInt32) + (f_X9_quotient (a1 - (vT + (f_X9_quotient (a1 - vT).toInt64 (f_X6_value 9 sf).toInt64).toInt32)).toInt64 (f_X6_value 9 sf).toInt64).toInt32) then (-7900) else ((vT + (f_X9_quotient (a1 - vT).toInt64 (f_X6_value 9 sf).toInt64).toInt32) + (f_X9_quotient (a1 - (vT + (f_X9_quotient (a1 - vT).toInt64 (f_X6_value 9 sf).toInt64).toInt32)).toInt64 (f_X6_value 9 sf).toInt64).toInt32)) else (((vT + (f_X9_quotient (a1 - vT).toInt64 (f_X6_value 9 sf).toInt64).toInt32) + (f_X9_quotient (a1 - (vT + (f_X9_quotient (a1 - vT).toInt64 (f_X6_value 9 sf).toInt64).toInt32)).toInt64 (f_X6_value 9 sf).toInt64).toInt32) - (f_X9_quotient a0.toInt64 (f_X6_value 10 sf).toInt64).toInt32))
  else
    if vD = true then
      (if (((vT + (f_X9_quotient (a1 - vT).toInt64 (f_X6_value 9 sf).toInt64).toInt32) + ((a1 - (vT + (f_X9_quotient (a1 - vT).toInt64 (f_X6_value 9 sf).toInt64).toInt32)) / 4)) - (f_X9_quotient a0.toInt64 (f_X6_value 10 sf).toInt64).toInt32) < (if (-7900) < ((vT + (f_X9_quotient (a1 - vT).toInt64 (f_X6_value 9 sf).toInt64).toInt32) + ((a1 - (vT + (f_X9_quotient (a1 - vT).toInt64 (f_X6_value 9 sf).toInt64).toInt32)) / 4)) then (-7900) else ((vT + (f_X9_quotient (a1 - vT).toInt64 (f_X6_value 9 sf).toInt64).toInt32) + ((a1 - (vT + (f_X9_quotient (a1 - vT).toInt64 (f_X6_value 9 sf).toInt64).toInt32)) / 4))) then (if (-7900) < ((vT + (f_X9_quotient (a1 - vT).toInt64 (f_X6_value 9 sf).toInt64).toInt32) + ((a1 - (vT + (f_X9_quotient (a1 - vT).toInt64 (f_X6_value 9 sf).toInt64).toInt32)) / 4)) then (-7900) else ((vT + (f_X9_quotient (a1 - vT).toInt64 (f_X6_value 9 sf).toInt64).toInt32) + ((a1 - (vT + (f_X9_quotient (a1 - vT).toInt64 (f_X6_value 9 sf).toInt64).toInt32)) / 4))) else (((vT + (f_X9_quotient (a1 - vT).toInt64 (f_X6_value 9 sf).toInt64).toInt32) + ((a1 - (vT + (f_X9_quotient (a1 - vT).toInt64 (f_X6_value 9 sf).toInt64).toInt32)) / 4)) - (f_X9_quotient a0.toInt64 (f_X6_value 10 sf).toInt64).toInt32))
    else
      (if ((vT + (f_X9_quotient (a1 - vT).toInt64 (f_X6_value 9 sf).toInt64).toInt32) - (f_X9_quotient a0.toInt64 (f_X6_value 10 sf).toInt64).toInt32) < (if (-7900) < (vT + (f_X9_quotient (a1 - vT).toInt64 (f_X6_value 9 sf).toInt64).toInt32) then (-7900) else (vT + (f_X9_quotient (a1 - vT).toInt64 (f_X6_value 9 sf).toInt64).toInt32)) then (if (-7900) < (vT + (f_X9_quotient (a1 - vT).toInt64 (f_X6_value 9 sf).toInt64).toInt32) then (-7900) else (vT + (f_X9_quotient (a1 - vT).toInt64 (f_X6_value 9 sf).toInt64).toInt32)) else ((vT + (f_X9_quotient (a1 - vT).toInt64 (f_X6_value 9 sf).toInt64).toInt32) - (f_X9_quotient a0.toInt64 (f_X6_value 10 sf).toInt64).toInt32))
set_option maxHeartbeats 4000000 in
set_option maxRecDepth 100000 in
theorem c_X1_changeTemperature (l : Launch) (D : va_G) (cI cJ cZ cB : ClassId) (sz : Nat) (aH : Nat) (aS : Nat) (aSv : Nat) (a0 : Int32) (a1 : Int32) (vT : Int32) (vG : Int64) (vM : Int32) (vO : Bool) (vN : Int32) (vD : Bool) (vA : Int32) (sf : Nat → Int32) (o : Int32) (ho : f_X1_changeTemperature a0 a1 vT vO vD sf = o) : Met l yX1_changeTemperature wsX1_changeTemperature ({ frames := 2, cells := 0, slots := 0, locals := 43 } : Room) (xPre D (xT cI cJ cZ cB) [.ref aH, .int a0, .int a1, .ref aS] [(aH, .inr (1, [.int vT, .long vG, .int vM, .int (bi vO), .int vN, .int (bi vD), .int vA])), (aS, .inr (6, [.ref aSv])), (aSv, .inl (cI, 11, .inl sf))] sz) (va_Qv (fun _ : Unit => True) (fun _ t => xB D ([(aH, .inr (1, [.int o, .long vG, .int vM, .int (bi vO), .int vN, .int (bi vD), .int vA])), (aS, .inr (6, [.ref aSv])), (aSv, .inl (cI, 11, .inl sf))]) (va_A [(aH, .inr (1, [.int vT, .long vG, .int vM, .int (bi vO), .int vN, .int (bi vD), .int vA])), (aS, .inr (6, [.ref aSv])), (aSv, .inl (cI, 11, .inl sf))] sz) t) (va_A [(aH, .inr (1, [.int vT, .long vG, .int vM, .int (bi vO), .int vN, .int (bi vD), .int vA])), (aS, .inr (6, [.ref aSv])), (aSv, .inl (cI, 11, .inl sf))] sz)) 0 0 (va_A [(aH, .inr (1, [.int vT, .long vG, .int vM, .int (bi vO), .int vN, .int (bi vD), .int vA])), (aS, .inr (6, [.ref aSv])), (aSv, .inl (cI, 11, .inl sf))] sz) := by
  refine xofW (Qc := fun A0 => va_Qv (fun _ : Unit => True) (fun _ t => xB D ([(aH, .inr (1, [.int o, .long vG, .int vM, .int (bi vO), .int vN, .int (bi vD), .int vA])), (aS, .inr (6, [.ref aSv])), (aSv, .inl (cI, 11, .inl sf))]) A0 t) A0) (fr := fun A => A) (cc := cX1_changeTemperature) (maxL := 6) (ret := none) (by decide) rfl (Nat.le_of_ble_eq_true rfl) ?_
  intro p e s m below meth c A ⟨hx, hb, hml, hown, hts⟩ hrt hlocks hnm hsz hK hW hA hG ls hl
  have hown : s.vm.findClass RX1 = some m.cls := hown
  have hl : lv_has ls 6 [(0, .ref aH), (1, .int a0), (2, .int a1), (3, .ref aS)] := hl
  obtain ⟨H, hH⟩ : ∃ H, H = s.heap := ⟨_, rfl⟩
  have hW : xW D A s.heap ([(aH, .inr (1, [.int vT, .long vG, .int vM, .int (bi vO), .int vN, .int (bi vD), .int vA])), (aS, .inr (6, [.ref aSv])), (aSv, .inl (cI, 11, .inl sf))] ++ []) H [] := by rw [hH]; exact hW
  have w1 := hts (.fieldLink RX1 9 "DryIceLane$Hold" "temperature" "I") (by decide +kernel)
  have hin1 : ∀ w ∈ u_ws RX1 TX1 7, w ∈ wsX1_changeTemperature := by decide +kernel
  have w3 := hts (.initialized RX9) (by decide +kernel)
  have w4 := hts (.static yX9_quotient) (by decide +kernel)
  have w5 := hts (.fieldLink RX1 22 "DryIceLane$Hold" "ventOpen" "Z") (by decide +kernel)
  have w6 := hts (.fieldLink RX1 29 "DryIceLane$Hold" "doorOpen" "Z") (by decide +kernel)
  have w7 := hts (.methodLink RX1 72 Lib.Math.min.name) (by decide +kernel)
  have w8 := hts (.static Lib.Math.min.name) (by decide +kernel)
  have w9 := hts (.initialized "java/lang/Math") (by decide +kernel)
  have w10 := hts (.code Lib.Math.min.name Lib.Math.min.code 2 (some .int)) (by decide +kernel)
  have w11 := hts (.methodLink RX1 78 Lib.Math.max.name) (by decide +kernel)
  have w12 := hts (.static Lib.Math.max.name) (by decide +kernel)
  have w13 := hts (.code Lib.Math.max.name Lib.Math.max.code 2 (some .int)) (by decide +kernel)
  rw [← hH]
  refine lv_aload_n hx hb dX1_changeTemperature_0 rfl (lv_at hl 3 rfl) ?_
  refine lv_bipush (v := 9) hx hb dX1_changeTemperature_1 (by decide) ?_
  refine vp_callSi (va_Run.run (xrunV (As := [.int 9]) (rest := []) ⟨hx, hb, hml, hown, hts⟩ (c_X6_value l D cI cJ cZ cB H.size aS aSv 9 sf _ rfl) (cwV 1 hts gX1_changeTemperature_X6_value rfl rfl rfl (by decide +kernel) ⟨Nat.le_of_ble_eq_true rfl, Nat.le_of_ble_eq_true rfl⟩) hK hG hW.2.2 (xsubQ hW hA [1, 2] rfl (by decide)) (va_recv hK hW.1 (ci := 6) (q0 := 1) rfl rfl) rfl hl.1 rfl (Nat.le_of_ble_eq_true rfl) dX1_changeTemperature_3 ⟨Nat.le_of_ble_eq_true rfl, Nat.le_of_ble_eq_true rfl⟩)) (fun r1 hq => ?_)
  subst hq
  refine lv_istore (lv' := [(4, .int (f_X6_value 9 sf)), (0, .ref aH), (1, .int a0), (2, .int a1), (3, .ref aS)]) hx hb dX1_changeTemperature_6 hl (by decide) rfl (fun ls hl => ?_)
  refine lv_aload_n hx hb dX1_changeTemperature_8 rfl (lv_at hl 1 rfl) ?_
  refine lv_dup hx hb dX1_changeTemperature_9 rfl ?_
  refine xget (ci := 1) (C := RX1) (T := TX1) (N := 7) hx hb hts hin1 hown hK hW.1 0 rfl rfl 0 (by decide) w1 rfl dX1_changeTemperature_10 ?_
  refine lv_iload_n hx hb dX1_changeTemperature_13 rfl (lv_at hl 3 rfl) ?_
  refine lv_aload_n hx hb dX1_changeTemperature_14 rfl (lv_at hl 1 rfl) ?_
  refine xget (ci := 1) (C := RX1) (T := TX1) (N := 7) hx hb hts hin1 hown hK hW.1 0 rfl rfl 0 (by decide) w1 rfl dX1_changeTemperature_15 ?_
  refine lv_isub hx hb dX1_changeTemperature_18 ?_
  refine lv_i2l hx hb dX1_changeTemperature_19 rfl ?_
  refine lv_iload hx hb dX1_changeTemperature_20 (lv_at hl 0 rfl) ?_
  refine lv_i2l hx hb dX1_changeTemperature_22 rfl ?_
  refine vp_callSl (va_Run.run (xrunSN (As := [.long (a1 - vT).toInt64, .long (f_X6_value 9 sf).toInt64]) (rest := [.int vT, .ref aH]) ⟨hx, hb, hml, hown, hts⟩ (c_X9_quotient l D cI cJ cZ cB H.size (a1 - vT).toInt64 (f_X6_value 9 sf).toInt64 _ rfl) ⟨va_cnB (host := "DryIceLane") 2 hts gX1_changeTemperature_X9_quotient_n43 rfl rfl rfl (hG.1.1 (.methodLinkNest RX1 43 yX9_quotient "DryIceLane") (by decide +kernel)) w3 (by decide +kernel) ⟨Nat.le_of_ble_eq_true rfl, Nat.le_of_ble_eq_true rfl⟩, w4, trivial⟩ hK hG hW.2.2 (xsubQ hW hA [] rfl (by decide)) rfl hl.1 rfl (Nat.le_of_ble_eq_true rfl) dX1_changeTemperature_23 ⟨Nat.le_of_ble_eq_true rfl, Nat.le_of_ble_eq_true rfl⟩)) (fun r2 hq => ?_)
  subst hq
  refine lv_l2i hx hb dX1_changeTemperature_26 rfl ?_
  refine lv_iadd hx hb dX1_changeTemperature_27 ?_
  refine xput (ci := 1) (v := .int (vT + (f_X9_quotient (a1 - vT).toInt64 (f_X6_value 9 sf).toInt64).toInt32)) (ty := .int) (C := RX1) (T := TX1) (N := 7) hx hb hts hin1 tyX1 tyX1_ok nmX1 hown hK hW 0 rfl (Nat.le_of_ble_eq_true rfl) rfl 0 (by decide) w1 rfl (by decide +kernel) rfl rfl (Nat.le_of_ble_eq_true rfl) dX1_changeTemperature_28 (fun H locs hW => ?_)
  have hW : xW D A s.heap ([(aH, .inr (1, [.int (vT + (f_X9_quotient (a1 - vT).toInt64 (f_X6_value 9 sf).toInt64).toInt32), .long vG, .int vM, .int (bi vO), .int vN, .int (bi vD), .int vA])), (aS, .inr (6, [.ref aSv])), (aSv, .inl (cI, 11, .inl sf))] ++ []) H _ := hW
  refine lv_aload_n hx hb dX1_changeTemperature_31 rfl (lv_at hl 1 rfl) ?_
  refine xget (ci := 1) (C := RX1) (T := TX1) (N := 7) hx hb hts hin1 hown hK hW.1 0 rfl rfl 3 (by decide) w5 rfl dX1_changeTemperature_32 ?_
  refine xb_eq (tgt := 61) hx hb dX1_changeTemperature_35 (by decide) (fun c1 => ?_) (fun c1 => ?_)
  · skip
    refine lv_aload_n hx hb dX1_changeTemperature_61 rfl (lv_at hl 1 rfl) ?_
    refine xget (ci := 1) (C := RX1) (T := TX1) (N := 7) hx hb hts hin1 hown hK hW.1 0 rfl rfl 5 (by decide) w6 rfl dX1_changeTemperature_62 ?_
    refine xb_eq (tgt := 85) hx hb dX1_changeTemperature_65 (by decide) (fun c2 => ?_) (fun c2 => ?_)
    · skip
      refine lv_aload_n hx hb dX1_changeTemperature_85 rfl (lv_at hl 1 rfl) ?_
      refine xget (ci := 1) (C := RX1) (T := TX1) (N := 7) hx hb hts hin1 hown hK hW.1 0 rfl rfl 0 (by decide) w1 rfl dX1_changeTemperature_86 ?_
      refine lv_iload_n hx hb dX1_changeTemperature_89 rfl (lv_at hl 2 rfl) ?_
      refine lv_i2l hx hb dX1_changeTemperature_90 rfl ?_
      refine lv_aload_n hx hb dX1_changeTemperature_91 rfl (lv_at hl 4 rfl) ?_
      refine lv_bipush (v := 10) hx hb dX1_changeTemperature_92 (by decide) ?_
      refine vp_callSi (va_Run.run (xrunV (As := [.int 10]) (rest := [.long a0.toInt64, .int (vT + (f_X9_quotient (a1 - vT).toInt64 (f_X6_value 9 sf).toInt64).toInt32)]) ⟨hx, hb, hml, hown, hts⟩ (c_X6_value l D cI cJ cZ cB H.size aS aSv 10 sf _ rfl) (cwV 1 hts gX1_changeTemperature_X6_value rfl rfl rfl (by decide +kernel) ⟨Nat.le_of_ble_eq_true rfl, Nat.le_of_ble_eq_true rfl⟩) hK hG hW.2.2 (xsubQ hW hA [1, 2] rfl (by decide)) (va_recv hK hW.1 (ci := 6) (q0 := 1) rfl rfl) rfl hl.1 rfl (Nat.le_of_ble_eq_true rfl) dX1_changeTemperature_94 ⟨Nat.le_of_ble_eq_true rfl, Nat.le_of_ble_eq_true rfl⟩)) (fun r3 hq => ?_)
      subst hq
      refine lv_i2l hx hb dX1_changeTemperature_97 rfl ?_
      refine vp_callSl (va_Run.run (xrunSN (As := [.long a0.toInt64, .long (f_X6_value 10 sf).toInt64]) (rest := [.int (vT + (f_X9_quotient (a1 - vT).toInt64 (f_X6_value 9 sf).toInt64).toInt32)]) ⟨hx, hb, hml, hown, hts⟩ (c_X9_quotient l D cI cJ cZ cB H.size a0.toInt64 (f_X6_value 10 sf).toInt64 _ rfl) ⟨va_cnB (host := "DryIceLane") 2 hts gX1_changeTemperature_X9_quotient_n43 rfl rfl rfl (hG.1.1 (.methodLinkNest RX1 43 yX9_quotient "DryIceLane") (by decide +kernel)) w3 (by decide +kernel) ⟨Nat.le_of_ble_eq_true rfl, Nat.le_of_ble_eq_true rfl⟩, w4, trivial⟩ hK hG hW.2.2 (xsubQ hW hA [] rfl (by decide)) rfl hl.1 rfl (Nat.le_of_ble_eq_true rfl) dX1_changeTemperature_98 ⟨Nat.le_of_ble_eq_true rfl, Nat.le_of_ble_eq_true rfl⟩)) (fun r4 hq => ?_)
      subst hq
      refine lv_l2i hx hb dX1_changeTemperature_101 rfl ?_
      refine lv_isub hx hb dX1_changeTemperature_102 ?_
      refine lv_istore (lv' := [(5, .int ((vT + (f_X9_quotient (a1 - vT).toInt64 (f_X6_value 9 sf).toInt64).toInt32) - (f_X9_quotient a0.toInt64 (f_X6_value 10 sf).toInt64).toInt32)), (4, .int (f_X6_value 9 sf)), (0, .ref aH), (1, .int a0), (2, .int a1), (3, .ref aS)]) hx hb dX1_changeTemperature_103 hl (by decide) rfl (fun ls hl => ?_)
      refine lv_aload_n hx hb dX1_changeTemperature_105 rfl (lv_at hl 2 rfl) ?_
      refine lv_iload hx hb dX1_changeTemperature_106 (lv_at hl 0 rfl) ?_
      refine lv_aload_n hx hb dX1_changeTemperature_108 rfl (lv_at hl 2 rfl) ?_
      refine xget (ci := 1) (C := RX1) (T := TX1) (N := 7) hx hb hts hin1 hown hK hW.1 0 rfl rfl 0 (by decide) w1 rfl dX1_changeTemperature_109 ?_
      refine lv_sipush (v := -7900) hx hb dX1_changeTemperature_112 (by decide) ?_
      refine va_mmin hx hb (by rw [hml]; exact hl.1.symm) hown w7 w8 w9 w10 (Nat.le_of_ble_eq_true rfl) (Nat.le_of_ble_eq_true rfl) (by omega) (by omega) dX1_changeTemperature_115 ?_
      refine va_mmax hx hb (by rw [hml]; exact hl.1.symm) hown w11 w12 w9 w13 (Nat.le_of_ble_eq_true rfl) (Nat.le_of_ble_eq_true rfl) (by omega) (by omega) dX1_changeTemperature_118 ?_
      refine xput (ci := 1) (v := .int (if ((vT + (f_X9_quotient (a1 - vT).toInt64 (f_X6_value 9 sf).toInt64).toInt32) - (f_X9_quotient a0.toInt64 (f_X6_value 10 sf).toInt64).toInt32) < (if (-7900) < (vT + (f_X9_quotient (a1 - vT).toInt64 (f_X6_value 9 sf).toInt64).toInt32) then (-7900) else (vT + (f_X9_quotient (a1 - vT).toInt64 (f_X6_value 9 sf).toInt64).toInt32)) then (if (-7900) < (vT + (f_X9_quotient (a1 - vT).toInt64 (f_X6_value 9 sf).toInt64).toInt32) then (-7900) else (vT + (f_X9_quotient (a1 - vT).toInt64 (f_X6_value 9 sf).toInt64).toInt32)) else ((vT + (f_X9_quotient (a1 - vT).toInt64 (f_X6_value 9 sf).toInt64).toInt32) - (f_X9_quotient a0.toInt64 (f_X6_value 10 sf).toInt64).toInt32))) (ty := .int) (C := RX1) (T := TX1) (N := 7) hx hb hts hin1 tyX1 tyX1_ok nmX1 hown hK hW 0 rfl (Nat.le_of_ble_eq_true rfl) rfl 0 (by decide) w1 rfl (by decide +kernel) rfl rfl (Nat.le_of_ble_eq_true rfl) dX1_changeTemperature_121 (fun H locs hW => ?_)
      have hW : xW D A s.heap ([(aH, .inr (1, [.int (if ((vT + (f_X9_quotient (a1 - vT).toInt64 (f_X6_value 9 sf).toInt64).toInt32) - (f_X9_quotient a0.toInt64 (f_X6_value 10 sf).toInt64).toInt32) < (if (-7900) < (vT + (f_X9_quotient (a1 - vT).toInt64 (f_X6_value 9 sf).toInt64).toInt32) then (-7900) else (vT + (f_X9_quotient (a1 - vT).toInt64 (f_X6_value 9 sf).toInt64).toInt32)) then (if (-7900) < (vT + (f_X9_quotient (a1 - vT).toInt64 (f_X6_value 9 sf).toInt64).toInt32) then (-7900) else (vT + (f_X9_quotient (a1 - vT).toInt64 (f_X6_value 9 sf).toInt64).toInt32)) else ((vT + (f_X9_quotient (a1 - vT).toInt64 (f_X6_value 9 sf).toInt64).toInt32) - (f_X9_quotient a0.toInt64 (f_X6_value 10 sf).toInt64).toInt32)), .long vG, .int vM, .int (bi vO), .int vN, .int (bi vD), .int vA])), (aS, .inr (6, [.ref aSv])), (aSv, .inl (cI, 11, .inl sf))] ++ []) H _ := hW
      have hF : f_X1_changeTemperature a0 a1 vT vO vD sf = (if ((vT + (f_X9_quotient (a1 - vT).toInt64 (f_X6_value 9 sf).toInt64).toInt32) - (f_X9_quotient a0.toInt64 (f_X6_value 10 sf).toInt64).toInt32) < (if (-7900) < (vT + (f_X9_quotient (a1 - vT).toInt64 (f_X6_value 9 sf).toInt64).toInt32) then (-7900) else (vT + (f_X9_quotient (a1 - vT).toInt64 (f_X6_value 9 sf).toInt64).toInt32)) then (if (-7900) < (vT + (f_X9_quotient (a1 - vT).toInt64 (f_X6_value 9 sf).toInt64).toInt32) then (-7900) else (vT + (f_X9_quotient (a1 - vT).toInt64 (f_X6_value 9 sf).toInt64).toInt32)) else ((vT + (f_X9_quotient (a1 - vT).toInt64 (f_X6_value 9 sf).toInt64).toInt32) - (f_X9_quotient a0.toInt64 (f_X6_value 10 sf).toInt64).toInt32)) := by
        rw [f_X1_changeTemperature, if_neg c1, if_neg c2]
      obtain rfl : (if ((vT + (f_X9_quotient (a1 - vT).toInt64 (f_X6_value 9 sf).toInt64).toInt32) - (f_X9_quotient a0.toInt64 (f_X6_value 10 sf).toInt64).toInt32) < (if (-7900) < (vT + (f_X9_quotient (a1 - vT).toInt64 (f_X6_value 9 sf).toInt64).toInt32) then (-7900) else (vT + (f_X9_quotient (a1 - vT).toInt64 (f_X6_value 9 sf).toInt64).toInt32)) then (if (-7900) < (vT + (f_X9_quotient (a1 - vT).toInt64 (f_X6_value 9 sf).toInt64).toInt32) then (-7900) else (vT + (f_X9_quotient (a1 - vT).toInt64 (f_X6_value 9 sf).toInt64).toInt32)) else ((vT + (f_X9_quotient (a1 - vT).toInt64 (f_X6_value 9 sf).toInt64).toInt32) - (f_X9_quotient a0.toInt64 (f_X6_value 10 sf).toInt64).toInt32)) = o := hF.symm.trans ho
      exact W.vret hx hb hrt (fun t ht hM => ⟨⟨(), rfl, trivial, ⟨by rw [ht]; exact hW.1, hW.2.1⟩⟩, hW.2.2.F ht⟩) hW.2.2.2.2 dX1_changeTemperature_124 hlocks
    · skip
      refine lv_aload_n hx hb dX1_changeTemperature_68 rfl (lv_at hl 1 rfl) ?_
      refine lv_dup hx hb dX1_changeTemperature_69 rfl ?_
      refine xget (ci := 1) (C := RX1) (T := TX1) (N := 7) hx hb hts hin1 hown hK hW.1 0 rfl rfl 0 (by decide) w1 rfl dX1_changeTemperature_70 ?_
      refine lv_iload_n hx hb dX1_changeTemperature_73 rfl (lv_at hl 3 rfl) ?_
      refine lv_aload_n hx hb dX1_changeTemperature_74 rfl (lv_at hl 1 rfl) ?_
      refine xget (ci := 1) (C := RX1) (T := TX1) (N := 7) hx hb hts hin1 hown hK hW.1 0 rfl rfl 0 (by decide) w1 rfl dX1_changeTemperature_75 ?_
      refine lv_isub hx hb dX1_changeTemperature_78 ?_
      refine lv_iconst (v := 4) hx hb dX1_changeTemperature_79 (by decide) ?_
      refine lv_idiv hx hb dX1_changeTemperature_80 ((by decide)) ?_
      refine lv_iadd hx hb dX1_changeTemperature_81 ?_
      refine xput (ci := 1) (v := .int ((vT + (f_X9_quotient (a1 - vT).toInt64 (f_X6_value 9 sf).toInt64).toInt32) + ((a1 - (vT + (f_X9_quotient (a1 - vT).toInt64 (f_X6_value 9 sf).toInt64).toInt32)) / 4))) (ty := .int) (C := RX1) (T := TX1) (N := 7) hx hb hts hin1 tyX1 tyX1_ok nmX1 hown hK hW 0 rfl (Nat.le_of_ble_eq_true rfl) rfl 0 (by decide) w1 rfl (by decide +kernel) rfl rfl (Nat.le_of_ble_eq_true rfl) dX1_changeTemperature_82 (fun H locs hW => ?_)
      have hW : xW D A s.heap ([(aH, .inr (1, [.int ((vT + (f_X9_quotient (a1 - vT).toInt64 (f_X6_value 9 sf).toInt64).toInt32) + ((a1 - (vT + (f_X9_quotient (a1 - vT).toInt64 (f_X6_value 9 sf).toInt64).toInt32)) / 4)), .long vG, .int vM, .int (bi vO), .int vN, .int (bi vD), .int vA])), (aS, .inr (6, [.ref aSv])), (aSv, .inl (cI, 11, .inl sf))] ++ []) H _ := hW
      refine lv_aload_n hx hb dX1_changeTemperature_85 rfl (lv_at hl 1 rfl) ?_
      refine xget (ci := 1) (C := RX1) (T := TX1) (N := 7) hx hb hts hin1 hown hK hW.1 0 rfl rfl 0 (by decide) w1 rfl dX1_changeTemperature_86 ?_
      refine lv_iload_n hx hb dX1_changeTemperature_89 rfl (lv_at hl 2 rfl) ?_
      refine lv_i2l hx hb dX1_changeTemperature_90 rfl ?_
      refine lv_aload_n hx hb dX1_changeTemperature_91 rfl (lv_at hl 4 rfl) ?_
      refine lv_bipush (v := 10) hx hb dX1_changeTemperature_92 (by decide) ?_
      refine vp_callSi (va_Run.run (xrunV (As := [.int 10]) (rest := [.long a0.toInt64, .int ((vT + (f_X9_quotient (a1 - vT).toInt64 (f_X6_value 9 sf).toInt64).toInt32) + ((a1 - (vT + (f_X9_quotient (a1 - vT).toInt64 (f_X6_value 9 sf).toInt64).toInt32)) / 4))]) ⟨hx, hb, hml, hown, hts⟩ (c_X6_value l D cI cJ cZ cB H.size aS aSv 10 sf _ rfl) (cwV 1 hts gX1_changeTemperature_X6_value rfl rfl rfl (by decide +kernel) ⟨Nat.le_of_ble_eq_true rfl, Nat.le_of_ble_eq_true rfl⟩) hK hG hW.2.2 (xsubQ hW hA [1, 2] rfl (by decide)) (va_recv hK hW.1 (ci := 6) (q0 := 1) rfl rfl) rfl hl.1 rfl (Nat.le_of_ble_eq_true rfl) dX1_changeTemperature_94 ⟨Nat.le_of_ble_eq_true rfl, Nat.le_of_ble_eq_true rfl⟩)) (fun r5 hq => ?_)
      subst hq
      refine lv_i2l hx hb dX1_changeTemperature_97 rfl ?_
      refine vp_callSl (va_Run.run (xrunSN (As := [.long a0.toInt64, .long (f_X6_value 10 sf).toInt64]) (rest := [.int ((vT + (f_X9_quotient (a1 - vT).toInt64 (f_X6_value 9 sf).toInt64).toInt32) + ((a1 - (vT + (f_X9_quotient (a1 - vT).toInt64 (f_X6_value 9 sf).toInt64).toInt32)) / 4))]) ⟨hx, hb, hml, hown, hts⟩ (c_X9_quotient l D cI cJ cZ cB H.size a0.toInt64 (f_X6_value 10 sf).toInt64 _ rfl) ⟨va_cnB (host := "DryIceLane") 2 hts gX1_changeTemperature_X9_quotient_n43 rfl rfl rfl (hG.1.1 (.methodLinkNest RX1 43 yX9_quotient "DryIceLane") (by decide +kernel)) w3 (by decide +kernel) ⟨Nat.le_of_ble_eq_true rfl, Nat.le_of_ble_eq_true rfl⟩, w4, trivial⟩ hK hG hW.2.2 (xsubQ hW hA [] rfl (by decide)) rfl hl.1 rfl (Nat.le_of_ble_eq_true rfl) dX1_changeTemperature_98 ⟨Nat.le_of_ble_eq_true rfl, Nat.le_of_ble_eq_true rfl⟩)) (fun r6 hq => ?_)
      subst hq
      refine lv_l2i hx hb dX1_changeTemperature_101 rfl ?_
      refine lv_isub hx hb dX1_changeTemperature_102 ?_
      refine lv_istore (lv' := [(5, .int (((vT + (f_X9_quotient (a1 - vT).toInt64 (f_X6_value 9 sf).toInt64).toInt32) + ((a1 - (vT + (f_X9_quotient (a1 - vT).toInt64 (f_X6_value 9 sf).toInt64).toInt32)) / 4)) - (f_X9_quotient a0.toInt64 (f_X6_value 10 sf).toInt64).toInt32)), (4, .int (f_X6_value 9 sf)), (0, .ref aH), (1, .int a0), (2, .int a1), (3, .ref aS)]) hx hb dX1_changeTemperature_103 hl (by decide) rfl (fun ls hl => ?_)
      refine lv_aload_n hx hb dX1_changeTemperature_105 rfl (lv_at hl 2 rfl) ?_
      refine lv_iload hx hb dX1_changeTemperature_106 (lv_at hl 0 rfl) ?_
      refine lv_aload_n hx hb dX1_changeTemperature_108 rfl (lv_at hl 2 rfl) ?_
      refine xget (ci := 1) (C := RX1) (T := TX1) (N := 7) hx hb hts hin1 hown hK hW.1 0 rfl rfl 0 (by decide) w1 rfl dX1_changeTemperature_109 ?_
      refine lv_sipush (v := -7900) hx hb dX1_changeTemperature_112 (by decide) ?_
      refine va_mmin hx hb (by rw [hml]; exact hl.1.symm) hown w7 w8 w9 w10 (Nat.le_of_ble_eq_true rfl) (Nat.le_of_ble_eq_true rfl) (by omega) (by omega) dX1_changeTemperature_115 ?_
      refine va_mmax hx hb (by rw [hml]; exact hl.1.symm) hown w11 w12 w9 w13 (Nat.le_of_ble_eq_true rfl) (Nat.le_of_ble_eq_true rfl) (by omega) (by omega) dX1_changeTemperature_118 ?_
      refine xput (ci := 1) (v := .int (if (((vT + (f_X9_quotient (a1 - vT).toInt64 (f_X6_value 9 sf).toInt64).toInt32) + ((a1 - (vT + (f_X9_quotient (a1 - vT).toInt64 (f_X6_value 9 sf).toInt64).toInt32)) / 4)) - (f_X9_quotient a0.toInt64 (f_X6_value 10 sf).toInt64).toInt32) < (if (-7900) < ((vT + (f_X9_quotient (a1 - vT).toInt64 (f_X6_value 9 sf).toInt64).toInt32) + ((a1 - (vT + (f_X9_quotient (a1 - vT).toInt64 (f_X6_value 9 sf).toInt64).toInt32)) / 4)) then (-7900) else ((vT + (f_X9_quotient (a1 - vT).toInt64 (f_X6_value 9 sf).toInt64).toInt32) + ((a1 - (vT + (f_X9_quotient (a1 - vT).toInt64 (f_X6_value 9 sf).toInt64).toInt32)) / 4))) then (if (-7900) < ((vT + (f_X9_quotient (a1 - vT).toInt64 (f_X6_value 9 sf).toInt64).toInt32) + ((a1 - (vT + (f_X9_quotient (a1 - vT).toInt64 (f_X6_value 9 sf).toInt64).toInt32)) / 4)) then (-7900) else ((vT + (f_X9_quotient (a1 - vT).toInt64 (f_X6_value 9 sf).toInt64).toInt32) + ((a1 - (vT + (f_X9_quotient (a1 - vT).toInt64 (f_X6_value 9 sf).toInt64).toInt32)) / 4))) else (((vT + (f_X9_quotient (a1 - vT).toInt64 (f_X6_value 9 sf).toInt64).toInt32) + ((a1 - (vT + (f_X9_quotient (a1 - vT).toInt64 (f_X6_value 9 sf).toInt64).toInt32)) / 4)) - (f_X9_quotient a0.toInt64 (f_X6_value 10 sf).toInt64).toInt32))) (ty := .int) (C := RX1) (T := TX1) (N := 7) hx hb hts hin1 tyX1 tyX1_ok nmX1 hown hK hW 0 rfl (Nat.le_of_ble_eq_true rfl) rfl 0 (by decide) w1 rfl (by decide +kernel) rfl rfl (Nat.le_of_ble_eq_true rfl) dX1_changeTemperature_121 (fun H locs hW => ?_)
      have hW : xW D A s.heap ([(aH, .inr (1, [.int (if (((vT + (f_X9_quotient (a1 - vT).toInt64 (f_X6_value 9 sf).toInt64).toInt32) + ((a1 - (vT + (f_X9_quotient (a1 - vT).toInt64 (f_X6_value 9 sf).toInt64).toInt32)) / 4)) - (f_X9_quotient a0.toInt64 (f_X6_value 10 sf).toInt64).toInt32) < (if (-7900) < ((vT + (f_X9_quotient (a1 - vT).toInt64 (f_X6_value 9 sf).toInt64).toInt32) + ((a1 - (vT + (f_X9_quotient (a1 - vT).toInt64 (f_X6_value 9 sf).toInt64).toInt32)) / 4)) then (-7900) else ((vT + (f_X9_quotient (a1 - vT).toInt64 (f_X6_value 9 sf).toInt64).toInt32) + ((a1 - (vT + (f_X9_quotient (a1 - vT).toInt64 (f_X6_value 9 sf).toInt64).toInt32)) / 4))) then (if (-7900) < ((vT + (f_X9_quotient (a1 - vT).toInt64 (f_X6_value 9 sf).toInt64).toInt32) + ((a1 - (vT + (f_X9_quotient (a1 - vT).toInt64 (f_X6_value 9 sf).toInt64).toInt32)) / 4)) then (-7900) else ((vT + (f_X9_quotient (a1 - vT).toInt64 (f_X6_value 9 sf).toInt64).toInt32) + ((a1 - (vT + (f_X9_quotient (a1 - vT).toInt64 (f_X6_value 9 sf).toInt64).toInt32)) / 4))) else (((vT + (f_X9_quotient (a1 - vT).toInt64 (f_X6_value 9 sf).toInt64).toInt32) + ((a1 - (vT + (f_X9_quotient (a1 - vT).toInt64 (f_X6_value 9 sf).toInt64).toInt32)) / 4)) - (f_X9_quotient a0.toInt64 (f_X6_value 10 sf).toInt64).toInt32)), .long vG, .int vM, .int (bi vO), .int vN, .int (bi vD), .int vA])), (aS, .inr (6, [.ref aSv])), (aSv, .inl (cI, 11, .inl sf))] ++ []) H _ := hW
      have hF : f_X1_changeTemperature a0 a1 vT vO vD sf = (if (((vT + (f_X9_quotient (a1 - vT).toInt64 (f_X6_value 9 sf).toInt64).toInt32) + ((a1 - (vT + (f_X9_quotient (a1 - vT).toInt64 (f_X6_value 9 sf).toInt64).toInt32)) / 4)) - (f_X9_quotient a0.toInt64 (f_X6_value 10 sf).toInt64).toInt32) < (if (-7900) < ((vT + (f_X9_quotient (a1 - vT).toInt64 (f_X6_value 9 sf).toInt64).toInt32) + ((a1 - (vT + (f_X9_quotient (a1 - vT).toInt64 (f_X6_value 9 sf).toInt64).toInt32)) / 4)) then (-7900) else ((vT + (f_X9_quotient (a1 - vT).toInt64 (f_X6_value 9 sf).toInt64).toInt32) + ((a1 - (vT + (f_X9_quotient (a1 - vT).toInt64 (f_X6_value 9 sf).toInt64).toInt32)) / 4))) then (if (-7900) < ((vT + (f_X9_quotient (a1 - vT).toInt64 (f_X6_value 9 sf).toInt64).toInt32) + ((a1 - (vT + (f_X9_quotient (a1 - vT).toInt64 (f_X6_value 9 sf).toInt64).toInt32)) / 4)) then (-7900) else ((vT + (f_X9_quotient (a1 - vT).toInt64 (f_X6_value 9 sf).toInt64).toInt32) + ((a1 - (vT + (f_X9_quotient (a1 - vT).toInt64 (f_X6_value 9 sf).toInt64).toInt32)) / 4))) else (((vT + (f_X9_quotient (a1 - vT).toInt64 (f_X6_value 9 sf).toInt64).toInt32) + ((a1 - (vT + (f_X9_quotient (a1 - vT).toInt64 (f_X6_value 9 sf).toInt64).toInt32)) / 4)) - (f_X9_quotient a0.toInt64 (f_X6_value 10 sf).toInt64).toInt32)) := by
        rw [f_X1_changeTemperature, if_neg c1, if_pos c2]
      obtain rfl : (if (((vT + (f_X9_quotient (a1 - vT).toInt64 (f_X6_value 9 sf).toInt64).toInt32) + ((a1 - (vT + (f_X9_quotient (a1 - vT).toInt64 (f_X6_value 9 sf).toInt64).toInt32)) / 4)) - (f_X9_quotient a0.toInt64 (f_X6_value 10 sf).toInt64).toInt32) < (if (-7900) < ((vT + (f_X9_quotient (a1 - vT).toInt64 (f_X6_value 9 sf).toInt64).toInt32) + ((a1 - (vT + (f_X9_quotient (a1 - vT).toInt64 (f_X6_value 9 sf).toInt64).toInt32)) / 4)) then (-7900) else ((vT + (f_X9_quotient (a1 - vT).toInt64 (f_X6_value 9 sf).toInt64).toInt32) + ((a1 - (vT + (f_X9_quotient (a1 - vT).toInt64 (f_X6_value 9 sf).toInt64).toInt32)) / 4))) then (if (-7900) < ((vT + (f_X9_quotient (a1 - vT).toInt64 (f_X6_value 9 sf).toInt64).toInt32) + ((a1 - (vT + (f_X9_quotient (a1 - vT).toInt64 (f_X6_value 9 sf).toInt64).toInt32)) / 4)) then (-7900) else ((vT + (f_X9_quotient (a1 - vT).toInt64 (f_X6_value 9 sf).toInt64).toInt32) + ((a1 - (vT + (f_X9_quotient (a1 - vT).toInt64 (f_X6_value 9 sf).toInt64).toInt32)) / 4))) else (((vT + (f_X9_quotient (a1 - vT).toInt64 (f_X6_value 9 sf).toInt64).toInt32) + ((a1 - (vT + (f_X9_quotient (a1 - vT).toInt64 (f_X6_value 9 sf).toInt64).toInt32)) / 4)) - (f_X9_quotient a0.toInt64 (f_X6_value 10 sf).toInt64).toInt32)) = o := hF.symm.trans ho
      exact W.vret hx hb hrt (fun t ht hM => ⟨⟨(), rfl, trivial, ⟨by rw [ht]; exact hW.1, hW.2.1⟩⟩, hW.2.2.F ht⟩) hW.2.2.2.2 dX1_changeTemperature_124 hlocks
  · skip
    refine lv_aload_n hx hb dX1_changeTemperature_38 rfl (lv_at hl 1 rfl) ?_
    refine lv_dup hx hb dX1_changeTemperature_39 rfl ?_
    refine xget (ci := 1) (C := RX1) (T := TX1) (N := 7) hx hb hts hin1 hown hK hW.1 0 rfl rfl 0 (by decide) w1 rfl dX1_changeTemperature_40 ?_
    refine lv_iload_n hx hb dX1_changeTemperature_43 rfl (lv_at hl 3 rfl) ?_
    refine lv_aload_n hx hb dX1_changeTemperature_44 rfl (lv_at hl 1 rfl) ?_
    refine xget (ci := 1) (C := RX1) (T := TX1) (N := 7) hx hb hts hin1 hown hK hW.1 0 rfl rfl 0 (by decide) w1 rfl dX1_changeTemperature_45 ?_
    refine lv_isub hx hb dX1_changeTemperature_48 ?_
    refine lv_i2l hx hb dX1_changeTemperature_49 rfl ?_
    refine lv_iload hx hb dX1_changeTemperature_50 (lv_at hl 0 rfl) ?_
    refine lv_i2l hx hb dX1_changeTemperature_52 rfl ?_
    refine vp_callSl (va_Run.run (xrunSN (As := [.long (a1 - (vT + (f_X9_quotient (a1 - vT).toInt64 (f_X6_value 9 sf).toInt64).toInt32)).toInt64, .long (f_X6_value 9 sf).toInt64]) (rest := [.int (vT + (f_X9_quotient (a1 - vT).toInt64 (f_X6_value 9 sf).toInt64).toInt32), .ref aH]) ⟨hx, hb, hml, hown, hts⟩ (c_X9_quotient l D cI cJ cZ cB H.size (a1 - (vT + (f_X9_quotient (a1 - vT).toInt64 (f_X6_value 9 sf).toInt64).toInt32)).toInt64 (f_X6_value 9 sf).toInt64 _ rfl) ⟨va_cnB (host := "DryIceLane") 2 hts gX1_changeTemperature_X9_quotient_n43 rfl rfl rfl (hG.1.1 (.methodLinkNest RX1 43 yX9_quotient "DryIceLane") (by decide +kernel)) w3 (by decide +kernel) ⟨Nat.le_of_ble_eq_true rfl, Nat.le_of_ble_eq_true rfl⟩, w4, trivial⟩ hK hG hW.2.2 (xsubQ hW hA [] rfl (by decide)) rfl hl.1 rfl (Nat.le_of_ble_eq_true rfl) dX1_changeTemperature_53 ⟨Nat.le_of_ble_eq_true rfl, Nat.le_of_ble_eq_true rfl⟩)) (fun r7 hq => ?_)
    subst hq
    refine lv_l2i hx hb dX1_changeTemperature_56 rfl ?_
    refine lv_iadd hx hb dX1_changeTemperature_57 ?_
    refine xput (ci := 1) (v := .int ((vT + (f_X9_quotient (a1 - vT).toInt64 (f_X6_value 9 sf).toInt64).toInt32) + (f_X9_quotient (a1 - (vT + (f_X9_quotient (a1 - vT).toInt64 (f_X6_value 9 sf).toInt64).toInt32)).toInt64 (f_X6_value 9 sf).toInt64).toInt32)) (ty := .int) (C := RX1) (T := TX1) (N := 7) hx hb hts hin1 tyX1 tyX1_ok nmX1 hown hK hW 0 rfl (Nat.le_of_ble_eq_true rfl) rfl 0 (by decide) w1 rfl (by decide +kernel) rfl rfl (Nat.le_of_ble_eq_true rfl) dX1_changeTemperature_58 (fun H locs hW => ?_)
    have hW : xW D A s.heap ([(aH, .inr (1, [.int ((vT + (f_X9_quotient (a1 - vT).toInt64 (f_X6_value 9 sf).toInt64).toInt32) + (f_X9_quotient (a1 - (vT + (f_X9_quotient (a1 - vT).toInt64 (f_X6_value 9 sf).toInt64).toInt32)).toInt64 (f_X6_value 9 sf).toInt64).toInt32), .long vG, .int vM, .int (bi vO), .int vN, .int (bi vD), .int vA])), (aS, .inr (6, [.ref aSv])), (aSv, .inl (cI, 11, .inl sf))] ++ []) H _ := hW
    refine lv_aload_n hx hb dX1_changeTemperature_61 rfl (lv_at hl 1 rfl) ?_
    refine xget (ci := 1) (C := RX1) (T := TX1) (N := 7) hx hb hts hin1 hown hK hW.1 0 rfl rfl 5 (by decide) w6 rfl dX1_changeTemperature_62 ?_
    refine xb_eq (tgt := 85) hx hb dX1_changeTemperature_65 (by decide) (fun c2 => ?_) (fun c2 => ?_)
    · skip
      refine lv_aload_n hx hb dX1_changeTemperature_85 rfl (lv_at hl 1 rfl) ?_
      refine xget (ci := 1) (C := RX1) (T := TX1) (N := 7) hx hb hts hin1 hown hK hW.1 0 rfl rfl 0 (by decide) w1 rfl dX1_changeTemperature_86 ?_
      refine lv_iload_n hx hb dX1_changeTemperature_89 rfl (lv_at hl 2 rfl) ?_
      refine lv_i2l hx hb dX1_changeTemperature_90 rfl ?_
      refine lv_aload_n hx hb dX1_changeTemperature_91 rfl (lv_at hl 4 rfl) ?_
      refine lv_bipush (v := 10) hx hb dX1_changeTemperature_92 (by decide) ?_
      refine vp_callSi (va_Run.run (xrunV (As := [.int 10]) (rest := [.long a0.toInt64, .int ((vT + (f_X9_quotient (a1 - vT).toInt64 (f_X6_value 9 sf).toInt64).toInt32) + (f_X9_quotient (a1 - (vT + (f_X9_quotient (a1 - vT).toInt64 (f_X6_value 9 sf).toInt64).toInt32)).toInt64 (f_X6_value 9 sf).toInt64).toInt32)]) ⟨hx, hb, hml, hown, hts⟩ (c_X6_value l D cI cJ cZ cB H.size aS aSv 10 sf _ rfl) (cwV 1 hts gX1_changeTemperature_X6_value rfl rfl rfl (by decide +kernel) ⟨Nat.le_of_ble_eq_true rfl, Nat.le_of_ble_eq_true rfl⟩) hK hG hW.2.2 (xsubQ hW hA [1, 2] rfl (by decide)) (va_recv hK hW.1 (ci := 6) (q0 := 1) rfl rfl) rfl hl.1 rfl (Nat.le_of_ble_eq_true rfl) dX1_changeTemperature_94 ⟨Nat.le_of_ble_eq_true rfl, Nat.le_of_ble_eq_true rfl⟩)) (fun r8 hq => ?_)
      subst hq
      refine lv_i2l hx hb dX1_changeTemperature_97 rfl ?_
      refine vp_callSl (va_Run.run (xrunSN (As := [.long a0.toInt64, .long (f_X6_value 10 sf).toInt64]) (rest := [.int ((vT + (f_X9_quotient (a1 - vT).toInt64 (f_X6_value 9 sf).toInt64).toInt32) + (f_X9_quotient (a1 - (vT + (f_X9_quotient (a1 - vT).toInt64 (f_X6_value 9 sf).toInt64).toInt32)).toInt64 (f_X6_value 9 sf).toInt64).toInt32)]) ⟨hx, hb, hml, hown, hts⟩ (c_X9_quotient l D cI cJ cZ cB H.size a0.toInt64 (f_X6_value 10 sf).toInt64 _ rfl) ⟨va_cnB (host := "DryIceLane") 2 hts gX1_changeTemperature_X9_quotient_n43 rfl rfl rfl (hG.1.1 (.methodLinkNest RX1 43 yX9_quotient "DryIceLane") (by decide +kernel)) w3 (by decide +kernel) ⟨Nat.le_of_ble_eq_true rfl, Nat.le_of_ble_eq_true rfl⟩, w4, trivial⟩ hK hG hW.2.2 (xsubQ hW hA [] rfl (by decide)) rfl hl.1 rfl (Nat.le_of_ble_eq_true rfl) dX1_changeTemperature_98 ⟨Nat.le_of_ble_eq_true rfl, Nat.le_of_ble_eq_true rfl⟩)) (fun r9 hq => ?_)
      subst hq
      refine lv_l2i hx hb dX1_changeTemperature_101 rfl ?_
      refine lv_isub hx hb dX1_changeTemperature_102 ?_
      refine lv_istore (lv' := [(5, .int (((vT + (f_X9_quotient (a1 - vT).toInt64 (f_X6_value 9 sf).toInt64).toInt32) + (f_X9_quotient (a1 - (vT + (f_X9_quotient (a1 - vT).toInt64 (f_X6_value 9 sf).toInt64).toInt32)).toInt64 (f_X6_value 9 sf).toInt64).toInt32) - (f_X9_quotient a0.toInt64 (f_X6_value 10 sf).toInt64).toInt32)), (4, .int (f_X6_value 9 sf)), (0, .ref aH), (1, .int a0), (2, .int a1), (3, .ref aS)]) hx hb dX1_changeTemperature_103 hl (by decide) rfl (fun ls hl => ?_)
      refine lv_aload_n hx hb dX1_changeTemperature_105 rfl (lv_at hl 2 rfl) ?_
      refine lv_iload hx hb dX1_changeTemperature_106 (lv_at hl 0 rfl) ?_
      refine lv_aload_n hx hb dX1_changeTemperature_108 rfl (lv_at hl 2 rfl) ?_
      refine xget (ci := 1) (C := RX1) (T := TX1) (N := 7) hx hb hts hin1 hown hK hW.1 0 rfl rfl 0 (by decide) w1 rfl dX1_changeTemperature_109 ?_
      refine lv_sipush (v := -7900) hx hb dX1_changeTemperature_112 (by decide) ?_
      refine va_mmin hx hb (by rw [hml]; exact hl.1.symm) hown w7 w8 w9 w10 (Nat.le_of_ble_eq_true rfl) (Nat.le_of_ble_eq_true rfl) (by omega) (by omega) dX1_changeTemperature_115 ?_
      refine va_mmax hx hb (by rw [hml]; exact hl.1.symm) hown w11 w12 w9 w13 (Nat.le_of_ble_eq_true rfl) (Nat.le_of_ble_eq_true rfl) (by omega) (by omega) dX1_changeTemperature_118 ?_
      refine xput (ci := 1) (v := .int (if (((vT + (f_X9_quotient (a1 - vT).toInt64 (f_X6_value 9 sf).toInt64).toInt32) + (f_X9_quotient (a1 - (vT + (f_X9_quotient (a1 - vT).toInt64 (f_X6_value 9 sf).toInt64).toInt32)).toInt64 (f_X6_value 9 sf).toInt64).toInt32) - (f_X9_quotient a0.toInt64 (f_X6_value 10 sf).toInt64).toInt32) < (if (-7900) < ((vT + (f_X9_quotient (a1 - vT).toInt64 (f_X6_value 9 sf).toInt64).toInt32) + (f_X9_quotient (a1 - (vT + (f_X9_quotient (a1 - vT).toInt64 (f_X6_value 9 sf).toInt64).toInt32)).toInt64 (f_X6_value 9 sf).toInt64).toInt32) then (-7900) else ((vT + (f_X9_quotient (a1 - vT).toInt64 (f_X6_value 9 sf).toInt64).toInt32) + (f_X9_quotient (a1 - (vT + (f_X9_quotient (a1 - vT).toInt64 (f_X6_value 9 sf).toInt64).toInt32)).toInt64 (f_X6_value 9 sf).toInt64).toInt32)) then (if (-7900) < ((vT + (f_X9_quotient (a1 - vT).toInt64 (f_X6_value 9 sf).toInt64).toInt32) + (f_X9_quotient (a1 - (vT + (f_X9_quotient (a1 - vT).toInt64 (f_X6_value 9 sf).toInt64).toInt32)).toInt64 (f_X6_value 9 sf).toInt64).toInt32) then (-7900) else ((vT + (f_X9_quotient (a1 - vT).toInt64 (f_X6_value 9 sf).toInt64).toInt32) + (f_X9_quotient (a1 - (vT + (f_X9_quotient (a1 - vT).toInt64 (f_X6_value 9 sf).toInt64).toInt32)).toInt64 (f_X6_value 9 sf).toInt64).toInt32)) else (((vT + (f_X9_quotient (a1 - vT).toInt64 (f_X6_value 9 sf).toInt64).toInt32) + (f_X9_quotient (a1 - (vT + (f_X9_quotient (a1 - vT).toInt64 (f_X6_value 9 sf).toInt64).toInt32)).toInt64 (f_X6_value 9 sf).toInt64).toInt32) - (f_X9_quotient a0.toInt64 (f_X6_value 10 sf).toInt64).toInt32))) (ty := .int) (C := RX1) (T := TX1) (N := 7) hx hb hts hin1 tyX1 tyX1_ok nmX1 hown hK hW 0 rfl (Nat.le_of_ble_eq_true rfl) rfl 0 (by decide) w1 rfl (by decide +kernel) rfl rfl (Nat.le_of_ble_eq_true rfl) dX1_changeTemperature_121 (fun H locs hW => ?_)
      have hW : xW D A s.heap ([(aH, .inr (1, [.int (if (((vT + (f_X9_quotient (a1 - vT).toInt64 (f_X6_value 9 sf).toInt64).toInt32) + (f_X9_quotient (a1 - (vT + (f_X9_quotient (a1 - vT).toInt64 (f_X6_value 9 sf).toInt64).toInt32)).toInt64 (f_X6_value 9 sf).toInt64).toInt32) - (f_X9_quotient a0.toInt64 (f_X6_value 10 sf).toInt64).toInt32) < (if (-7900) < ((vT + (f_X9_quotient (a1 - vT).toInt64 (f_X6_value 9 sf).toInt64).toInt32) + (f_X9_quotient (a1 - (vT + (f_X9_quotient (a1 - vT).toInt64 (f_X6_value 9 sf).toInt64).toInt32)).toInt64 (f_X6_value 9 sf).toInt64).toInt32) then (-7900) else ((vT + (f_X9_quotient (a1 - vT).toInt64 (f_X6_value 9 sf).toInt64).toInt32) + (f_X9_quotient (a1 - (vT + (f_X9_quotient (a1 - vT).toInt64 (f_X6_value 9 sf).toInt64).toInt32)).toInt64 (f_X6_value 9 sf).toInt64).toInt32)) then (if (-7900) < ((vT + (f_X9_quotient (a1 - vT).toInt64 (f_X6_value 9 sf).toInt64).toInt32) + (f_X9_quotient (a1 - (vT + (f_X9_quotient (a1 - vT).toInt64 (f_X6_value 9 sf).toInt64).toInt32)).toInt64 (f_X6_value 9 sf).toInt64).toInt32) then (-7900) else ((vT + (f_X9_quotient (a1 - vT).toInt64 (f_X6_value 9 sf).toInt64).toInt32) + (f_X9_quotient (a1 - (vT + (f_X9_quotient (a1 - vT).toInt64 (f_X6_value 9 sf).toInt64).toInt32)).toInt64 (f_X6_value 9 sf).toInt64).toInt32)) else (((vT + (f_X9_quotient (a1 - vT).toInt64 (f_X6_value 9 sf).toInt64).toInt32) + (f_X9_quotient (a1 - (vT + (f_X9_quotient (a1 - vT).toInt64 (f_X6_value 9 sf).toInt64).toInt32)).toInt64 (f_X6_value 9 sf).toInt64).toInt32) - (f_X9_quotient a0.toInt64 (f_X6_value 10 sf).toInt64).toInt32)), .long vG, .int vM, .int (bi vO), .int vN, .int (bi vD), .int vA])), (aS, .inr (6, [.ref aSv])), (aSv, .inl (cI, 11, .inl sf))] ++ []) H _ := hW
      have hF : f_X1_changeTemperature a0 a1 vT vO vD sf = (if (((vT + (f_X9_quotient (a1 - vT).toInt64 (f_X6_value 9 sf).toInt64).toInt32) + (f_X9_quotient (a1 - (vT + (f_X9_quotient (a1 - vT).toInt64 (f_X6_value 9 sf).toInt64).toInt32)).toInt64 (f_X6_value 9 sf).toInt64).toInt32) - (f_X9_quotient a0.toInt64 (f_X6_value 10 sf).toInt64).toInt32) < (if (-7900) < ((vT + (f_X9_quotient (a1 - vT).toInt64 (f_X6_value 9 sf).toInt64).toInt32) + (f_X9_quotient (a1 - (vT + (f_X9_quotient (a1 - vT).toInt64 (f_X6_value 9 sf).toInt64).toInt32)).toInt64 (f_X6_value 9 sf).toInt64).toInt32) then (-7900) else ((vT + (f_X9_quotient (a1 - vT).toInt64 (f_X6_value 9 sf).toInt64).toInt32) + (f_X9_quotient (a1 - (vT + (f_X9_quotient (a1 - vT).toInt64 (f_X6_value 9 sf).toInt64).toInt32)).toInt64 (f_X6_value 9 sf).toInt64).toInt32)) then (if (-7900) < ((vT + (f_X9_quotient (a1 - vT).toInt64 (f_X6_value 9 sf).toInt64).toInt32) + (f_X9_quotient (a1 - (vT + (f_X9_quotient (a1 - vT).toInt64 (f_X6_value 9 sf).toInt64).toInt32)).toInt64 (f_X6_value 9 sf).toInt64).toInt32) then (-7900) else ((vT + (f_X9_quotient (a1 - vT).toInt64 (f_X6_value 9 sf).toInt64).toInt32) + (f_X9_quotient (a1 - (vT + (f_X9_quotient (a1 - vT).toInt64 (f_X6_value 9 sf).toInt64).toInt32)).toInt64 (f_X6_value 9 sf).toInt64).toInt32)) else (((vT + (f_X9_quotient (a1 - vT).toInt64 (f_X6_value 9 sf).toInt64).toInt32) + (f_X9_quotient (a1 - (vT + (f_X9_quotient (a1 - vT).toInt64 (f_X6_value 9 sf).toInt64).toInt32)).toInt64 (f_X6_value 9 sf).toInt64).toInt32) - (f_X9_quotient a0.toInt64 (f_X6_value 10 sf).toInt64).toInt32)) := by
        rw [f_X1_changeTemperature, if_pos c1, if_neg c2]
      obtain rfl : (if (((vT + (f_X9_quotient (a1 - vT).toInt64 (f_X6_value 9 sf).toInt64).toInt32) + (f_X9_quotient (a1 - (vT + (f_X9_quotient (a1 - vT).toInt64 (f_X6_value 9 sf).toInt64).toInt32)).toInt64 (f_X6_value 9 sf).toInt64).toInt32) - (f_X9_quotient a0.toInt64 (f_X6_value 10 sf).toInt64).toInt32) < (if (-7900) < ((vT + (f_X9_quotient (a1 - vT).toInt64 (f_X6_value 9 sf).toInt64).toInt32) + (f_X9_quotient (a1 - (vT + (f_X9_quotient (a1 - vT).toInt64 (f_X6_value 9 sf).toInt64).toInt32)).toInt64 (f_X6_value 9 sf).toInt64).toInt32) then (-7900) else ((vT + (f_X9_quotient (a1 - vT).toInt64 (f_X6_value 9 sf).toInt64).toInt32) + (f_X9_quotient (a1 - (vT + (f_X9_quotient (a1 - vT).toInt64 (f_X6_value 9 sf).toInt64).toInt32)).toInt64 (f_X6_value 9 sf).toInt64).toInt32)) then (if (-7900) < ((vT + (f_X9_quotient (a1 - vT).toInt64 (f_X6_value 9 sf).toInt64).toInt32) + (f_X9_quotient (a1 - (vT + (f_X9_quotient (a1 - vT).toInt64 (f_X6_value 9 sf).toInt64).toInt32)).toInt64 (f_X6_value 9 sf).toInt64).toInt32) then (-7900) else ((vT + (f_X9_quotient (a1 - vT).toInt64 (f_X6_value 9 sf).toInt64).toInt32) + (f_X9_quotient (a1 - (vT + (f_X9_quotient (a1 - vT).toInt64 (f_X6_value 9 sf).toInt64).toInt32)).toInt64 (f_X6_value 9 sf).toInt64).toInt32)) else (((vT + (f_X9_quotient (a1 - vT).toInt64 (f_X6_value 9 sf).toInt64).toInt32) + (f_X9_quotient (a1 - (vT + (f_X9_quotient (a1 - vT).toInt64 (f_X6_value 9 sf).toInt64).toInt32)).toInt64 (f_X6_value 9 sf).toInt64).toInt32) - (f_X9_quotient a0.toInt64 (f_X6_value 10 sf).toInt64).toInt32)) = o := hF.symm.trans ho
      exact W.vret hx hb hrt (fun t ht hM => ⟨⟨(), rfl, trivial, ⟨by rw [ht]; exact hW.1, hW.2.1⟩⟩, hW.2.2.F ht⟩) hW.2.2.2.2 dX1_changeTemperature_124 hlocks
    · skip
      refine lv_aload_n hx hb dX1_changeTemperature_68 rfl (lv_at hl 1 rfl) ?_
      refine lv_dup hx hb dX1_changeTemperature_69 rfl ?_
      refine xget (ci := 1) (C := RX1) (T := TX1) (N := 7) hx hb hts hin1 hown hK hW.1 0 rfl rfl 0 (by decide) w1 rfl dX1_changeTemperature_70 ?_
      refine lv_iload_n hx hb dX1_changeTemperature_73 rfl (lv_at hl 3 rfl) ?_
      refine lv_aload_n hx hb dX1_changeTemperature_74 rfl (lv_at hl 1 rfl) ?_
      refine xget (ci := 1) (C := RX1) (T := TX1) (N := 7) hx hb hts hin1 hown hK hW.1 0 rfl rfl 0 (by decide) w1 rfl dX1_changeTemperature_75 ?_
      refine lv_isub hx hb dX1_changeTemperature_78 ?_
      refine lv_iconst (v := 4) hx hb dX1_changeTemperature_79 (by decide) ?_
      refine lv_idiv hx hb dX1_changeTemperature_80 ((by decide)) ?_
      refine lv_iadd hx hb dX1_changeTemperature_81 ?_
      refine xput (ci := 1) (v := .int (((vT + (f_X9_quotient (a1 - vT).toInt64 (f_X6_value 9 sf).toInt64).toInt32) + (f_X9_quotient (a1 - (vT + (f_X9_quotient (a1 - vT).toInt64 (f_X6_value 9 sf).toInt64).toInt32)).toInt64 (f_X6_value 9 sf).toInt64).toInt32) + ((a1 - ((vT + (f_X9_quotient (a1 - vT).toInt64 (f_X6_value 9 sf).toInt64).toInt32) + (f_X9_quotient (a1 - (vT + (f_X9_quotient (a1 - vT).toInt64 (f_X6_value 9 sf).toInt64).toInt32)).toInt64 (f_X6_value 9 sf).toInt64).toInt32)) / 4))) (ty := .int) (C := RX1) (T := TX1) (N := 7) hx hb hts hin1 tyX1 tyX1_ok nmX1 hown hK hW 0 rfl (Nat.le_of_ble_eq_true rfl) rfl 0 (by decide) w1 rfl (by decide +kernel) rfl rfl (Nat.le_of_ble_eq_true rfl) dX1_changeTemperature_82 (fun H locs hW => ?_)
      have hW : xW D A s.heap ([(aH, .inr (1, [.int (((vT + (f_X9_quotient (a1 - vT).toInt64 (f_X6_value 9 sf).toInt64).toInt32) + (f_X9_quotient (a1 - (vT + (f_X9_quotient (a1 - vT).toInt64 (f_X6_value 9 sf).toInt64).toInt32)).toInt64 (f_X6_value 9 sf).toInt64).toInt32) + ((a1 - ((vT + (f_X9_quotient (a1 - vT).toInt64 (f_X6_value 9 sf).toInt64).toInt32) + (f_X9_quotient (a1 - (vT + (f_X9_quotient (a1 - vT).toInt64 (f_X6_value 9 sf).toInt64).toInt32)).toInt64 (f_X6_value 9 sf).toInt64).toInt32)) / 4)), .long vG, .int vM, .int (bi vO), .int vN, .int (bi vD), .int vA])), (aS, .inr (6, [.ref aSv])), (aSv, .inl (cI, 11, .inl sf))] ++ []) H _ := hW
      refine lv_aload_n hx hb dX1_changeTemperature_85 rfl (lv_at hl 1 rfl) ?_
      refine xget (ci := 1) (C := RX1) (T := TX1) (N := 7) hx hb hts hin1 hown hK hW.1 0 rfl rfl 0 (by decide) w1 rfl dX1_changeTemperature_86 ?_
      refine lv_iload_n hx hb dX1_changeTemperature_89 rfl (lv_at hl 2 rfl) ?_
      refine lv_i2l hx hb dX1_changeTemperature_90 rfl ?_
      refine lv_aload_n hx hb dX1_changeTemperature_91 rfl (lv_at hl 4 rfl) ?_
      refine lv_bipush (v := 10) hx hb dX1_changeTemperature_92 (by decide) ?_
      refine vp_callSi (va_Run.run (xrunV (As := [.int 10]) (rest := [.long a0.toInt64, .int (((vT + (f_X9_quotient (a1 - vT).toInt64 (f_X6_value 9 sf).toInt64).toInt32) + (f_X9_quotient (a1 - (vT + (f_X9_quotient (a1 - vT).toInt64 (f_X6_value 9 sf).toInt64).toInt32)).toInt64 (f_X6_value 9 sf).toInt64).toInt32) + ((a1 - ((vT + (f_X9_quotient (a1 - vT).toInt64 (f_X6_value 9 sf).toInt64).toInt32) + (f_X9_quotient (a1 - (vT + (f_X9_quotient (a1 - vT).toInt64 (f_X6_value 9 sf).toInt64).toInt32)).toInt64 (f_X6_value 9 sf).toInt64).toInt32)) / 4))]) ⟨hx, hb, hml, hown, hts⟩ (c_X6_value l D cI cJ cZ cB H.size aS aSv 10 sf _ rfl) (cwV 1 hts gX1_changeTemperature_X6_value rfl rfl rfl (by decide +kernel) ⟨Nat.le_of_ble_eq_true rfl, Nat.le_of_ble_eq_true rfl⟩) hK hG hW.2.2 (xsubQ hW hA [1, 2] rfl (by decide)) (va_recv hK hW.1 (ci := 6) (q0 := 1) rfl rfl) rfl hl.1 rfl (Nat.le_of_ble_eq_true rfl) dX1_changeTemperature_94 ⟨Nat.le_of_ble_eq_true rfl, Nat.le_of_ble_eq_true rfl⟩)) (fun r10 hq => ?_)
      subst hq
      refine lv_i2l hx hb dX1_changeTemperature_97 rfl ?_
      refine vp_callSl (va_Run.run (xrunSN (As := [.long a0.toInt64, .long (f_X6_value 10 sf).toInt64]) (rest := [.int (((vT + (f_X9_quotient (a1 - vT).toInt64 (f_X6_value 9 sf).toInt64).toInt32) + (f_X9_quotient (a1 - (vT + (f_X9_quotient (a1 - vT).toInt64 (f_X6_value 9 sf).toInt64).toInt32)).toInt64 (f_X6_value 9 sf).toInt64).toInt32) + ((a1 - ((vT + (f_X9_quotient (a1 - vT).toInt64 (f_X6_value 9 sf).toInt64).toInt32) + (f_X9_quotient (a1 - (vT + (f_X9_quotient (a1 - vT).toInt64 (f_X6_value 9 sf).toInt64).toInt32)).toInt64 (f_X6_value 9 sf).toInt64).toInt32)) / 4))]) ⟨hx, hb, hml, hown, hts⟩ (c_X9_quotient l D cI cJ cZ cB H.size a0.toInt64 (f_X6_value 10 sf).toInt64 _ rfl) ⟨va_cnB (host := "DryIceLane") 2 hts gX1_changeTemperature_X9_quotient_n43 rfl rfl rfl (hG.1.1 (.methodLinkNest RX1 43 yX9_quotient "DryIceLane") (by decide +kernel)) w3 (by decide +kernel) ⟨Nat.le_of_ble_eq_true rfl, Nat.le_of_ble_eq_true rfl⟩, w4, trivial⟩ hK hG hW.2.2 (xsubQ hW hA [] rfl (by decide)) rfl hl.1 rfl (Nat.le_of_ble_eq_true rfl) dX1_changeTemperature_98 ⟨Nat.le_of_ble_eq_true rfl, Nat.le_of_ble_eq_true rfl⟩)) (fun r11 hq => ?_)
      subst hq
      refine lv_l2i hx hb dX1_changeTemperature_101 rfl ?_
      refine lv_isub hx hb dX1_changeTemperature_102 ?_
      refine lv_istore (lv' := [(5, .int ((((vT + (f_X9_quotient (a1 - vT).toInt64 (f_X6_value 9 sf).toInt64).toInt32) + (f_X9_quotient (a1 - (vT + (f_X9_quotient (a1 - vT).toInt64 (f_X6_value 9 sf).toInt64).toInt32)).toInt64 (f_X6_value 9 sf).toInt64).toInt32) + ((a1 - ((vT + (f_X9_quotient (a1 - vT).toInt64 (f_X6_value 9 sf).toInt64).toInt32) + (f_X9_quotient (a1 - (vT + (f_X9_quotient (a1 - vT).toInt64 (f_X6_value 9 sf).toInt64).toInt32)).toInt64 (f_X6_value 9 sf).toInt64).toInt32)) / 4)) - (f_X9_quotient a0.toInt64 (f_X6_value 10 sf).toInt64).toInt32)), (4, .int (f_X6_value 9 sf)), (0, .ref aH), (1, .int a0), (2, .int a1), (3, .ref aS)]) hx hb dX1_changeTemperature_103 hl (by decide) rfl (fun ls hl => ?_)
      refine lv_aload_n hx hb dX1_changeTemperature_105 rfl (lv_at hl 2 rfl) ?_
      refine lv_iload hx hb dX1_changeTemperature_106 (lv_at hl 0 rfl) ?_
      refine lv_aload_n hx hb dX1_changeTemperature_108 rfl (lv_at hl 2 rfl) ?_
      refine xget (ci := 1) (C := RX1) (T := TX1) (N := 7) hx hb hts hin1 hown hK hW.1 0 rfl rfl 0 (by decide) w1 rfl dX1_changeTemperature_109 ?_
      refine lv_sipush (v := -7900) hx hb dX1_changeTemperature_112 (by decide) ?_
      refine va_mmin hx hb (by rw [hml]; exact hl.1.symm) hown w7 w8 w9 w10 (Nat.le_of_ble_eq_true rfl) (Nat.le_of_ble_eq_true rfl) (by omega) (by omega) dX1_changeTemperature_115 ?_
      refine va_mmax hx hb (by rw [hml]; exact hl.1.symm) hown w11 w12 w9 w13 (Nat.le_of_ble_eq_true rfl) (Nat.le_of_ble_eq_true rfl) (by omega) (by omega) dX1_changeTemperature_118 ?_
      refine xput (ci := 1) (v := .int (if ((((vT + (f_X9_quotient (a1 - vT).toInt64 (f_X6_value 9 sf).toInt64).toInt32) + (f_X9_quotient (a1 - (vT + (f_X9_quotient (a1 - vT).toInt64 (f_X6_value 9 sf).toInt64).toInt32)).toInt64 (f_X6_value 9 sf).toInt64).toInt32) + ((a1 - ((vT + (f_X9_quotient (a1 - vT).toInt64 (f_X6_value 9 sf).toInt64).toInt32) + (f_X9_quotient (a1 - (vT + (f_X9_quotient (a1 - vT).toInt64 (f_X6_value 9 sf).toInt64).toInt32)).toInt64 (f_X6_value 9 sf).toInt64).toInt32)) / 4)) - (f_X9_quotient a0.toInt64 (f_X6_value 10 sf).toInt64).toInt32) < (if (-7900) < (((vT + (f_X9_quotient (a1 - vT).toInt64 (f_X6_value 9 sf).toInt64).toInt32) + (f_X9_quotient (a1 - (vT + (f_X9_quotient (a1 - vT).toInt64 (f_X6_value 9 sf).toInt64).toInt32)).toInt64 (f_X6_value 9 sf).toInt64).toInt32) + ((a1 - ((vT + (f_X9_quotient (a1 - vT).toInt64 (f_X6_value 9 sf).toInt64).toInt32) + (f_X9_quotient (a1 - (vT + (f_X9_quotient (a1 - vT).toInt64 (f_X6_value 9 sf).toInt64).toInt32)).toInt64 (f_X6_value 9 sf).toInt64).toInt32)) / 4)) then (-7900) else (((vT + (f_X9_quotient (a1 - vT).toInt64 (f_X6_value 9 sf).toInt64).toInt32) + (f_X9_quotient (a1 - (vT + (f_X9_quotient (a1 - vT).toInt64 (f_X6_value 9 sf).toInt64).toInt32)).toInt64 (f_X6_value 9 sf).toInt64).toInt32) + ((a1 - ((vT + (f_X9_quotient (a1 - vT).toInt64 (f_X6_value 9 sf).toInt64).toInt32) + (f_X9_quotient (a1 - (vT + (f_X9_quotient (a1 - vT).toInt64 (f_X6_value 9 sf).toInt64).toInt32)).toInt64 (f_X6_value 9 sf).toInt64).toInt32)) / 4))) then (if (-7900) < (((vT + (f_X9_quotient (a1 - vT).toInt64 (f_X6_value 9 sf).toInt64).toInt32) + (f_X9_quotient (a1 - (vT + (f_X9_quotient (a1 - vT).toInt64 (f_X6_value 9 sf).toInt64).toInt32)).toInt64 (f_X6_value 9 sf).toInt64).toInt32) + ((a1 - ((vT + (f_X9_quotient (a1 - vT).toInt64 (f_X6_value 9 sf).toInt64).toInt32) + (f_X9_quotient (a1 - (vT + (f_X9_quotient (a1 - vT).toInt64 (f_X6_value 9 sf).toInt64).toInt32)).toInt64 (f_X6_value 9 sf).toInt64).toInt32)) / 4)) then (-7900) else (((vT + (f_X9_quotient (a1 - vT).toInt64 (f_X6_value 9 sf).toInt64).toInt32) + (f_X9_quotient (a1 - (vT + (f_X9_quotient (a1 - vT).toInt64 (f_X6_value 9 sf).toInt64).toInt32)).toInt64 (f_X6_value 9 sf).toInt64).toInt32) + ((a1 - ((vT + (f_X9_quotient (a1 - vT).toInt64 (f_X6_value 9 sf).toInt64).toInt32) + (f_X9_quotient (a1 - (vT + (f_X9_quotient (a1 - vT).toInt64 (f_X6_value 9 sf).toInt64).toInt32)).toInt64 (f_X6_value 9 sf).toInt64).toInt32)) / 4))) else ((((vT + (f_X9_quotient (a1 - vT).toInt64 (f_X6_value 9 sf).toInt64).toInt32) + (f_X9_quotient (a1 - (vT + (f_X9_quotient (a1 - vT).toInt64 (f_X6_value 9 sf).toInt64).toInt32)).toInt64 (f_X6_value 9 sf).toInt64).toInt32) + ((a1 - ((vT + (f_X9_quotient (a1 - vT).toInt64 (f_X6_value 9 sf).toInt64).toInt32) + (f_X9_quotient (a1 - (vT + (f_X9_quotient (a1 - vT).toInt64 (f_X6_value 9 sf).toInt64).toInt32)).toInt64 (f_X6_value 9 sf).toInt64).toInt32)) / 4)) - (f_X9_quotient a0.toInt64 (f_X6_value 10 sf).toInt64).toInt32))) (ty := .int) (C := RX1) (T := TX1) (N := 7) hx hb hts hin1 tyX1 tyX1_ok nmX1 hown hK hW 0 rfl (Nat.le_of_ble_eq_true rfl) rfl 0 (by decide) w1 rfl (by decide +kernel) rfl rfl (Nat.le_of_ble_eq_true rfl) dX1_changeTemperature_121 (fun H locs hW => ?_)
      have hW : xW D A s.heap ([(aH, .inr (1, [.int (if ((((vT + (f_X9_quotient (a1 - vT).toInt64 (f_X6_value 9 sf).toInt64).toInt32) + (f_X9_quotient (a1 - (vT + (f_X9_quotient (a1 - vT).toInt64 (f_X6_value 9 sf).toInt64).toInt32)).toInt64 (f_X6_value 9 sf).toInt64).toInt32) + ((a1 - ((vT + (f_X9_quotient (a1 - vT).toInt64 (f_X6_value 9 sf).toInt64).toInt32) + (f_X9_quotient (a1 - (vT + (f_X9_quotient (a1 - vT).toInt64 (f_X6_value 9 sf).toInt64).toInt32)).toInt64 (f_X6_value 9 sf).toInt64).toInt32)) / 4)) - (f_X9_quotient a0.toInt64 (f_X6_value 10 sf).toInt64).toInt32) < (if (-7900) < (((vT + (f_X9_quotient (a1 - vT).toInt64 (f_X6_value 9 sf).toInt64).toInt32) + (f_X9_quotient (a1 - (vT + (f_X9_quotient (a1 - vT).toInt64 (f_X6_value 9 sf).toInt64).toInt32)).toInt64 (f_X6_value 9 sf).toInt64).toInt32) + ((a1 - ((vT + (f_X9_quotient (a1 - vT).toInt64 (f_X6_value 9 sf).toInt64).toInt32) + (f_X9_quotient (a1 - (vT + (f_X9_quotient (a1 - vT).toInt64 (f_X6_value 9 sf).toInt64).toInt32)).toInt64 (f_X6_value 9 sf).toInt64).toInt32)) / 4)) then (-7900) else (((vT + (f_X9_quotient (a1 - vT).toInt64 (f_X6_value 9 sf).toInt64).toInt32) + (f_X9_quotient (a1 - (vT + (f_X9_quotient (a1 - vT).toInt64 (f_X6_value 9 sf).toInt64).toInt32)).toInt64 (f_X6_value 9 sf).toInt64).toInt32) + ((a1 - ((vT + (f_X9_quotient (a1 - vT).toInt64 (f_X6_value 9 sf).toInt64).toInt32) + (f_X9_quotient (a1 - (vT + (f_X9_quotient (a1 - vT).toInt64 (f_X6_value 9 sf).toInt64).toInt32)).toInt64 (f_X6_value 9 sf).toInt64).toInt32)) / 4))) then (if (-7900) < (((vT + (f_X9_quotient (a1 - vT).toInt64 (f_X6_value 9 sf).toInt64).toInt32) + (f_X9_quotient (a1 - (vT + (f_X9_quotient (a1 - vT).toInt64 (f_X6_value 9 sf).toInt64).toInt32)).toInt64 (f_X6_value 9 sf).toInt64).toInt32) + ((a1 - ((vT + (f_X9_quotient (a1 - vT).toInt64 (f_X6_value 9 sf).toInt64).toInt32) + (f_X9_quotient (a1 - (vT + (f_X9_quotient (a1 - vT).toInt64 (f_X6_value 9 sf).toInt64).toInt32)).toInt64 (f_X6_value 9 sf).toInt64).toInt32)) / 4)) then (-7900) else (((vT + (f_X9_quotient (a1 - vT).toInt64 (f_X6_value 9 sf).toInt64).toInt32) + (f_X9_quotient (a1 - (vT + (f_X9_quotient (a1 - vT).toInt64 (f_X6_value 9 sf).toInt64).toInt32)).toInt64 (f_X6_value 9 sf).toInt64).toInt32) + ((a1 - ((vT + (f_X9_quotient (a1 - vT).toInt64 (f_X6_value 9 sf).toInt64).toInt32) + (f_X9_quotient (a1 - (vT + (f_X9_quotient (a1 - vT).toInt64 (f_X6_value 9 sf).toInt64).toInt32)).toInt64 (f_X6_value 9 sf).toInt64).toInt32)) / 4))) else ((((vT + (f_X9_quotient (a1 - vT).toInt64 (f_X6_value 9 sf).toInt64).toInt32) + (f_X9_quotient (a1 - (vT + (f_X9_quotient (a1 - vT).toInt64 (f_X6_value 9 sf).toInt64).toInt32)).toInt64 (f_X6_value 9 sf).toInt64).toInt32) + ((a1 - ((vT + (f_X9_quotient (a1 - vT).toInt64 (f_X6_value 9 sf).toInt64).toInt32) + (f_X9_quotient (a1 - (vT + (f_X9_quotient (a1 - vT).toInt64 (f_X6_value 9 sf).toInt64).toInt32)).toInt64 (f_X6_value 9 sf).toInt64).toInt32)) / 4)) - (f_X9_quotient a0.toInt64 (f_X6_value 10 sf).toInt64).toInt32)), .long vG, .int vM, .int (bi vO), .int vN, .int (bi vD), .int vA])), (aS, .inr (6, [.ref aSv])), (aSv, .inl (cI, 11, .inl sf))] ++ []) H _ := hW
      have hF : f_X1_changeTemperature a0 a1 vT vO vD sf = (if ((((vT + (f_X9_quotient (a1 - vT).toInt64 (f_X6_value 9 sf).toInt64).toInt32) + (f_X9_quotient (a1 - (vT + (f_X9_quotient (a1 - vT).toInt64 (f_X6_value 9 sf).toInt64).toInt32)).toInt64 (f_X6_value 9 sf).toInt64).toInt32) + ((a1 - ((vT + (f_X9_quotient (a1 - vT).toInt64 (f_X6_value 9 sf).toInt64).toInt32) + (f_X9_quotient (a1 - (vT + (f_X9_quotient (a1 - vT).toInt64 (f_X6_value 9 sf).toInt64).toInt32)).toInt64 (f_X6_value 9 sf).toInt64).toInt32)) / 4)) - (f_X9_quotient a0.toInt64 (f_X6_value 10 sf).toInt64).toInt32) < (if (-7900) < (((vT + (f_X9_quotient (a1 - vT).toInt64 (f_X6_value 9 sf).toInt64).toInt32) + (f_X9_quotient (a1 - (vT + (f_X9_quotient (a1 - vT).toInt64 (f_X6_value 9 sf).toInt64).toInt32)).toInt64 (f_X6_value 9 sf).toInt64).toInt32) + ((a1 - ((vT + (f_X9_quotient (a1 - vT).toInt64 (f_X6_value 9 sf).toInt64).toInt32) + (f_X9_quotient (a1 - (vT + (f_X9_quotient (a1 - vT).toInt64 (f_X6_value 9 sf).toInt64).toInt32)).toInt64 (f_X6_value 9 sf).toInt64).toInt32)) / 4)) then (-7900) else (((vT + (f_X9_quotient (a1 - vT).toInt64 (f_X6_value 9 sf).toInt64).toInt32) + (f_X9_quotient (a1 - (vT + (f_X9_quotient (a1 - vT).toInt64 (f_X6_value 9 sf).toInt64).toInt32)).toInt64 (f_X6_value 9 sf).toInt64).toInt32) + ((a1 - ((vT + (f_X9_quotient (a1 - vT).toInt64 (f_X6_value 9 sf).toInt64).toInt32) + (f_X9_quotient (a1 - (vT + (f_X9_quotient (a1 - vT).toInt64 (f_X6_value 9 sf).toInt64).toInt32)).toInt64 (f_X6_value 9 sf).toInt64).toInt32)) / 4))) then (if (-7900) < (((vT + (f_X9_quotient (a1 - vT).toInt64 (f_X6_value 9 sf).toInt64).toInt32) + (f_X9_quotient (a1 - (vT + (f_X9_quotient (a1 - vT).toInt64 (f_X6_value 9 sf).toInt64).toInt32)).toInt64 (f_X6_value 9 sf).toInt64).toInt32) + ((a1 - ((vT + (f_X9_quotient (a1 - vT).toInt64 (f_X6_value 9 sf).toInt64).toInt32) + (f_X9_quotient (a1 - (vT + (f_X9_quotient (a1 - vT).toInt64 (f_X6_value 9 sf).toInt64).toInt32)).toInt64 (f_X6_value 9 sf).toInt64).toInt32)) / 4)) then (-7900) else (((vT + (f_X9_quotient (a1 - vT).toInt64 (f_X6_value 9 sf).toInt64).toInt32) + (f_X9_quotient (a1 - (vT + (f_X9_quotient (a1 - vT).toInt64 (f_X6_value 9 sf).toInt64).toInt32)).toInt64 (f_X6_value 9 sf).toInt64).toInt32) + ((a1 - ((vT + (f_X9_quotient (a1 - vT).toInt64 (f_X6_value 9 sf).toInt64).toInt32) + (f_X9_quotient (a1 - (vT + (f_X9_quotient (a1 - vT).toInt64 (f_X6_value 9 sf).toInt64).toInt32)).toInt64 (f_X6_value 9 sf).toInt64).toInt32)) / 4))) else ((((vT + (f_X9_quotient (a1 - vT).toInt64 (f_X6_value 9 sf).toInt64).toInt32) + (f_X9_quotient (a1 - (vT + (f_X9_quotient (a1 - vT).toInt64 (f_X6_value 9 sf).toInt64).toInt32)).toInt64 (f_X6_value 9 sf).toInt64).toInt32) + ((a1 - ((vT + (f_X9_quotient (a1 - vT).toInt64 (f_X6_value 9 sf).toInt64).toInt32) + (f_X9_quotient (a1 - (vT + (f_X9_quotient (a1 - vT).toInt64 (f_X6_value 9 sf).toInt64).toInt32)).toInt64 (f_X6_value 9 sf).toInt64).toInt32)) / 4)) - (f_X9_quotient a0.toInt64 (f_X6_value 10 sf).toInt64).toInt32)) := by
        rw [f_X1_changeTemperature, if_pos c1, if_pos c2]
      obtain rfl : (if ((((vT + (f_X9_quotient (a1 - vT).toInt64 (f_X6_value 9 sf).toInt64).toInt32) + (f_X9_quotient (a1 - (vT + (f_X9_quotient (a1 - vT).toInt64 (f_X6_value 9 sf).toInt64).toInt32)).toInt64 (f_X6_value 9 sf).toInt64).toInt32) + ((a1 - ((vT + (f_X9_quotient (a1 - vT).toInt64 (f_X6_value 9 sf).toInt64).toInt32) + (f_X9_quotient (a1 - (vT + (f_X9_quotient (a1 - vT).toInt64 (f_X6_value 9 sf).toInt64).toInt32)).toInt64 (f_X6_value 9 sf).toInt64).toInt32)) / 4)) - (f_X9_quotient a0.toInt64 (f_X6_value 10 sf).toInt64).toInt32) < (if (-7900) < (((vT + (f_X9_quotient (a1 - vT).toInt64 (f_X6_value 9 sf).toInt64).toInt32) + (f_X9_quotient (a1 - (vT + (f_X9_quotient (a1 - vT).toInt64 (f_X6_value 9 sf).toInt64).toInt32)).toInt64 (f_X6_value 9 sf).toInt64).toInt32) + ((a1 - ((vT + (f_X9_quotient (a1 - vT).toInt64 (f_X6_value 9 sf).toInt64).toInt32) + (f_X9_quotient (a1 - (vT + (f_X9_quotient (a1 - vT).toInt64 (f_X6_value 9 sf).toInt64).toInt32)).toInt64 (f_X6_value 9 sf).toInt64).toInt32)) / 4)) then (-7900) else (((vT + (f_X9_quotient (a1 - vT).toInt64 (f_X6_value 9 sf).toInt64).toInt32) + (f_X9_quotient (a1 - (vT + (f_X9_quotient (a1 - vT).toInt64 (f_X6_value 9 sf).toInt64).toInt32)).toInt64 (f_X6_value 9 sf).toInt64).toInt32) + ((a1 - ((vT + (f_X9_quotient (a1 - vT).toInt64 (f_X6_value 9 sf).toInt64).toInt32) + (f_X9_quotient (a1 - (vT + (f_X9_quotient (a1 - vT).toInt64 (f_X6_value 9 sf).toInt64).toInt32)).toInt64 (f_X6_value 9 sf).toInt64).toInt32)) / 4))) then (if (-7900) < (((vT + (f_X9_quotient (a1 - vT).toInt64 (f_X6_value 9 sf).toInt64).toInt32) + (f_X9_quotient (a1 - (vT + (f_X9_quotient (a1 - vT).toInt64 (f_X6_value 9 sf).toInt64).toInt32)).toInt64 (f_X6_value 9 sf).toInt64).toInt32) + ((a1 - ((vT + (f_X9_quotient (a1 - vT).toInt64 (f_X6_value 9 sf).toInt64).toInt32) + (f_X9_quotient (a1 - (vT + (f_X9_quotient (a1 - vT).toInt64 (f_X6_value 9 sf).toInt64).toInt32)).toInt64 (f_X6_value 9 sf).toInt64).toInt32)) / 4)) then (-7900) else (((vT + (f_X9_quotient (a1 - vT).toInt64 (f_X6_value 9 sf).toInt64).toInt32) + (f_X9_quotient (a1 - (vT + (f_X9_quotient (a1 - vT).toInt64 (f_X6_value 9 sf).toInt64).toInt32)).toInt64 (f_X6_value 9 sf).toInt64).toInt32) + ((a1 - ((vT + (f_X9_quotient (a1 - vT).toInt64 (f_X6_value 9 sf).toInt64).toInt32) + (f_X9_quotient (a1 - (vT + (f_X9_quotient (a1 - vT).toInt64 (f_X6_value 9 sf).toInt64).toInt32)).toInt64 (f_X6_value 9 sf).toInt64).toInt32)) / 4))) else ((((vT + (f_X9_quotient (a1 - vT).toInt64 (f_X6_value 9 sf).toInt64).toInt32) + (f_X9_quotient (a1 - (vT + (f_X9_quotient (a1 - vT).toInt64 (f_X6_value 9 sf).toInt64).toInt32)).toInt64 (f_X6_value 9 sf).toInt64).toInt32) + ((a1 - ((vT + (f_X9_quotient (a1 - vT).toInt64 (f_X6_value 9 sf).toInt64).toInt32) + (f_X9_quotient (a1 - (vT + (f_X9_quotient (a1 - vT).toInt64 (f_X6_value 9 sf).toInt64).toInt32)).toInt64 (f_X6_value 9 sf).toInt64).toInt32)) / 4)) - (f_X9_quotient a0.toInt64 (f_X6_value 10 sf).toInt64).toInt32)) = o := hF.symm.trans ho
      exact W.vret hx hb hrt (fun t ht hM => ⟨⟨(), rfl, trivial, ⟨by rw [ht]; exact hW.1, hW.2.1⟩⟩, hW.2.2.F ht⟩) hW.2.2.2.2 dX1_changeTemperature_124 hlocks

def f_X1_loseGas (vG : Int64) (vO : Bool) (vD : Bool) (sf : Nat → Int32) : Int64 :=
  if vO = true then
    if vD = true then
      ((vG - ((vG * (f_X6_value 3 sf).toInt64) / 1000)) - (((vG - ((vG * (f_X6_value 3 sf).toInt64) / 1000)) * (f_X6_value 2 sf).toInt64) / 1000)) - ((((vG - ((vG * (f_X6_value 3 sf).toInt64) / 1000)) - (((vG - ((vG * (f_X6_value 3 sf).toInt64) / 1000)) * (f_X6_value 2 sf).toInt64) / 1000)) * (f_X6_value 4 sf).toInt64) / 1000)
    else
      (vG - ((vG * (f_X6_value 3 sf).toInt64) / 1000)) - (((vG - ((vG * (f_X6_value 3 sf).toInt64) / 1000)) * (f_X6_value 2 sf).toInt64) / 1000)
  else
    if vD = true then
      (vG - ((vG * (f_X6_value 3 sf).toInt64) / 1000)) - (((vG - ((vG * (f_X6_value 3 sf).toInt64) / 1000)) * (f_X6_value 4 sf).toInt64) / 1000)
    else
      vG - ((vG * (f_X6_value 3 sf).toInt64) / 1000)
set_option maxHeartbeats 4000000 in
set_option maxRecDepth 100000 in
theorem c_X1_loseGas (l : Launch) (D : va_G) (cI cJ cZ cB : ClassId) (sz : Nat) (aH : Nat) (aS : Nat) (aSv : Nat) (vT : Int32) (vG : Int64) (vM : Int32) (vO : Bool) (vN : Int32) (vD : Bool) (vA : Int32) (sf : Nat → Int32) (o : Int64) (ho : f_X1_loseGas vG vO vD sf = o) : Met l yX1_loseGas wsX1_loseGas ({ frames := 2, cells := 0, slots := 0, locals := 43 } : Room) (xPre D (xT cI cJ cZ cB) [.ref aH, .ref aS] [(aH, .inr (1, [.int vT, .long vG, .int vM, .int (bi vO), .int vN, .int (bi vD), .int vA])), (aS, .inr (6, [.ref aSv])), (aSv, .inl (cI, 11, .inl sf))] sz) (va_Qv (fun _ : Unit => True) (fun _ t => xB D ([(aH, .inr (1, [.int vT, .long o, .int vM, .int (bi vO), .int vN, .int (bi vD), .int vA])), (aS, .inr (6, [.ref aSv])), (aSv, .inl (cI, 11, .inl sf))]) (va_A [(aH, .inr (1, [.int vT, .long vG, .int vM, .int (bi vO), .int vN, .int (bi vD), .int vA])), (aS, .inr (6, [.ref aSv])), (aSv, .inl (cI, 11, .inl sf))] sz) t) (va_A [(aH, .inr (1, [.int vT, .long vG, .int vM, .int (bi vO), .int vN, .int (bi vD), .int vA])), (aS, .inr (6, [.ref aSv])), (aSv, .inl (cI, 11, .inl sf))] sz)) 0 0 (va_A [(aH, .inr (1, [.int vT, .long vG, .int vM, .int (bi vO), .int vN, .int (bi vD), .int vA])), (aS, .inr (6, [.ref aSv])), (aSv, .inl (cI, 11, .inl sf))] sz) := by
  refine xofW (Qc := fun A0 => va_Qv (fun _ : Unit => True) (fun _ t => xB D ([(aH, .inr (1, [.int vT, .long o, .int vM, .int (bi vO), .int vN, .int (bi vD), .int vA])), (aS, .inr (6, [.ref aSv])), (aSv, .inl (cI, 11, .inl sf))]) A0 t) A0) (fr := fun A => A) (cc := cX1_loseGas) (maxL := 2) (ret := none) (by decide) rfl (Nat.le_of_ble_eq_true rfl) ?_
  intro p e s m below meth c A ⟨hx, hb, hml, hown, hts⟩ hrt hlocks hnm hsz hK hW hA hG ls hl
  have hown : s.vm.findClass RX1 = some m.cls := hown
  have hl : lv_has ls 2 [(0, .ref aH), (1, .ref aS)] := hl
  obtain ⟨H, hH⟩ : ∃ H, H = s.heap := ⟨_, rfl⟩
  have hW : xW D A s.heap ([(aH, .inr (1, [.int vT, .long vG, .int vM, .int (bi vO), .int vN, .int (bi vD), .int vA])), (aS, .inr (6, [.ref aSv])), (aSv, .inl (cI, 11, .inl sf))] ++ []) H [] := by rw [hH]; exact hW
  have w1 := hts (.fieldLink RX1 18 "DryIceLane$Hold" "gas" "J") (by decide +kernel)
  have hin1 : ∀ w ∈ u_ws RX1 TX1 7, w ∈ wsX1_loseGas := by decide +kernel
  have w3 := hts (.constantLong RX1 81 (1000)) (by decide +kernel)
  have w4 := hts (.fieldLink RX1 22 "DryIceLane$Hold" "ventOpen" "Z") (by decide +kernel)
  have w5 := hts (.fieldLink RX1 29 "DryIceLane$Hold" "doorOpen" "Z") (by decide +kernel)
  rw [← hH]
  refine lv_aload_n hx hb dX1_loseGas_0 rfl (lv_at hl 0 rfl) ?_
  refine lv_dup hx hb dX1_loseGas_1 rfl ?_
  refine xget (ci := 1) (C := RX1) (T := TX1) (N := 7) hx hb hts hin1 hown hK hW.1 0 rfl rfl 1 (by decide) w1 rfl dX1_loseGas_2 ?_
  refine lv_aload_n hx hb dX1_loseGas_5 rfl (lv_at hl 0 rfl) ?_
  refine xget (ci := 1) (C := RX1) (T := TX1) (N := 7) hx hb hts hin1 hown hK hW.1 0 rfl rfl 1 (by decide) w1 rfl dX1_loseGas_6 ?_
  refine lv_aload_n hx hb dX1_loseGas_9 rfl (lv_at hl 1 rfl) ?_
  refine lv_iconst (v := 3) hx hb dX1_loseGas_10 (by decide) ?_
  refine vp_callSi (va_Run.run (xrunV (As := [.int 3]) (rest := [.long vG, .long vG, .ref aH]) ⟨hx, hb, hml, hown, hts⟩ (c_X6_value l D cI cJ cZ cB H.size aS aSv 3 sf _ rfl) (cwV 1 hts gX1_loseGas_X6_value rfl rfl rfl (by decide +kernel) ⟨Nat.le_of_ble_eq_true rfl, Nat.le_of_ble_eq_true rfl⟩) hK hG hW.2.2 (xsubQ hW hA [1, 2] rfl (by decide)) (va_recv hK hW.1 (ci := 6) (q0 := 1) rfl rfl) rfl hl.1 rfl (Nat.le_of_ble_eq_true rfl) dX1_loseGas_11 ⟨Nat.le_of_ble_eq_true rfl, Nat.le_of_ble_eq_true rfl⟩)) (fun r1 hq => ?_)
  subst hq
  refine lv_i2l hx hb dX1_loseGas_14 rfl ?_
  refine lv_lmul hx hb dX1_loseGas_15 ?_
  refine lv_ldc2 hx hb hown w3 dX1_loseGas_16 ?_
  refine lv_ldiv hx hb dX1_loseGas_19 ((by decide)) ?_
  refine lv_lsub hx hb dX1_loseGas_20 ?_
  refine xput (ci := 1) (v := .long (vG - ((vG * (f_X6_value 3 sf).toInt64) / 1000))) (ty := .long) (C := RX1) (T := TX1) (N := 7) hx hb hts hin1 tyX1 tyX1_ok nmX1 hown hK hW 0 rfl (Nat.le_of_ble_eq_true rfl) rfl 1 (by decide) w1 rfl (by decide +kernel) rfl rfl (Nat.le_of_ble_eq_true rfl) dX1_loseGas_21 (fun H locs hW => ?_)
  have hW : xW D A s.heap ([(aH, .inr (1, [.int vT, .long (vG - ((vG * (f_X6_value 3 sf).toInt64) / 1000)), .int vM, .int (bi vO), .int vN, .int (bi vD), .int vA])), (aS, .inr (6, [.ref aSv])), (aSv, .inl (cI, 11, .inl sf))] ++ []) H _ := hW
  refine lv_aload_n hx hb dX1_loseGas_24 rfl (lv_at hl 0 rfl) ?_
  refine xget (ci := 1) (C := RX1) (T := TX1) (N := 7) hx hb hts hin1 hown hK hW.1 0 rfl rfl 3 (by decide) w4 rfl dX1_loseGas_25 ?_
  refine xb_eq (tgt := 55) hx hb dX1_loseGas_28 (by decide) (fun c1 => ?_) (fun c1 => ?_)
  · skip
    refine lv_aload_n hx hb dX1_loseGas_55 rfl (lv_at hl 0 rfl) ?_
    refine xget (ci := 1) (C := RX1) (T := TX1) (N := 7) hx hb hts hin1 hown hK hW.1 0 rfl rfl 5 (by decide) w5 rfl dX1_loseGas_56 ?_
    refine xb_eq (tgt := 86) hx hb dX1_loseGas_59 (by decide) (fun c2 => ?_) (fun c2 => ?_)
    · skip
      have hF : f_X1_loseGas vG vO vD sf = vG - ((vG * (f_X6_value 3 sf).toInt64) / 1000) := by
        rw [f_X1_loseGas, if_neg c1, if_neg c2]
      obtain rfl : vG - ((vG * (f_X6_value 3 sf).toInt64) / 1000) = o := hF.symm.trans ho
      exact W.vret hx hb hrt (fun t ht hM => ⟨⟨(), rfl, trivial, ⟨by rw [ht]; exact hW.1, hW.2.1⟩⟩, hW.2.2.F ht⟩) hW.2.2.2.2 dX1_loseGas_86 hlocks
    · skip
      refine lv_aload_n hx hb dX1_loseGas_62 rfl (lv_at hl 0 rfl) ?_
      refine lv_dup hx hb dX1_loseGas_63 rfl ?_
      refine xget (ci := 1) (C := RX1) (T := TX1) (N := 7) hx hb hts hin1 hown hK hW.1 0 rfl rfl 1 (by decide) w1 rfl dX1_loseGas_64 ?_
      refine lv_aload_n hx hb dX1_loseGas_67 rfl (lv_at hl 0 rfl) ?_
      refine xget (ci := 1) (C := RX1) (T := TX1) (N := 7) hx hb hts hin1 hown hK hW.1 0 rfl rfl 1 (by decide) w1 rfl dX1_loseGas_68 ?_
      refine lv_aload_n hx hb dX1_loseGas_71 rfl (lv_at hl 1 rfl) ?_
      refine lv_iconst (v := 4) hx hb dX1_loseGas_72 (by decide) ?_
      refine vp_callSi (va_Run.run (xrunV (As := [.int 4]) (rest := [.long (vG - ((vG * (f_X6_value 3 sf).toInt64) / 1000)), .long (vG - ((vG * (f_X6_value 3 sf).toInt64) / 1000)), .ref aH]) ⟨hx, hb, hml, hown, hts⟩ (c_X6_value l D cI cJ cZ cB H.size aS aSv 4 sf _ rfl) (cwV 1 hts gX1_loseGas_X6_value rfl rfl rfl (by decide +kernel) ⟨Nat.le_of_ble_eq_true rfl, Nat.le_of_ble_eq_true rfl⟩) hK hG hW.2.2 (xsubQ hW hA [1, 2] rfl (by decide)) (va_recv hK hW.1 (ci := 6) (q0 := 1) rfl rfl) rfl hl.1 rfl (Nat.le_of_ble_eq_true rfl) dX1_loseGas_73 ⟨Nat.le_of_ble_eq_true rfl, Nat.le_of_ble_eq_true rfl⟩)) (fun r2 hq => ?_)
      subst hq
      refine lv_i2l hx hb dX1_loseGas_76 rfl ?_
      refine lv_lmul hx hb dX1_loseGas_77 ?_
      refine lv_ldc2 hx hb hown w3 dX1_loseGas_78 ?_
      refine lv_ldiv hx hb dX1_loseGas_81 ((by decide)) ?_
      refine lv_lsub hx hb dX1_loseGas_82 ?_
      refine xput (ci := 1) (v := .long ((vG - ((vG * (f_X6_value 3 sf).toInt64) / 1000)) - (((vG - ((vG * (f_X6_value 3 sf).toInt64) / 1000)) * (f_X6_value 4 sf).toInt64) / 1000))) (ty := .long) (C := RX1) (T := TX1) (N := 7) hx hb hts hin1 tyX1 tyX1_ok nmX1 hown hK hW 0 rfl (Nat.le_of_ble_eq_true rfl) rfl 1 (by decide) w1 rfl (by decide +kernel) rfl rfl (Nat.le_of_ble_eq_true rfl) dX1_loseGas_83 (fun H locs hW => ?_)
      have hW : xW D A s.heap ([(aH, .inr (1, [.int vT, .long ((vG - ((vG * (f_X6_value 3 sf).toInt64) / 1000)) - (((vG - ((vG * (f_X6_value 3 sf).toInt64) / 1000)) * (f_X6_value 4 sf).toInt64) / 1000)), .int vM, .int (bi vO), .int vN, .int (bi vD), .int vA])), (aS, .inr (6, [.ref aSv])), (aSv, .inl (cI, 11, .inl sf))] ++ []) H _ := hW
      have hF : f_X1_loseGas vG vO vD sf = (vG - ((vG * (f_X6_value 3 sf).toInt64) / 1000)) - (((vG - ((vG * (f_X6_value 3 sf).toInt64) / 1000)) * (f_X6_value 4 sf).toInt64) / 1000) := by
        rw [f_X1_loseGas, if_neg c1, if_pos c2]
      obtain rfl : (vG - ((vG * (f_X6_value 3 sf).toInt64) / 1000)) - (((vG - ((vG * (f_X6_value 3 sf).toInt64) / 1000)) * (f_X6_value 4 sf).toInt64) / 1000) = o := hF.symm.trans ho
      exact W.vret hx hb hrt (fun t ht hM => ⟨⟨(), rfl, trivial, ⟨by rw [ht]; exact hW.1, hW.2.1⟩⟩, hW.2.2.F ht⟩) hW.2.2.2.2 dX1_loseGas_86 hlocks
  · skip
    refine lv_aload_n hx hb dX1_loseGas_31 rfl (lv_at hl 0 rfl) ?_
    refine lv_dup hx hb dX1_loseGas_32 rfl ?_
    refine xget (ci := 1) (C := RX1) (T := TX1) (N := 7) hx hb hts hin1 hown hK hW.1 0 rfl rfl 1 (by decide) w1 rfl dX1_loseGas_33 ?_
    refine lv_aload_n hx hb dX1_loseGas_36 rfl (lv_at hl 0 rfl) ?_
    refine xget (ci := 1) (C := RX1) (T := TX1) (N := 7) hx hb hts hin1 hown hK hW.1 0 rfl rfl 1 (by decide) w1 rfl dX1_loseGas_37 ?_
    refine lv_aload_n hx hb dX1_loseGas_40 rfl (lv_at hl 1 rfl) ?_
    refine lv_iconst (v := 2) hx hb dX1_loseGas_41 (by decide) ?_
    refine vp_callSi (va_Run.run (xrunV (As := [.int 2]) (rest := [.long (vG - ((vG * (f_X6_value 3 sf).toInt64) / 1000)), .long (vG - ((vG * (f_X6_value 3 sf).toInt64) / 1000)), .ref aH]) ⟨hx, hb, hml, hown, hts⟩ (c_X6_value l D cI cJ cZ cB H.size aS aSv 2 sf _ rfl) (cwV 1 hts gX1_loseGas_X6_value rfl rfl rfl (by decide +kernel) ⟨Nat.le_of_ble_eq_true rfl, Nat.le_of_ble_eq_true rfl⟩) hK hG hW.2.2 (xsubQ hW hA [1, 2] rfl (by decide)) (va_recv hK hW.1 (ci := 6) (q0 := 1) rfl rfl) rfl hl.1 rfl (Nat.le_of_ble_eq_true rfl) dX1_loseGas_42 ⟨Nat.le_of_ble_eq_true rfl, Nat.le_of_ble_eq_true rfl⟩)) (fun r3 hq => ?_)
    subst hq
    refine lv_i2l hx hb dX1_loseGas_45 rfl ?_
    refine lv_lmul hx hb dX1_loseGas_46 ?_
    refine lv_ldc2 hx hb hown w3 dX1_loseGas_47 ?_
    refine lv_ldiv hx hb dX1_loseGas_50 ((by decide)) ?_
    refine lv_lsub hx hb dX1_loseGas_51 ?_
    refine xput (ci := 1) (v := .long ((vG - ((vG * (f_X6_value 3 sf).toInt64) / 1000)) - (((vG - ((vG * (f_X6_value 3 sf).toInt64) / 1000)) * (f_X6_value 2 sf).toInt64) / 1000))) (ty := .long) (C := RX1) (T := TX1) (N := 7) hx hb hts hin1 tyX1 tyX1_ok nmX1 hown hK hW 0 rfl (Nat.le_of_ble_eq_true rfl) rfl 1 (by decide) w1 rfl (by decide +kernel) rfl rfl (Nat.le_of_ble_eq_true rfl) dX1_loseGas_52 (fun H locs hW => ?_)
    have hW : xW D A s.heap ([(aH, .inr (1, [.int vT, .long ((vG - ((vG * (f_X6_value 3 sf).toInt64) / 1000)) - (((vG - ((vG * (f_X6_value 3 sf).toInt64) / 1000)) * (f_X6_value 2 sf).toInt64) / 1000)), .int vM, .int (bi vO), .int vN, .int (bi vD), .int vA])), (aS, .inr (6, [.ref aSv])), (aSv, .inl (cI, 11, .inl sf))] ++ []) H _ := hW
    refine lv_aload_n hx hb dX1_loseGas_55 rfl (lv_at hl 0 rfl) ?_
    refine xget (ci := 1) (C := RX1) (T := TX1) (N := 7) hx hb hts hin1 hown hK hW.1 0 rfl rfl 5 (by decide) w5 rfl dX1_loseGas_56 ?_
    refine xb_eq (tgt := 86) hx hb dX1_loseGas_59 (by decide) (fun c2 => ?_) (fun c2 => ?_)
    · skip
      have hF : f_X1_loseGas vG vO vD sf = (vG - ((vG * (f_X6_value 3 sf).toInt64) / 1000)) - (((vG - ((vG * (f_X6_value 3 sf).toInt64) / 1000)) * (f_X6_value 2 sf).toInt64) / 1000) := by
        rw [f_X1_loseGas, if_pos c1, if_neg c2]
      obtain rfl : (vG - ((vG * (f_X6_value 3 sf).toInt64) / 1000)) - (((vG - ((vG * (f_X6_value 3 sf).toInt64) / 1000)) * (f_X6_value 2 sf).toInt64) / 1000) = o := hF.symm.trans ho
      exact W.vret hx hb hrt (fun t ht hM => ⟨⟨(), rfl, trivial, ⟨by rw [ht]; exact hW.1, hW.2.1⟩⟩, hW.2.2.F ht⟩) hW.2.2.2.2 dX1_loseGas_86 hlocks
    · skip
      refine lv_aload_n hx hb dX1_loseGas_62 rfl (lv_at hl 0 rfl) ?_
      refine lv_dup hx hb dX1_loseGas_63 rfl ?_
      refine xget (ci := 1) (C := RX1) (T := TX1) (N := 7) hx hb hts hin1 hown hK hW.1 0 rfl rfl 1 (by decide) w1 rfl dX1_loseGas_64 ?_
      refine lv_aload_n hx hb dX1_loseGas_67 rfl (lv_at hl 0 rfl) ?_
      refine xget (ci := 1) (C := RX1) (T := TX1) (N := 7) hx hb hts hin1 hown hK hW.1 0 rfl rfl 1 (by decide) w1 rfl dX1_loseGas_68 ?_
      refine lv_aload_n hx hb dX1_loseGas_71 rfl (lv_at hl 1 rfl) ?_
      refine lv_iconst (v := 4) hx hb dX1_loseGas_72 (by decide) ?_
      refine vp_callSi (va_Run.run (xrunV (As := [.int 4]) (rest := [.long ((vG - ((vG * (f_X6_value 3 sf).toInt64) / 1000)) - (((vG - ((vG * (f_X6_value 3 sf).toInt64) / 1000)) * (f_X6_value 2 sf).toInt64) / 1000)), .long ((vG - ((vG * (f_X6_value 3 sf).toInt64) / 1000)) - (((vG - ((vG * (f_X6_value 3 sf).toInt64) / 1000)) * (f_X6_value 2 sf).toInt64) / 1000)), .ref aH]) ⟨hx, hb, hml, hown, hts⟩ (c_X6_value l D cI cJ cZ cB H.size aS aSv 4 sf _ rfl) (cwV 1 hts gX1_loseGas_X6_value rfl rfl rfl (by decide +kernel) ⟨Nat.le_of_ble_eq_true rfl, Nat.le_of_ble_eq_true rfl⟩) hK hG hW.2.2 (xsubQ hW hA [1, 2] rfl (by decide)) (va_recv hK hW.1 (ci := 6) (q0 := 1) rfl rfl) rfl hl.1 rfl (Nat.le_of_ble_eq_true rfl) dX1_loseGas_73 ⟨Nat.le_of_ble_eq_true rfl, Nat.le_of_ble_eq_true rfl⟩)) (fun r4 hq => ?_)
      subst hq
      refine lv_i2l hx hb dX1_loseGas_76 rfl ?_
      refine lv_lmul hx hb dX1_loseGas_77 ?_
      refine lv_ldc2 hx hb hown w3 dX1_loseGas_78 ?_
      refine lv_ldiv hx hb dX1_loseGas_81 ((by decide)) ?_
      refine lv_lsub hx hb dX1_loseGas_82 ?_
      refine xput (ci := 1) (v := .long (((vG - ((vG * (f_X6_value 3 sf).toInt64) / 1000)) - (((vG - ((vG * (f_X6_value 3 sf).toInt64) / 1000)) * (f_X6_value 2 sf).toInt64) / 1000)) - ((((vG - ((vG * (f_X6_value 3 sf).toInt64) / 1000)) - (((vG - ((vG * (f_X6_value 3 sf).toInt64) / 1000)) * (f_X6_value 2 sf).toInt64) / 1000)) * (f_X6_value 4 sf).toInt64) / 1000))) (ty := .long) (C := RX1) (T := TX1) (N := 7) hx hb hts hin1 tyX1 tyX1_ok nmX1 hown hK hW 0 rfl (Nat.le_of_ble_eq_true rfl) rfl 1 (by decide) w1 rfl (by decide +kernel) rfl rfl (Nat.le_of_ble_eq_true rfl) dX1_loseGas_83 (fun H locs hW => ?_)
      have hW : xW D A s.heap ([(aH, .inr (1, [.int vT, .long (((vG - ((vG * (f_X6_value 3 sf).toInt64) / 1000)) - (((vG - ((vG * (f_X6_value 3 sf).toInt64) / 1000)) * (f_X6_value 2 sf).toInt64) / 1000)) - ((((vG - ((vG * (f_X6_value 3 sf).toInt64) / 1000)) - (((vG - ((vG * (f_X6_value 3 sf).toInt64) / 1000)) * (f_X6_value 2 sf).toInt64) / 1000)) * (f_X6_value 4 sf).toInt64) / 1000)), .int vM, .int (bi vO), .int vN, .int (bi vD), .int vA])), (aS, .inr (6, [.ref aSv])), (aSv, .inl (cI, 11, .inl sf))] ++ []) H _ := hW
      have hF : f_X1_loseGas vG vO vD sf = ((vG - ((vG * (f_X6_value 3 sf).toInt64) / 1000)) - (((vG - ((vG * (f_X6_value 3 sf).toInt64) / 1000)) * (f_X6_value 2 sf).toInt64) / 1000)) - ((((vG - ((vG * (f_X6_value 3 sf).toInt64) / 1000)) - (((vG - ((vG * (f_X6_value 3 sf).toInt64) / 1000)) * (f_X6_value 2 sf).toInt64) / 1000)) * (f_X6_value 4 sf).toInt64) / 1000) := by
        rw [f_X1_loseGas, if_pos c1, if_pos c2]
      obtain rfl : ((vG - ((vG * (f_X6_value 3 sf).toInt64) / 1000)) - (((vG - ((vG * (f_X6_value 3 sf).toInt64) / 1000)) * (f_X6_value 2 sf).toInt64) / 1000)) - ((((vG - ((vG * (f_X6_value 3 sf).toInt64) / 1000)) - (((vG - ((vG * (f_X6_value 3 sf).toInt64) / 1000)) * (f_X6_value 2 sf).toInt64) / 1000)) * (f_X6_value 4 sf).toInt64) / 1000) = o := hF.symm.trans ho
      exact W.vret hx hb hrt (fun t ht hM => ⟨⟨(), rfl, trivial, ⟨by rw [ht]; exact hW.1, hW.2.1⟩⟩, hW.2.2.F ht⟩) hW.2.2.2.2 dX1_loseGas_86 hlocks

def f_X1_moveVent (a0 : Int64) (vM : Int32) (vO : Bool) (vN : Int32) (sf : Nat → Int32) : Bool × Int32 :=
  if vM = 0 then
    if vO = true then
      if (f_X6_value 6 sf).toInt64 < a0 then
        (vO, vN + 1)
      else
        if (vN + 1) < (f_X6_value 7 sf) then
          (vO, vN + 1)
        else
          ((f_X1_shutVent ).1, (f_X1_shutVent ).2)
    else
      if a0 < (f_X6_value 5 sf).toInt64 then
        (vO, vN)
      else
        (f_X1_openVent , vN)
  else
    ((f_X1_keepToMode vM vO vN).1, (f_X1_keepToMode vM vO vN).2)
set_option maxHeartbeats 4000000 in
set_option maxRecDepth 100000 in
theorem c_X1_moveVent (l : Launch) (D : va_G) (cI cJ cZ cB : ClassId) (sz : Nat) (aH : Nat) (aS : Nat) (aSv : Nat) (a0 : Int64) (vT : Int32) (vG : Int64) (vM : Int32) (vO : Bool) (vN : Int32) (vD : Bool) (vA : Int32) (sf : Nat → Int32) (o : Bool × Int32) (ho : f_X1_moveVent a0 vM vO vN sf = o) : Met l yX1_moveVent wsX1_moveVent ({ frames := 2, cells := 0, slots := 0, locals := 43 } : Room) (xPre D (xT cI cJ cZ cB) [.ref aH, .long a0, .ref aS] [(aH, .inr (1, [.int vT, .long vG, .int vM, .int (bi vO), .int vN, .int (bi vD), .int vA])), (aS, .inr (6, [.ref aSv])), (aSv, .inl (cI, 11, .inl sf))] sz) (va_Qv (fun _ : Unit => True) (fun _ t => xB D ([(aH, .inr (1, [.int vT, .long vG, .int vM, .int (bi o.1), .int o.2, .int (bi vD), .int vA])), (aS, .inr (6, [.ref aSv])), (aSv, .inl (cI, 11, .inl sf))]) (va_A [(aH, .inr (1, [.int vT, .long vG, .int vM, .int (bi vO), .int vN, .int (bi vD), .int vA])), (aS, .inr (6, [.ref aSv])), (aSv, .inl (cI, 11, .inl sf))] sz) t) (va_A [(aH, .inr (1, [.int vT, .long vG, .int vM, .int (bi vO), .int vN, .int (bi vD), .int vA])), (aS, .inr (6, [.ref aSv])), (aSv, .inl (cI, 11, .inl sf))] sz)) 0 0 (va_A [(aH, .inr (1, [.int vT, .long vG, .int vM, .int (bi vO), .int vN, .int (bi vD), .int vA])), (aS, .inr (6, [.ref aSv])), (aSv, .inl (cI, 11, .inl sf))] sz) := by
  refine xofW (Qc := fun A0 => va_Qv (fun _ : Unit => True) (fun _ t => xB D ([(aH, .inr (1, [.int vT, .long vG, .int vM, .int (bi o.1), .int o.2, .int (bi vD), .int vA])), (aS, .inr (6, [.ref aSv])), (aSv, .inl (cI, 11, .inl sf))]) A0 t) A0) (fr := fun A => A) (cc := cX1_moveVent) (maxL := 4) (ret := none) (by decide) rfl (Nat.le_of_ble_eq_true rfl) ?_
  intro p e s m below meth c A ⟨hx, hb, hml, hown, hts⟩ hrt hlocks hnm hsz hK hW hA hG ls hl
  have hown : s.vm.findClass RX1 = some m.cls := hown
  have hl : lv_has ls 4 [(0, .ref aH), (1, .long a0), (3, .ref aS)] := hl
  obtain ⟨H, hH⟩ : ∃ H, H = s.heap := ⟨_, rfl⟩
  have hW : xW D A s.heap ([(aH, .inr (1, [.int vT, .long vG, .int vM, .int (bi vO), .int vN, .int (bi vD), .int vA])), (aS, .inr (6, [.ref aSv])), (aSv, .inl (cI, 11, .inl sf))] ++ []) H [] := by rw [hH]; exact hW
  have w1 := hts (.fieldLink RX1 15 "DryIceLane$Hold" "ventMode" "I") (by decide +kernel)
  have hin1 : ∀ w ∈ u_ws RX1 TX1 7, w ∈ wsX1_moveVent := by decide +kernel
  have w3 := hts (.fieldLink RX1 22 "DryIceLane$Hold" "ventOpen" "Z") (by decide +kernel)
  have w4 := hts (.fieldLink RX1 26 "DryIceLane$Hold" "ventMinutes" "I") (by decide +kernel)
  rw [← hH]
  refine lv_aload_n hx hb dX1_moveVent_0 rfl (lv_at hl 0 rfl) ?_
  refine xget (ci := 1) (C := RX1) (T := TX1) (N := 7) hx hb hts hin1 hown hK hW.1 0 rfl rfl 2 (by decide) w1 rfl dX1_moveVent_1 ?_
  refine lv_if_eq (tgt := 14) hx hb dX1_moveVent_4 (by decide) (fun c1 => ?_) (fun c1 => ?_)
  · skip
    refine lv_aload_n hx hb dX1_moveVent_14 rfl (lv_at hl 0 rfl) ?_
    refine xget (ci := 1) (C := RX1) (T := TX1) (N := 7) hx hb hts hin1 hown hK hW.1 0 rfl rfl 3 (by decide) w3 rfl dX1_moveVent_15 ?_
    refine xb_ne (tgt := 39) hx hb dX1_moveVent_18 (by decide) (fun c2 => ?_) (fun c2 => ?_)
    · skip
      refine lv_aload_n hx hb dX1_moveVent_39 rfl (lv_at hl 0 rfl) ?_
      refine lv_dup hx hb dX1_moveVent_40 rfl ?_
      refine xget (ci := 1) (C := RX1) (T := TX1) (N := 7) hx hb hts hin1 hown hK hW.1 0 rfl rfl 4 (by decide) w4 rfl dX1_moveVent_41 ?_
      refine lv_iconst (v := 1) hx hb dX1_moveVent_44 (by decide) ?_
      refine lv_iadd hx hb dX1_moveVent_45 ?_
      refine xput (ci := 1) (v := .int (vN + 1)) (ty := .int) (C := RX1) (T := TX1) (N := 7) hx hb hts hin1 tyX1 tyX1_ok nmX1 hown hK hW 0 rfl (Nat.le_of_ble_eq_true rfl) rfl 4 (by decide) w4 rfl (by decide +kernel) rfl rfl (Nat.le_of_ble_eq_true rfl) dX1_moveVent_46 (fun H locs hW => ?_)
      have hW : xW D A s.heap ([(aH, .inr (1, [.int vT, .long vG, .int vM, .int (bi vO), .int (vN + 1), .int (bi vD), .int vA])), (aS, .inr (6, [.ref aSv])), (aSv, .inl (cI, 11, .inl sf))] ++ []) H _ := hW
      refine lv_lload_n hx hb dX1_moveVent_49 rfl (lv_at hl 1 rfl) ?_
      refine lv_aload_n hx hb dX1_moveVent_50 rfl (lv_at hl 2 rfl) ?_
      refine lv_bipush (v := 6) hx hb dX1_moveVent_51 (by decide) ?_
      refine vp_callSi (va_Run.run (xrunV (As := [.int 6]) (rest := [.long a0]) ⟨hx, hb, hml, hown, hts⟩ (c_X6_value l D cI cJ cZ cB H.size aS aSv 6 sf _ rfl) (cwV 1 hts gX1_moveVent_X6_value rfl rfl rfl (by decide +kernel) ⟨Nat.le_of_ble_eq_true rfl, Nat.le_of_ble_eq_true rfl⟩) hK hG hW.2.2 (xsubQ hW hA [1, 2] rfl (by decide)) (va_recv hK hW.1 (ci := 6) (q0 := 1) rfl rfl) rfl hl.1 rfl (Nat.le_of_ble_eq_true rfl) dX1_moveVent_53 ⟨Nat.le_of_ble_eq_true rfl, Nat.le_of_ble_eq_true rfl⟩)) (fun r1 hq => ?_)
      subst hq
      refine lv_i2l hx hb dX1_moveVent_56 rfl ?_
      refine xlc_gt (tgt := 78) hx hb dX1_moveVent_57 dX1_moveVent_58 (by decide) (fun c3 => ?_) (fun c3 => ?_)
      · skip
        have hF : f_X1_moveVent a0 vM vO vN sf = (vO, vN + 1) := by
          rw [f_X1_moveVent, if_pos c1, if_pos c2, if_pos c3]
        obtain rfl : (vO, vN + 1) = o := hF.symm.trans ho
        exact W.vret hx hb hrt (fun t ht hM => ⟨⟨(), rfl, trivial, ⟨by rw [ht]; exact hW.1, hW.2.1⟩⟩, hW.2.2.F ht⟩) hW.2.2.2.2 dX1_moveVent_78 hlocks
      · skip
        refine lv_aload_n hx hb dX1_moveVent_61 rfl (lv_at hl 0 rfl) ?_
        refine xget (ci := 1) (C := RX1) (T := TX1) (N := 7) hx hb hts hin1 hown hK hW.1 0 rfl rfl 4 (by decide) w4 rfl dX1_moveVent_62 ?_
        refine lv_aload_n hx hb dX1_moveVent_65 rfl (lv_at hl 2 rfl) ?_
        refine lv_bipush (v := 7) hx hb dX1_moveVent_66 (by decide) ?_
        refine vp_callSi (va_Run.run (xrunV (As := [.int 7]) (rest := [.int (vN + 1)]) ⟨hx, hb, hml, hown, hts⟩ (c_X6_value l D cI cJ cZ cB H.size aS aSv 7 sf _ rfl) (cwV 1 hts gX1_moveVent_X6_value rfl rfl rfl (by decide +kernel) ⟨Nat.le_of_ble_eq_true rfl, Nat.le_of_ble_eq_true rfl⟩) hK hG hW.2.2 (xsubQ hW hA [1, 2] rfl (by decide)) (va_recv hK hW.1 (ci := 6) (q0 := 1) rfl rfl) rfl hl.1 rfl (Nat.le_of_ble_eq_true rfl) dX1_moveVent_68 ⟨Nat.le_of_ble_eq_true rfl, Nat.le_of_ble_eq_true rfl⟩)) (fun r2 hq => ?_)
        subst hq
        refine lv_icmp_lt (tgt := 78) hx hb dX1_moveVent_71 (by decide) (fun c4 => ?_) (fun c4 => ?_)
        · skip
          have hF : f_X1_moveVent a0 vM vO vN sf = (vO, vN + 1) := by
            rw [f_X1_moveVent, if_pos c1, if_pos c2, if_neg c3, if_pos c4]
          obtain rfl : (vO, vN + 1) = o := hF.symm.trans ho
          exact W.vret hx hb hrt (fun t ht hM => ⟨⟨(), rfl, trivial, ⟨by rw [ht]; exact hW.1, hW.2.1⟩⟩, hW.2.2.F ht⟩) hW.2.2.2.2 dX1_moveVent_78 hlocks
        · skip
          refine lv_aload_n hx hb dX1_moveVent_74 rfl (lv_at hl 0 rfl) ?_
          refine xQv (wr := [(aS, .inr (6, [.ref aSv])), (aSv, .inl (cI, 11, .inl sf))]) hW hA [0] [1, 2] rfl rfl (by decide) (by decide) (by decide) (xrunV (As := []) (rest := []) ⟨hx, hb, hml, hown, hts⟩ (c_X1_shutVent l D cI cJ cZ cB H.size aH vT vG vM vO (vN + 1) vD vA _ rfl) (cwV 0 hts gX1_moveVent_X1_shutVent rfl rfl rfl (by decide +kernel) ⟨Nat.le_of_ble_eq_true rfl, Nat.le_of_ble_eq_true rfl⟩) hK hG hW.2.2 (xsubQ hW hA [0] rfl (by decide)) (va_recv hK hW.1 (ci := 1) (q0 := 0) rfl rfl) rfl hl.1 rfl (Nat.le_of_ble_eq_true rfl) dX1_moveVent_75 ⟨Nat.le_of_ble_eq_true rfl, Nat.le_of_ble_eq_true rfl⟩) (fun _ H locs _ hW => ?_)
          have hW : xW D A s.heap ([(aS, .inr (6, [.ref aSv])), (aSv, .inl (cI, 11, .inl sf)), (aH, .inr (1, [.int vT, .long vG, .int vM, .int (bi (f_X1_shutVent ).1), .int (f_X1_shutVent ).2, .int (bi vD), .int vA]))] ++ []) H _ := hW
          have hF : f_X1_moveVent a0 vM vO vN sf = ((f_X1_shutVent ).1, (f_X1_shutVent ).2) := by
            rw [f_X1_moveVent, if_pos c1, if_pos c2, if_neg c3, if_neg c4]
          obtain rfl : ((f_X1_shutVent ).1, (f_X1_shutVent ).2) = o := hF.symm.trans ho
          have hW := xW_perm (X' := [(aH, .inr (1, [.int vT, .long vG, .int vM, .int (bi (f_X1_shutVent ).1), .int (f_X1_shutVent ).2, .int (bi vD), .int vA])), (aS, .inr (6, [.ref aSv])), (aSv, .inl (cI, 11, .inl sf))]) hW [2, 0, 1] rfl (by decide)
          exact W.vret hx hb hrt (fun t ht hM => ⟨⟨(), rfl, trivial, ⟨by rw [ht]; exact hW.1, hW.2.1⟩⟩, hW.2.2.F ht⟩) hW.2.2.2.2 dX1_moveVent_78 hlocks
    · skip
      refine lv_lload_n hx hb dX1_moveVent_21 rfl (lv_at hl 1 rfl) ?_
      refine lv_aload_n hx hb dX1_moveVent_22 rfl (lv_at hl 2 rfl) ?_
      refine lv_iconst (v := 5) hx hb dX1_moveVent_23 (by decide) ?_
      refine vp_callSi (va_Run.run (xrunV (As := [.int 5]) (rest := [.long a0]) ⟨hx, hb, hml, hown, hts⟩ (c_X6_value l D cI cJ cZ cB H.size aS aSv 5 sf _ rfl) (cwV 1 hts gX1_moveVent_X6_value rfl rfl rfl (by decide +kernel) ⟨Nat.le_of_ble_eq_true rfl, Nat.le_of_ble_eq_true rfl⟩) hK hG hW.2.2 (xsubQ hW hA [1, 2] rfl (by decide)) (va_recv hK hW.1 (ci := 6) (q0 := 1) rfl rfl) rfl hl.1 rfl (Nat.le_of_ble_eq_true rfl) dX1_moveVent_24 ⟨Nat.le_of_ble_eq_true rfl, Nat.le_of_ble_eq_true rfl⟩)) (fun r3 hq => ?_)
      subst hq
      refine lv_i2l hx hb dX1_moveVent_27 rfl ?_
      refine xlc_lt (tgt := 78) hx hb dX1_moveVent_28 dX1_moveVent_29 (by decide) (fun c3 => ?_) (fun c3 => ?_)
      · skip
        have hF : f_X1_moveVent a0 vM vO vN sf = (vO, vN) := by
          rw [f_X1_moveVent, if_pos c1, if_neg c2, if_pos c3]
        obtain rfl : (vO, vN) = o := hF.symm.trans ho
        exact W.vret hx hb hrt (fun t ht hM => ⟨⟨(), rfl, trivial, ⟨by rw [ht]; exact hW.1, hW.2.1⟩⟩, hW.2.2.F ht⟩) hW.2.2.2.2 dX1_moveVent_78 hlocks
      · skip
        refine lv_aload_n hx hb dX1_moveVent_32 rfl (lv_at hl 0 rfl) ?_
        refine xQv (wr := [(aS, .inr (6, [.ref aSv])), (aSv, .inl (cI, 11, .inl sf))]) hW hA [0] [1, 2] rfl rfl (by decide) (by decide) (by decide) (xrunV (As := []) (rest := []) ⟨hx, hb, hml, hown, hts⟩ (c_X1_openVent l D cI cJ cZ cB H.size aH vT vG vM vO vN vD vA _ rfl) (cwV 0 hts gX1_moveVent_X1_openVent rfl rfl rfl (by decide +kernel) ⟨Nat.le_of_ble_eq_true rfl, Nat.le_of_ble_eq_true rfl⟩) hK hG hW.2.2 (xsubQ hW hA [0] rfl (by decide)) (va_recv hK hW.1 (ci := 1) (q0 := 0) rfl rfl) rfl hl.1 rfl (Nat.le_of_ble_eq_true rfl) dX1_moveVent_33 ⟨Nat.le_of_ble_eq_true rfl, Nat.le_of_ble_eq_true rfl⟩) (fun _ H locs _ hW => ?_)
        have hW : xW D A s.heap ([(aS, .inr (6, [.ref aSv])), (aSv, .inl (cI, 11, .inl sf)), (aH, .inr (1, [.int vT, .long vG, .int vM, .int (bi (f_X1_openVent )), .int vN, .int (bi vD), .int vA]))] ++ []) H _ := hW
        refine lv_goto (tgt := 78) hx hb dX1_moveVent_36 (by decide) ?_
        have hF : f_X1_moveVent a0 vM vO vN sf = (f_X1_openVent , vN) := by
          rw [f_X1_moveVent, if_pos c1, if_neg c2, if_neg c3]
        obtain rfl : (f_X1_openVent , vN) = o := hF.symm.trans ho
        have hW := xW_perm (X' := [(aH, .inr (1, [.int vT, .long vG, .int vM, .int (bi (f_X1_openVent )), .int vN, .int (bi vD), .int vA])), (aS, .inr (6, [.ref aSv])), (aSv, .inl (cI, 11, .inl sf))]) hW [2, 0, 1] rfl (by decide)
        exact W.vret hx hb hrt (fun t ht hM => ⟨⟨(), rfl, trivial, ⟨by rw [ht]; exact hW.1, hW.2.1⟩⟩, hW.2.2.F ht⟩) hW.2.2.2.2 dX1_moveVent_78 hlocks
  · skip
    refine lv_aload_n hx hb dX1_moveVent_7 rfl (lv_at hl 0 rfl) ?_
    refine xQv (wr := [(aS, .inr (6, [.ref aSv])), (aSv, .inl (cI, 11, .inl sf))]) hW hA [0] [1, 2] rfl rfl (by decide) (by decide) (by decide) (xrunV (As := []) (rest := []) ⟨hx, hb, hml, hown, hts⟩ (c_X1_keepToMode l D cI cJ cZ cB H.size aH vT vG vM vO vN vD vA _ rfl) (cwV 0 hts gX1_moveVent_X1_keepToMode rfl rfl rfl (by decide +kernel) ⟨Nat.le_of_ble_eq_true rfl, Nat.le_of_ble_eq_true rfl⟩) hK hG hW.2.2 (xsubQ hW hA [0] rfl (by decide)) (va_recv hK hW.1 (ci := 1) (q0 := 0) rfl rfl) rfl hl.1 rfl (Nat.le_of_ble_eq_true rfl) dX1_moveVent_8 ⟨Nat.le_of_ble_eq_true rfl, Nat.le_of_ble_eq_true rfl⟩) (fun _ H locs _ hW => ?_)
    have hW : xW D A s.heap ([(aS, .inr (6, [.ref aSv])), (aSv, .inl (cI, 11, .inl sf)), (aH, .inr (1, [.int vT, .long vG, .int vM, .int (bi (f_X1_keepToMode vM vO vN).1), .int (f_X1_keepToMode vM vO vN).2, .int (bi vD), .int vA]))] ++ []) H _ := hW
    refine lv_goto (tgt := 78) hx hb dX1_moveVent_11 (by decide) ?_
    have hF : f_X1_moveVent a0 vM vO vN sf = ((f_X1_keepToMode vM vO vN).1, (f_X1_keepToMode vM vO vN).2) := by
      rw [f_X1_moveVent, if_neg c1]
    obtain rfl : ((f_X1_keepToMode vM vO vN).1, (f_X1_keepToMode vM vO vN).2) = o := hF.symm.trans ho
    have hW := xW_perm (X' := [(aH, .inr (1, [.int vT, .long vG, .int vM, .int (bi (f_X1_keepToMode vM vO vN).1), .int (f_X1_keepToMode vM vO vN).2, .int (bi vD), .int vA])), (aS, .inr (6, [.ref aSv])), (aSv, .inl (cI, 11, .inl sf))]) hW [2, 0, 1] rfl (by decide)
    exact W.vret hx hb hrt (fun t ht hM => ⟨⟨(), rfl, trivial, ⟨by rw [ht]; exact hW.1, hW.2.1⟩⟩, hW.2.2.F ht⟩) hW.2.2.2.2 dX1_moveVent_78 hlocks

def f_X1_letMinutePass (a0 : Int32) (a1 : Int32) (vT : Int32) (vG : Int64) (vM : Int32) (vO : Bool) (vN : Int32) (vD : Bool) (vA : Int32) (sf : Nat → Int32) : Int32 × Int64 × Bool × Int32 × Int32 :=
  if vD = true then
    if (f_X1_concentration (f_X1_loseGas (vG + a0.toInt64) vO vD sf) sf) < (f_X6_value 8 sf).toInt64 then
      (f_X1_changeTemperature a0 a1 vT vO vD sf, f_X1_loseGas (vG + a0.toInt64) vO vD sf, (f_X1_moveVent (f_X1_concentration (f_X1_loseGas (vG + a0.toInt64) vO vD sf) sf) vM vO vN sf).1, (f_X1_moveVent (f_X1_concentration (f_X1_loseGas (vG + a0.toInt64) vO vD sf) sf) vM vO vN sf).2, vA)
    else
      (f_X1_changeTemperature a0 a1 vT vO vD sf, f_X1_loseGas (vG + a0.toInt64) vO vD sf, (f_X1_moveVent (f_X1_concentration (f_X1_loseGas (vG + a0.toInt64) vO vD sf) sf) vM vO vN sf).1, (f_X1_moveVent (f_X1_concentration (f_X1_loseGas (vG + a0.toInt64) vO vD sf) sf) vM vO vN sf).2, vA + 1)
  else
    (f_X1_changeTemperature a0 a1 vT vO vD sf, f_X1_loseGas (vG + a0.toInt64) vO vD sf, (f_X1_moveVent (f_X1_concentration (f_X1_loseGas (vG + a0.toInt64) vO vD sf) sf) vM vO vN sf).1, (f_X1_moveVent (f_X1_concentration (f_X1_loseGas (vG + a0.toInt64) vO vD sf) sf) vM vO vN sf).2, vA)
set_option maxHeartbeats 4000000 in
set_option maxRecDepth 100000 in
theorem c_X1_letMinutePass (l : Launch) (D : va_G) (cI cJ cZ cB : ClassId) (sz : Nat) (aH : Nat) (aS : Nat) (aSv : Nat) (a0 : Int32) (a1 : Int32) (vT : Int32) (vG : Int64) (vM : Int32) (vO : Bool) (vN : Int32) (vD : Bool) (vA : Int32) (sf : Nat → Int32) (o : Int32 × Int64 × Bool × Int32 × Int32) (ho : f_X1_letMinutePass a0 a1 vT vG vM vO vN vD vA sf = o) : Met l yX1_letMinutePass wsX1_letMinutePass ({ frames := 3, cells := 0, slots := 0, locals := 68 } : Room) (xPre D (xT cI cJ cZ cB) [.ref aH, .int a0, .int a1, .ref aS] [(aH, .inr (1, [.int vT, .long vG, .int vM, .int (bi vO), .int vN, .int (bi vD), .int vA])), (aS, .inr (6, [.ref aSv])), (aSv, .inl (cI, 11, .inl sf))] sz) (va_Qv (fun _ : Unit => True) (fun _ t => xB D ([(aH, .inr (1, [.int o.1, .long o.2.1, .int vM, .int (bi o.2.2.1), .int o.2.2.2.1, .int (bi vD), .int o.2.2.2.2])), (aS, .inr (6, [.ref aSv])), (aSv, .inl (cI, 11, .inl sf))]) (va_A [(aH, .inr (1, [.int vT, .long vG, .int vM, .int (bi vO), .int vN, .int (bi vD), .int vA])), (aS, .inr (6, [.ref aSv])), (aSv, .inl (cI, 11, .inl sf))] sz) t) (va_A [(aH, .inr (1, [.int vT, .long vG, .int vM, .int (bi vO), .int vN, .int (bi vD), .int vA])), (aS, .inr (6, [.ref aSv])), (aSv, .inl (cI, 11, .inl sf))] sz)) 0 0 (va_A [(aH, .inr (1, [.int vT, .long vG, .int vM, .int (bi vO), .int vN, .int (bi vD), .int vA])), (aS, .inr (6, [.ref aSv])), (aSv, .inl (cI, 11, .inl sf))] sz) := by
  refine xofW (Qc := fun A0 => va_Qv (fun _ : Unit => True) (fun _ t => xB D ([(aH, .inr (1, [.int o.1, .long o.2.1, .int vM, .int (bi o.2.2.1), .int o.2.2.2.1, .int (bi vD), .int o.2.2.2.2])), (aS, .inr (6, [.ref aSv])), (aSv, .inl (cI, 11, .inl sf))]) A0 t) A0) (fr := fun A => A) (cc := cX1_letMinutePass) (maxL := 6) (ret := none) (by decide) rfl (Nat.le_of_ble_eq_true rfl) ?_
  intro p e s m below meth c A ⟨hx, hb, hml, hown, hts⟩ hrt hlocks hnm hsz hK hW hA hG ls hl
  have hown : s.vm.findClass RX1 = some m.cls := hown
  have hl : lv_has ls 6 [(0, .ref aH), (1, .int a0), (2, .int a1), (3, .ref aS)] := hl
  obtain ⟨H, hH⟩ : ∃ H, H = s.heap := ⟨_, rfl⟩
  have hW : xW D A s.heap ([(aH, .inr (1, [.int vT, .long vG, .int vM, .int (bi vO), .int vN, .int (bi vD), .int vA])), (aS, .inr (6, [.ref aSv])), (aSv, .inl (cI, 11, .inl sf))] ++ []) H [] := by rw [hH]; exact hW
  have w1 := hts (.fieldLink RX1 18 "DryIceLane$Hold" "gas" "J") (by decide +kernel)
  have hin1 : ∀ w ∈ u_ws RX1 TX1 7, w ∈ wsX1_letMinutePass := by decide +kernel
  have w3 := hts (.fieldLink RX1 29 "DryIceLane$Hold" "doorOpen" "Z") (by decide +kernel)
  have w4 := hts (.fieldLink RX1 32 "DryIceLane$Hold" "alarms" "I") (by decide +kernel)
  rw [← hH]
  refine lv_aload_n hx hb dX1_letMinutePass_0 rfl (lv_at hl 0 rfl) ?_
  refine lv_dup hx hb dX1_letMinutePass_1 rfl ?_
  refine xget (ci := 1) (C := RX1) (T := TX1) (N := 7) hx hb hts hin1 hown hK hW.1 0 rfl rfl 1 (by decide) w1 rfl dX1_letMinutePass_2 ?_
  refine lv_iload_n hx hb dX1_letMinutePass_5 rfl (lv_at hl 1 rfl) ?_
  refine lv_i2l hx hb dX1_letMinutePass_6 rfl ?_
  refine lv_ladd hx hb dX1_letMinutePass_7 ?_
  refine xput (ci := 1) (v := .long (vG + a0.toInt64)) (ty := .long) (C := RX1) (T := TX1) (N := 7) hx hb hts hin1 tyX1 tyX1_ok nmX1 hown hK hW 0 rfl (Nat.le_of_ble_eq_true rfl) rfl 1 (by decide) w1 rfl (by decide +kernel) rfl rfl (Nat.le_of_ble_eq_true rfl) dX1_letMinutePass_8 (fun H locs hW => ?_)
  have hW : xW D A s.heap ([(aH, .inr (1, [.int vT, .long (vG + a0.toInt64), .int vM, .int (bi vO), .int vN, .int (bi vD), .int vA])), (aS, .inr (6, [.ref aSv])), (aSv, .inl (cI, 11, .inl sf))] ++ []) H _ := hW
  refine lv_aload_n hx hb dX1_letMinutePass_11 rfl (lv_at hl 0 rfl) ?_
  refine lv_iload_n hx hb dX1_letMinutePass_12 rfl (lv_at hl 1 rfl) ?_
  refine lv_iload_n hx hb dX1_letMinutePass_13 rfl (lv_at hl 2 rfl) ?_
  refine lv_aload_n hx hb dX1_letMinutePass_14 rfl (lv_at hl 3 rfl) ?_
  refine xQv (wr := []) hW hA [0, 1, 2] [] rfl rfl (by decide) (by decide) (by decide) (xrunV (As := [.int a0, .int a1, .ref aS]) (rest := []) ⟨hx, hb, hml, hown, hts⟩ (c_X1_changeTemperature l D cI cJ cZ cB H.size aH aS aSv a0 a1 vT (vG + a0.toInt64) vM vO vN vD vA sf _ rfl) (cwV 3 hts gX1_letMinutePass_X1_changeTemperature rfl rfl rfl (by decide +kernel) ⟨Nat.le_of_ble_eq_true rfl, Nat.le_of_ble_eq_true rfl⟩) hK hG hW.2.2 (xsubQ hW hA [0, 1, 2] rfl (by decide)) (va_recv hK hW.1 (ci := 1) (q0 := 0) rfl rfl) rfl hl.1 rfl (Nat.le_of_ble_eq_true rfl) dX1_letMinutePass_15 ⟨Nat.le_of_ble_eq_true rfl, Nat.le_of_ble_eq_true rfl⟩) (fun _ H locs _ hW => ?_)
  have hW : xW D A s.heap ([(aH, .inr (1, [.int (f_X1_changeTemperature a0 a1 vT vO vD sf), .long (vG + a0.toInt64), .int vM, .int (bi vO), .int vN, .int (bi vD), .int vA])), (aS, .inr (6, [.ref aSv])), (aSv, .inl (cI, 11, .inl sf))] ++ []) H _ := hW
  refine lv_aload_n hx hb dX1_letMinutePass_18 rfl (lv_at hl 0 rfl) ?_
  refine lv_aload_n hx hb dX1_letMinutePass_19 rfl (lv_at hl 3 rfl) ?_
  refine xQv (wr := []) hW hA [0, 1, 2] [] rfl rfl (by decide) (by decide) (by decide) (xrunV (As := [.ref aS]) (rest := []) ⟨hx, hb, hml, hown, hts⟩ (c_X1_loseGas l D cI cJ cZ cB H.size aH aS aSv (f_X1_changeTemperature a0 a1 vT vO vD sf) (vG + a0.toInt64) vM vO vN vD vA sf _ rfl) (cwV 1 hts gX1_letMinutePass_X1_loseGas rfl rfl rfl (by decide +kernel) ⟨Nat.le_of_ble_eq_true rfl, Nat.le_of_ble_eq_true rfl⟩) hK hG hW.2.2 (xsubQ hW hA [0, 1, 2] rfl (by decide)) (va_recv hK hW.1 (ci := 1) (q0 := 0) rfl rfl) rfl hl.1 rfl (Nat.le_of_ble_eq_true rfl) dX1_letMinutePass_20 ⟨Nat.le_of_ble_eq_true rfl, Nat.le_of_ble_eq_true rfl⟩) (fun _ H locs _ hW => ?_)
  have hW : xW D A s.heap ([(aH, .inr (1, [.int (f_X1_changeTemperature a0 a1 vT vO vD sf), .long (f_X1_loseGas (vG + a0.toInt64) vO vD sf), .int vM, .int (bi vO), .int vN, .int (bi vD), .int vA])), (aS, .inr (6, [.ref aSv])), (aSv, .inl (cI, 11, .inl sf))] ++ []) H _ := hW
  refine lv_aload_n hx hb dX1_letMinutePass_23 rfl (lv_at hl 0 rfl) ?_
  refine lv_aload_n hx hb dX1_letMinutePass_24 rfl (lv_at hl 3 rfl) ?_
  refine vp_callSl (va_Run.run (xrunV (As := [.ref aS]) (rest := []) ⟨hx, hb, hml, hown, hts⟩ (c_X1_concentration l D cI cJ cZ cB H.size aH aS aSv (f_X1_changeTemperature a0 a1 vT vO vD sf) (f_X1_loseGas (vG + a0.toInt64) vO vD sf) vM vO vN vD vA sf _ rfl) (cwV 1 hts gX1_letMinutePass_X1_concentration rfl rfl rfl (by decide +kernel) ⟨Nat.le_of_ble_eq_true rfl, Nat.le_of_ble_eq_true rfl⟩) hK hG hW.2.2 (xsubQ hW hA [0, 1, 2] rfl (by decide)) (va_recv hK hW.1 (ci := 1) (q0 := 0) rfl rfl) rfl hl.1 rfl (Nat.le_of_ble_eq_true rfl) dX1_letMinutePass_25 ⟨Nat.le_of_ble_eq_true rfl, Nat.le_of_ble_eq_true rfl⟩)) (fun r1 hq => ?_)
  subst hq
  refine lv_lstore (lv' := [(4, .long (f_X1_concentration (f_X1_loseGas (vG + a0.toInt64) vO vD sf) sf)), (0, .ref aH), (1, .int a0), (2, .int a1), (3, .ref aS)]) hx hb dX1_letMinutePass_28 hl (by decide) rfl (fun ls hl => ?_)
  refine lv_aload_n hx hb dX1_letMinutePass_30 rfl (lv_at hl 1 rfl) ?_
  refine lv_lload hx hb dX1_letMinutePass_31 (lv_at hl 0 rfl) ?_
  refine lv_aload_n hx hb dX1_letMinutePass_33 rfl (lv_at hl 4 rfl) ?_
  refine xQv (wr := []) hW hA [0, 1, 2] [] rfl rfl (by decide) (by decide) (by decide) (xrunV (As := [.long (f_X1_concentration (f_X1_loseGas (vG + a0.toInt64) vO vD sf) sf), .ref aS]) (rest := []) ⟨hx, hb, hml, hown, hts⟩ (c_X1_moveVent l D cI cJ cZ cB H.size aH aS aSv (f_X1_concentration (f_X1_loseGas (vG + a0.toInt64) vO vD sf) sf) (f_X1_changeTemperature a0 a1 vT vO vD sf) (f_X1_loseGas (vG + a0.toInt64) vO vD sf) vM vO vN vD vA sf _ rfl) (cwV 2 hts gX1_letMinutePass_X1_moveVent rfl rfl rfl (by decide +kernel) ⟨Nat.le_of_ble_eq_true rfl, Nat.le_of_ble_eq_true rfl⟩) hK hG hW.2.2 (xsubQ hW hA [0, 1, 2] rfl (by decide)) (va_recv hK hW.1 (ci := 1) (q0 := 0) rfl rfl) rfl hl.1 rfl (Nat.le_of_ble_eq_true rfl) dX1_letMinutePass_34 ⟨Nat.le_of_ble_eq_true rfl, Nat.le_of_ble_eq_true rfl⟩) (fun _ H locs _ hW => ?_)
  have hW : xW D A s.heap ([(aH, .inr (1, [.int (f_X1_changeTemperature a0 a1 vT vO vD sf), .long (f_X1_loseGas (vG + a0.toInt64) vO vD sf), .int vM, .int (bi (f_X1_moveVent (f_X1_concentration (f_X1_loseGas (vG + a0.toInt64) vO vD sf) sf) vM vO vN sf).1), .int (f_X1_moveVent (f_X1_concentration (f_X1_loseGas (vG + a0.toInt64) vO vD sf) sf) vM vO vN sf).2, .int (bi vD), .int vA])), (aS, .inr (6, [.ref aSv])), (aSv, .inl (cI, 11, .inl sf))] ++ []) H _ := hW
  refine lv_aload_n hx hb dX1_letMinutePass_37 rfl (lv_at hl 1 rfl) ?_
  refine xget (ci := 1) (C := RX1) (T := TX1) (N := 7) hx hb hts hin1 hown hK hW.1 0 rfl rfl 5 (by decide) w3 rfl dX1_letMinutePass_38 ?_
  refine xb_eq (tgt := 67) hx hb dX1_letMinutePass_41 (by decide) (fun c1 => ?_) (fun c1 => ?_)
  · skip
    have hF : f_X1_letMinutePass a0 a1 vT vG vM vO vN vD vA sf = (f_X1_changeTemperature a0 a1 vT vO vD sf, f_X1_loseGas (vG + a0.toInt64) vO vD sf, (f_X1_moveVent (f_X1_concentration (f_X1_loseGas (vG + a0.toInt64) vO vD sf) sf) vM vO vN sf).1, (f_X1_moveVent (f_X1_concentration (f_X1_loseGas (vG + a0.toInt64) vO vD sf) sf) vM vO vN sf).2, vA) := by
      rw [f_X1_letMinutePass, if_neg c1]
    obtain rfl : (f_X1_changeTemperature a0 a1 vT vO vD sf, f_X1_loseGas (vG + a0.toInt64) vO vD sf, (f_X1_moveVent (f_X1_concentration (f_X1_loseGas (vG + a0.toInt64) vO vD sf) sf) vM vO vN sf).1, (f_X1_moveVent (f_X1_concentration (f_X1_loseGas (vG + a0.toInt64) vO vD sf) sf) vM vO vN sf).2, vA) = o := hF.symm.trans ho
    exact W.vret hx hb hrt (fun t ht hM => ⟨⟨(), rfl, trivial, ⟨by rw [ht]; exact hW.1, hW.2.1⟩⟩, hW.2.2.F ht⟩) hW.2.2.2.2 dX1_letMinutePass_67 hlocks
  · skip
    refine lv_lload hx hb dX1_letMinutePass_44 (lv_at hl 0 rfl) ?_
    refine lv_aload_n hx hb dX1_letMinutePass_46 rfl (lv_at hl 4 rfl) ?_
    refine lv_bipush (v := 8) hx hb dX1_letMinutePass_47 (by decide) ?_
    refine vp_callSi (va_Run.run (xrunV (As := [.int 8]) (rest := [.long (f_X1_concentration (f_X1_loseGas (vG + a0.toInt64) vO vD sf) sf)]) ⟨hx, hb, hml, hown, hts⟩ (c_X6_value l D cI cJ cZ cB H.size aS aSv 8 sf _ rfl) (cwV 1 hts gX1_letMinutePass_X6_value rfl rfl rfl (by decide +kernel) ⟨Nat.le_of_ble_eq_true rfl, Nat.le_of_ble_eq_true rfl⟩) hK hG hW.2.2 (xsubQ hW hA [1, 2] rfl (by decide)) (va_recv hK hW.1 (ci := 6) (q0 := 1) rfl rfl) rfl hl.1 rfl (Nat.le_of_ble_eq_true rfl) dX1_letMinutePass_49 ⟨Nat.le_of_ble_eq_true rfl, Nat.le_of_ble_eq_true rfl⟩)) (fun r2 hq => ?_)
    subst hq
    refine lv_i2l hx hb dX1_letMinutePass_52 rfl ?_
    refine xlc_lt (tgt := 67) hx hb dX1_letMinutePass_53 dX1_letMinutePass_54 (by decide) (fun c2 => ?_) (fun c2 => ?_)
    · skip
      have hF : f_X1_letMinutePass a0 a1 vT vG vM vO vN vD vA sf = (f_X1_changeTemperature a0 a1 vT vO vD sf, f_X1_loseGas (vG + a0.toInt64) vO vD sf, (f_X1_moveVent (f_X1_concentration (f_X1_loseGas (vG + a0.toInt64) vO vD sf) sf) vM vO vN sf).1, (f_X1_moveVent (f_X1_concentration (f_X1_loseGas (vG + a0.toInt64) vO vD sf) sf) vM vO vN sf).2, vA) := by
        rw [f_X1_letMinutePass, if_pos c1, if_pos c2]
      obtain rfl : (f_X1_changeTemperature a0 a1 vT vO vD sf, f_X1_loseGas (vG + a0.toInt64) vO vD sf, (f_X1_moveVent (f_X1_concentration (f_X1_loseGas (vG + a0.toInt64) vO vD sf) sf) vM vO vN sf).1, (f_X1_moveVent (f_X1_concentration (f_X1_loseGas (vG + a0.toInt64) vO vD sf) sf) vM vO vN sf).2, vA) = o := hF.symm.trans ho
      exact W.vret hx hb hrt (fun t ht hM => ⟨⟨(), rfl, trivial, ⟨by rw [ht]; exact hW.1, hW.2.1⟩⟩, hW.2.2.F ht⟩) hW.2.2.2.2 dX1_letMinutePass_67 hlocks
    · skip
      refine lv_aload_n hx hb dX1_letMinutePass_57 rfl (lv_at hl 1 rfl) ?_
      refine lv_dup hx hb dX1_letMinutePass_58 rfl ?_
      refine xget (ci := 1) (C := RX1) (T := TX1) (N := 7) hx hb hts hin1 hown hK hW.1 0 rfl rfl 6 (by decide) w4 rfl dX1_letMinutePass_59 ?_
      refine lv_iconst (v := 1) hx hb dX1_letMinutePass_62 (by decide) ?_
      refine lv_iadd hx hb dX1_letMinutePass_63 ?_
      refine xput (ci := 1) (v := .int (vA + 1)) (ty := .int) (C := RX1) (T := TX1) (N := 7) hx hb hts hin1 tyX1 tyX1_ok nmX1 hown hK hW 0 rfl (Nat.le_of_ble_eq_true rfl) rfl 6 (by decide) w4 rfl (by decide +kernel) rfl rfl (Nat.le_of_ble_eq_true rfl) dX1_letMinutePass_64 (fun H locs hW => ?_)
      have hW : xW D A s.heap ([(aH, .inr (1, [.int (f_X1_changeTemperature a0 a1 vT vO vD sf), .long (f_X1_loseGas (vG + a0.toInt64) vO vD sf), .int vM, .int (bi (f_X1_moveVent (f_X1_concentration (f_X1_loseGas (vG + a0.toInt64) vO vD sf) sf) vM vO vN sf).1), .int (f_X1_moveVent (f_X1_concentration (f_X1_loseGas (vG + a0.toInt64) vO vD sf) sf) vM vO vN sf).2, .int (bi vD), .int (vA + 1)])), (aS, .inr (6, [.ref aSv])), (aSv, .inl (cI, 11, .inl sf))] ++ []) H _ := hW
      have hF : f_X1_letMinutePass a0 a1 vT vG vM vO vN vD vA sf = (f_X1_changeTemperature a0 a1 vT vO vD sf, f_X1_loseGas (vG + a0.toInt64) vO vD sf, (f_X1_moveVent (f_X1_concentration (f_X1_loseGas (vG + a0.toInt64) vO vD sf) sf) vM vO vN sf).1, (f_X1_moveVent (f_X1_concentration (f_X1_loseGas (vG + a0.toInt64) vO vD sf) sf) vM vO vN sf).2, vA + 1) := by
        rw [f_X1_letMinutePass, if_pos c1, if_neg c2]
      obtain rfl : (f_X1_changeTemperature a0 a1 vT vO vD sf, f_X1_loseGas (vG + a0.toInt64) vO vD sf, (f_X1_moveVent (f_X1_concentration (f_X1_loseGas (vG + a0.toInt64) vO vD sf) sf) vM vO vN sf).1, (f_X1_moveVent (f_X1_concentration (f_X1_loseGas (vG + a0.toInt64) vO vD sf) sf) vM vO vN sf).2, vA + 1) = o := hF.symm.trans ho
      exact W.vret hx hb hrt (fun t ht hM => ⟨⟨(), rfl, trivial, ⟨by rw [ht]; exact hW.1, hW.2.1⟩⟩, hW.2.2.F ht⟩) hW.2.2.2.2 dX1_letMinutePass_67 hlocks
