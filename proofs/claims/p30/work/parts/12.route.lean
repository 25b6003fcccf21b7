def f_X4_becomeLike (rd : Nat → Int32) (ro : Nat → Int32) (rcb : Int32) (rlb : Int32) (rmb : Int32) (rdb : Nat → Int32) (rob : Nat → Int32) : Int32 × Int32 × Int32 × (Nat → Int32) × (Nat → Int32) :=
  (rcb, rlb, rmb, va_cpy rdb rd 0 0 12, va_cpy rob ro 0 0 12)
set_option maxHeartbeats 4000000 in
set_option maxRecDepth 100000 in
theorem c_X4_becomeLike (l : Launch) (D : va_G) (cI cJ cZ cB : ClassId) (sz : Nat) (aR : Nat) (aRd : Nat) (aRo : Nat) (aRb : Nat) (aRdb : Nat) (aRob : Nat) (rc : Int32) (rl : Int32) (rm : Int32) (rd : Nat → Int32) (ro : Nat → Int32) (rcb : Int32) (rlb : Int32) (rmb : Int32) (rdb : Nat → Int32) (rob : Nat → Int32) (o : Int32 × Int32 × Int32 × (Nat → Int32) × (Nat → Int32)) (ho : f_X4_becomeLike rd ro rcb rlb rmb rdb rob = o) : Met l yX4_becomeLike wsX4_becomeLike ({ frames := 1, cells := 0, slots := 0, locals := 60 } : Room) (xPre D (xT cI cJ cZ cB) [.ref aR, .ref aRb] [(aR, .inr (4, [.ref aRd, .ref aRo, .int rc, .int rl, .int rm])), (aRd, .inl (cI, 12, .inl rd)), (aRo, .inl (cI, 12, .inl ro)), (aRb, .inr (4, [.ref aRdb, .ref aRob, .int rcb, .int rlb, .int rmb])), (aRdb, .inl (cI, 12, .inl rdb)), (aRob, .inl (cI, 12, .inl rob))] sz) (va_Qv (fun _ : Unit => True) (fun _ t => xB D ([(aR, .inr (4, [.ref aRd, .ref aRo, .int o.1, .int o.2.1, .int o.2.2.1])), (aRd, .inl (cI, 12, .inl o.2.2.2.1)), (aRo, .inl (cI, 12, .inl o.2.2.2.2)), (aRb, .inr (4, [.ref aRdb, .ref aRob, .int rcb, .int rlb, .int rmb])), (aRdb, .inl (cI, 12, .inl rdb)), (aRob, .inl (cI, 12, .inl rob))]) (va_A [(aR, .inr (4, [.ref aRd, .ref aRo, .int rc, .int rl, .int rm])), (aRd, .inl (cI, 12, .inl rd)), (aRo, .inl (cI, 12, .inl ro)), (aRb, .inr (4, [.ref aRdb, .ref aRob, .int rcb, .int rlb, .int rmb])), (aRdb, .inl (cI, 12, .inl rdb)), (aRob, .inl (cI, 12, .inl rob))] sz) t) (va_A [(aR, .inr (4, [.ref aRd, .ref aRo, .int rc, .int rl, .int rm])), (aRd, .inl (cI, 12, .inl rd)), (aRo, .inl (cI, 12, .inl ro)), (aRb, .inr (4, [.ref aRdb, .ref aRob, .int rcb, .int rlb, .int rmb])), (aRdb, .inl (cI, 12, .inl rdb)), (aRob, .inl (cI, 12, .inl rob))] sz)) 0 0 (va_A [(aR, .inr (4, [.ref aRd, .ref aRo, .int rc, .int rl, .int rm])), (aRd, .inl (cI, 12, .inl rd)), (aRo, .inl (cI, 12, .inl ro)), (aRb, .inr (4, [.ref aRdb, .ref aRob, .int rcb, .int rlb, .int rmb])), (aRdb, .inl (cI, 12, .inl rdb)), (aRob, .inl (cI, 12, .inl rob))] sz) := by
  refine xofW (Qc := fun A0 => va_Qv (fun _ : Unit => True) (fun _ t => xB D ([(aR, .inr (4, [.ref aRd, .ref aRo, .int o.1, .int o.2.1, .int o.2.2.1])), (aRd, .inl (cI, 12, .inl o.2.2.2.1)), (aRo, .inl (cI, 12, .inl o.2.2.2.2)), (aRb, .inr (4, [.ref aRdb, .ref aRob, .int rcb, .int rlb, .int rmb])), (aRdb, .inl (cI, 12, .inl rdb)), (aRob, .inl (cI, 12, .inl rob))]) A0 t) A0) (fr := fun A => A) (cc := cX4_becomeLike) (maxL := 2) (ret := none) (by decide) rfl (Nat.le_of_ble_eq_true rfl) ?_
  intro p e s m below meth c A ⟨hx, hb, hml, hown, hts⟩ hrt hlocks hnm hsz hK hW hA hG ls hl
  have hown : s.vm.findClass RX4 = some m.cls := hown
  have hl : lv_has ls 2 [(0, .ref aR), (1, .ref aRb)] := hl
  obtain ⟨H, hH⟩ : ∃ H, H = s.heap := ⟨_, rfl⟩
  have hW : xW D A s.heap ([(aR, .inr (4, [.ref aRd, .ref aRo, .int rc, .int rl, .int rm])), (aRd, .inl (cI, 12, .inl rd)), (aRo, .inl (cI, 12, .inl ro)), (aRb, .inr (4, [.ref aRdb, .ref aRob, .int rcb, .int rlb, .int rmb])), (aRdb, .inl (cI, 12, .inl rdb)), (aRob, .inl (cI, 12, .inl rob))] ++ []) H [] := by rw [hH]; exact hW
  have w1 := hts (.fieldLink RX4 9 "DryIceLane$Route" "durations" "[I") (by decide +kernel)
  have hin4 : ∀ w ∈ u_ws RX4 TX4 5, w ∈ wsX4_becomeLike := by decide +kernel
  have w3 := hts (.methodLink RX4 22 arraycopyName) (by decide +kernel)
  have w4 := hts (.native arraycopyName) (by decide +kernel)
  have w5 := hts (.static arraycopyName) (by decide +kernel)
  have w6 := hts (.initialized "java/lang/System") (by decide +kernel)
  have w7 := hts (.fieldLink RX4 15 "DryIceLane$Route" "outsides" "[I") (by decide +kernel)
  have w8 := hts (.fieldLink RX4 28 "DryIceLane$Route" "count" "I") (by decide +kernel)
  have w9 := hts (.fieldLink RX4 18 "DryIceLane$Route" "latest" "I") (by decide +kernel)
  have w10 := hts (.fieldLink RX4 31 "DryIceLane$Route" "minutesLeft" "I") (by decide +kernel)
  rw [← hH]
  refine lv_aload_n hx hb dX4_becomeLike_0 rfl (lv_at hl 1 rfl) ?_
  refine xget (ci := 4) (C := RX4) (T := TX4) (N := 5) hx hb hts hin4 hown hK hW.1 3 rfl rfl 0 (by decide) w1 rfl dX4_becomeLike_1 ?_
  refine lv_iconst (v := 0) hx hb dX4_becomeLike_4 (by decide) ?_
  refine lv_aload_n hx hb dX4_becomeLike_5 rfl (lv_at hl 0 rfl) ?_
  refine xget (ci := 4) (C := RX4) (T := TX4) (N := 5) hx hb hts hin4 hown hK hW.1 0 rfl rfl 0 (by decide) w1 rfl dX4_becomeLike_6 ?_
  refine lv_iconst (v := 0) hx hb dX4_becomeLike_9 (by decide) ?_
  refine lv_bipush (v := 12) hx hb dX4_becomeLike_10 (by decide) ?_
  refine xcopy hx hb (by rw [hml]; exact hl.1.symm) hown w3 w4 w5 w6 hK hW 4 1 0 0 rfl rfl (Nat.le_of_ble_eq_true rfl) rfl rfl (sp := 0) (dp := 0) (n := 12) (by decide) (by decide) (by decide) (by decide) (by decide) (Nat.le_of_ble_eq_true rfl) (Nat.le_of_ble_eq_true rfl) dX4_becomeLike_12 (fun H locs hW => ?_)
  have hW : xW D A s.heap ([(aR, .inr (4, [.ref aRd, .ref aRo, .int rc, .int rl, .int rm])), (aRd, .inl (cI, 12, .inl (va_cpy rdb rd 0 0 12))), (aRo, .inl (cI, 12, .inl ro)), (aRb, .inr (4, [.ref aRdb, .ref aRob, .int rcb, .int rlb, .int rmb])), (aRdb, .inl (cI, 12, .inl rdb)), (aRob, .inl (cI, 12, .inl rob))] ++ []) H _ := hW
  refine lv_aload_n hx hb dX4_becomeLike_15 rfl (lv_at hl 1 rfl) ?_
  refine xget (ci := 4) (C := RX4) (T := TX4) (N := 5) hx hb hts hin4 hown hK hW.1 3 rfl rfl 1 (by decide) w7 rfl dX4_becomeLike_16 ?_
  refine lv_iconst (v := 0) hx hb dX4_becomeLike_19 (by decide) ?_
  refine lv_aload_n hx hb dX4_becomeLike_20 rfl (lv_at hl 0 rfl) ?_
  refine xget (ci := 4) (C := RX4) (T := TX4) (N := 5) hx hb hts hin4 hown hK hW.1 0 rfl rfl 1 (by decide) w7 rfl dX4_becomeLike_21 ?_
  refine lv_iconst (v := 0) hx hb dX4_becomeLike_24 (by decide) ?_
  refine lv_bipush (v := 12) hx hb dX4_becomeLike_25 (by decide) ?_
  refine xcopy hx hb (by rw [hml]; exact hl.1.symm) hown w3 w4 w5 w6 hK hW 5 2 0 0 rfl rfl (Nat.le_of_ble_eq_true rfl) rfl rfl (sp := 0) (dp := 0) (n := 12) (by decide) (by decide) (by decide) (by decide) (by decide) (Nat.le_of_ble_eq_true rfl) (Nat.le_of_ble_eq_true rfl) dX4_becomeLike_27 (fun H locs hW => ?_)
  have hW : xW D A s.heap ([(aR, .inr (4, [.ref aRd, .ref aRo, .int rc, .int rl, .int rm])), (aRd, .inl (cI, 12, .inl (va_cpy rdb rd 0 0 12))), (aRo, .inl (cI, 12, .inl (va_cpy rob ro 0 0 12))), (aRb, .inr (4, [.ref aRdb, .ref aRob, .int rcb, .int rlb, .int rmb])), (aRdb, .inl (cI, 12, .inl rdb)), (aRob, .inl (cI, 12, .inl rob))] ++ []) H _ := hW
  refine lv_aload_n hx hb dX4_becomeLike_30 rfl (lv_at hl 0 rfl) ?_
  refine lv_aload_n hx hb dX4_becomeLike_31 rfl (lv_at hl 1 rfl) ?_
  refine xget (ci := 4) (C := RX4) (T := TX4) (N := 5) hx hb hts hin4 hown hK hW.1 3 rfl rfl 2 (by decide) w8 rfl dX4_becomeLike_32 ?_
  refine xput (ci := 4) (v := .int rcb) (ty := .int) (C := RX4) (T := TX4) (N := 5) hx hb hts hin4 tyX4 tyX4_ok nmX4 hown hK hW 0 rfl (Nat.le_of_ble_eq_true rfl) rfl 2 (by decide) w8 rfl (by decide +kernel) rfl rfl (Nat.le_of_ble_eq_true rfl) dX4_becomeLike_35 (fun H locs hW => ?_)
  have hW : xW D A s.heap ([(aR, .inr (4, [.ref aRd, .ref aRo, .int rcb, .int rl, .int rm])), (aRd, .inl (cI, 12, .inl (va_cpy rdb rd 0 0 12))), (aRo, .inl (cI, 12, .inl (va_cpy rob ro 0 0 12))), (aRb, .inr (4, [.ref aRdb, .ref aRob, .int rcb, .int rlb, .int rmb])), (aRdb, .inl (cI, 12, .inl rdb)), (aRob, .inl (cI, 12, .inl rob))] ++ []) H _ := hW
  refine lv_aload_n hx hb dX4_becomeLike_38 rfl (lv_at hl 0 rfl) ?_
  refine lv_aload_n hx hb dX4_becomeLike_39 rfl (lv_at hl 1 rfl) ?_
  refine xget (ci := 4) (C := RX4) (T := TX4) (N := 5) hx hb hts hin4 hown hK hW.1 3 rfl rfl 3 (by decide) w9 rfl dX4_becomeLike_40 ?_
  refine xput (ci := 4) (v := .int rlb) (ty := .int) (C := RX4) (T := TX4) (N := 5) hx hb hts hin4 tyX4 tyX4_ok nmX4 hown hK hW 0 rfl (Nat.le_of_ble_eq_true rfl) rfl 3 (by decide) w9 rfl (by decide +kernel) rfl rfl (Nat.le_of_ble_eq_true rfl) dX4_becomeLike_43 (fun H locs hW => ?_)
  have hW : xW D A s.heap ([(aR, .inr (4, [.ref aRd, .ref aRo, .int rcb, .int rlb, .int rm])), (aRd, .inl (cI, 12, .inl (va_cpy rdb rd 0 0 12))), (aRo, .inl (cI, 12, .inl (va_cpy rob ro 0 0 12))), (aRb, .inr (4, [.ref aRdb, .ref aRob, .int rcb, .int rlb, .int rmb])), (aRdb, .inl (cI, 12, .inl rdb)), (aRob, .inl (cI, 12, .inl rob))] ++ []) H _ := hW
  refine lv_aload_n hx hb dX4_becomeLike_46 rfl (lv_at hl 0 rfl) ?_
  refine lv_aload_n hx hb dX4_becomeLike_47 rfl (lv_at hl 1 rfl) ?_
  refine xget (ci := 4) (C := RX4) (T := TX4) (N := 5) hx hb hts hin4 hown hK hW.1 3 rfl rfl 4 (by decide) w10 rfl dX4_becomeLike_48 ?_
  refine xput (ci := 4) (v := .int rmb) (ty := .int) (C := RX4) (T := TX4) (N := 5) hx hb hts hin4 tyX4 tyX4_ok nmX4 hown hK hW 0 rfl (Nat.le_of_ble_eq_true rfl) rfl 4 (by decide) w10 rfl (by decide +kernel) rfl rfl (Nat.le_of_ble_eq_true rfl) dX4_becomeLike_51 (fun H locs hW => ?_)
  have hW : xW D A s.heap ([(aR, .inr (4, [.ref aRd, .ref aRo, .int rcb, .int rlb, .int rmb])), (aRd, .inl (cI, 12, .inl (va_cpy rdb rd 0 0 12))), (aRo, .inl (cI, 12, .inl (va_cpy rob ro 0 0 12))), (aRb, .inr (4, [.ref aRdb, .ref aRob, .int rcb, .int rlb, .int rmb])), (aRdb, .inl (cI, 12, .inl rdb)), (aRob, .inl (cI, 12, .inl rob))] ++ []) H _ := hW
  have hF : f_X4_becomeLike rd ro rcb rlb rmb rdb rob = (rcb, rlb, rmb, va_cpy rdb rd 0 0 12, va_cpy rob ro 0 0 12) := by
    rw [f_X4_becomeLike]
  obtain rfl : (rcb, rlb, rmb, va_cpy rdb rd 0 0 12, va_cpy rob ro 0 0 12) = o := hF.symm.trans ho
  exact W.vret hx hb hrt (fun t ht hM => ⟨⟨(), rfl, trivial, ⟨by rw [ht]; exact hW.1, hW.2.1⟩⟩, hW.2.2.F ht⟩) hW.2.2.2.2 dX4_becomeLike_54 hlocks

def f_X4_hasLeg (a0 : Int32) (rc : Int32) : Bool :=
  f_X9_within a0 0 (rc - 1)
set_option maxHeartbeats 4000000 in
set_option maxRecDepth 100000 in
theorem c_X4_hasLeg (l : Launch) (D : va_G) (cI cJ cZ cB : ClassId) (sz : Nat) (aR : Nat) (a0 : Int32) (aRd : Nat) (aRo : Nat) (rc : Int32) (rl : Int32) (rm : Int32) (o : Bool) (ho : f_X4_hasLeg a0 rc = o) : Met l yX4_hasLeg wsX4_hasLeg ({ frames := 1, cells := 0, slots := 0, locals := 22 } : Room) (xPre D (xT cI cJ cZ cB) [.ref aR, .int a0] [(aR, .inr (4, [.ref aRd, .ref aRo, .int rc, .int rl, .int rm]))] sz) (vp_Si (fun r => r = bi o)) 0 0 (fun _ => False) := by
  refine xofW (Qc := fun _ => vp_Si (fun r => r = bi o)) (fr := fun _ _ => False) (cc := cX4_hasLeg) (maxL := 2) (ret := (some .boolean)) (by decide) rfl (Nat.le_of_ble_eq_true rfl) ?_
  intro p e s m below meth c A ⟨hx, hb, hml, hown, hts⟩ hrt hlocks hnm hsz hK hW hA hG ls hl
  have hown : s.vm.findClass RX4 = some m.cls := hown
  have hl : lv_has ls 2 [(0, .ref aR), (1, .int a0)] := hl
  obtain ⟨H, hH⟩ : ∃ H, H = s.heap := ⟨_, rfl⟩
  have hW : xW D A s.heap ([(aR, .inr (4, [.ref aRd, .ref aRo, .int rc, .int rl, .int rm]))] ++ []) H [] := by rw [hH]; exact hW
  have w1 := hts (.fieldLink RX4 28 "DryIceLane$Route" "count" "I") (by decide +kernel)
  have hin4 : ∀ w ∈ u_ws RX4 TX4 5, w ∈ wsX4_hasLeg := by decide +kernel
  have w3 := hts (.initialized RX9) (by decide +kernel)
  have w4 := hts (.static yX9_within) (by decide +kernel)
  rw [← hH]
  refine lv_iload_n hx hb dX4_hasLeg_0 rfl (lv_at hl 1 rfl) ?_
  refine lv_iconst (v := 0) hx hb dX4_hasLeg_1 (by decide) ?_
  refine lv_aload_n hx hb dX4_hasLeg_2 rfl (lv_at hl 0 rfl) ?_
  refine xget (ci := 4) (C := RX4) (T := TX4) (N := 5) hx hb hts hin4 hown hK hW.1 0 rfl rfl 2 (by decide) w1 rfl dX4_hasLeg_3 ?_
  refine lv_iconst (v := 1) hx hb dX4_hasLeg_6 (by decide) ?_
  refine lv_isub hx hb dX4_hasLeg_7 ?_
  refine vp_callSi (va_Run.run (xrunSN (As := [.int a0, .int 0, .int (rc - 1)]) (rest := []) ⟨hx, hb, hml, hown, hts⟩ (c_X9_within l D cI cJ cZ cB H.size a0 0 (rc - 1) _ rfl) ⟨va_cnB (host := "DryIceLane") 3 hts gX4_hasLeg_X9_within_n34 rfl rfl rfl (hG.1.1 (.methodLinkNest RX4 34 yX9_within "DryIceLane") (by decide +kernel)) w3 (by decide +kernel) ⟨Nat.le_of_ble_eq_true rfl, Nat.le_of_ble_eq_true rfl⟩, w4, trivial⟩ hK hG hW.2.2 (xsubQ hW hA [] rfl (by decide)) rfl hl.1 rfl (Nat.le_of_ble_eq_true rfl) dX4_hasLeg_8 ⟨Nat.le_of_ble_eq_true rfl, Nat.le_of_ble_eq_true rfl⟩)) (fun r1 hq => ?_)
  subst hq
  have hF : f_X4_hasLeg a0 rc = f_X9_within a0 0 (rc - 1) := by
    rw [f_X4_hasLeg]
  obtain rfl : f_X9_within a0 0 (rc - 1) = o := hF.symm.trans ho
  exact W.zret (v := bi (f_X9_within a0 0 (rc - 1))) hx hb hrt (bi_nar _) (fun t ht hM => ⟨_, rfl, rfl, ht.trans hH⟩) (fun q h => by cases h) dX4_hasLeg_11 hlocks

theorem hl_in {x n : Int32} {N : Nat} (h : f_X4_hasLeg x n = true) (hc : okC n N) : vp_in x N := w_in h hc

def f_X4_hasNextLeg (rc : Int32) (rl : Int32) : Bool :=
  f_X4_hasLeg (rl + 1) rc
set_option maxHeartbeats 4000000 in
set_option maxRecDepth 100000 in
theorem c_X4_hasNextLeg (l : Launch) (D : va_G) (cI cJ cZ cB : ClassId) (sz : Nat) (aR : Nat) (aRd : Nat) (aRo : Nat) (rc : Int32) (rl : Int32) (rm : Int32) (o : Bool) (ho : f_X4_hasNextLeg rc rl = o) : Met l yX4_hasNextLeg wsX4_hasNextLeg ({ frames := 2, cells := 0, slots := 0, locals := 43 } : Room) (xPre D (xT cI cJ cZ cB) [.ref aR] [(aR, .inr (4, [.ref aRd, .ref aRo, .int rc, .int rl, .int rm]))] sz) (vp_Si (fun r => r = bi o)) 0 0 (fun _ => False) := by
  refine xofW (Qc := fun _ => vp_Si (fun r => r = bi o)) (fr := fun _ _ => False) (cc := cX4_hasNextLeg) (maxL := 1) (ret := (some .boolean)) (by decide) rfl (Nat.le_of_ble_eq_true rfl) ?_
  intro p e s m below meth c A ⟨hx, hb, hml, hown, hts⟩ hrt hlocks hnm hsz hK hW hA hG ls hl
  have hown : s.vm.findClass RX4 = some m.cls := hown
  have hl : lv_has ls 1 [(0, .ref aR)] := hl
  obtain ⟨H, hH⟩ : ∃ H, H = s.heap := ⟨_, rfl⟩
  have hW : xW D A s.heap ([(aR, .inr (4, [.ref aRd, .ref aRo, .int rc, .int rl, .int rm]))] ++ []) H [] := by rw [hH]; exact hW
  have w1 := hts (.fieldLink RX4 18 "DryIceLane$Route" "latest" "I") (by decide +kernel)
  have hin4 : ∀ w ∈ u_ws RX4 TX4 5, w ∈ wsX4_hasNextLeg := by decide +kernel
  rw [← hH]
  refine lv_aload_n hx hb dX4_hasNextLeg_0 rfl (lv_at hl 0 rfl) ?_
  refine lv_aload_n hx hb dX4_hasNextLeg_1 rfl (lv_at hl 0 rfl) ?_
  refine xget (ci := 4) (C := RX4) (T := TX4) (N := 5) hx hb hts hin4 hown hK hW.1 0 rfl rfl 3 (by decide) w1 rfl dX4_hasNextLeg_2 ?_
  refine lv_iconst (v := 1) hx hb dX4_hasNextLeg_5 (by decide) ?_
  refine lv_iadd hx hb dX4_hasNextLeg_6 ?_
  refine vp_callSi (va_Run.run (xrunV (As := [.int (rl + 1)]) (rest := []) ⟨hx, hb, hml, hown, hts⟩ (c_X4_hasLeg l D cI cJ cZ cB H.size aR (rl + 1) aRd aRo rc rl rm _ rfl) (cwV 1 hts gX4_hasNextLeg_X4_hasLeg rfl rfl rfl (by decide +kernel) ⟨Nat.le_of_ble_eq_true rfl, Nat.le_of_ble_eq_true rfl⟩) hK hG hW.2.2 (xsubQ hW hA [0] rfl (by decide)) (va_recv hK hW.1 (ci := 4) (q0 := 0) rfl rfl) rfl hl.1 rfl (Nat.le_of_ble_eq_true rfl) dX4_hasNextLeg_7 ⟨Nat.le_of_ble_eq_true rfl, Nat.le_of_ble_eq_true rfl⟩)) (fun r1 hq => ?_)
  subst hq
  have hF : f_X4_hasNextLeg rc rl = f_X4_hasLeg (rl + 1) rc := by
    rw [f_X4_hasNextLeg]
  obtain rfl : f_X4_hasLeg (rl + 1) rc = o := hF.symm.trans ho
  exact W.zret (v := bi (f_X4_hasLeg (rl + 1) rc)) hx hb hrt (bi_nar _) (fun t ht hM => ⟨_, rfl, rfl, ht.trans hH⟩) (fun q h => by cases h) dX4_hasNextLeg_10 hlocks

def f_X4_isOnTheWay (rm : Int32) : Bool :=
  if rm ≤ 0 then
    false
  else
    true
set_option maxHeartbeats 4000000 in
set_option maxRecDepth 100000 in
theorem c_X4_isOnTheWay (l : Launch) (D : va_G) (cI cJ cZ cB : ClassId) (sz : Nat) (aR : Nat) (aRd : Nat) (aRo : Nat) (rc : Int32) (rl : Int32) (rm : Int32) (o : Bool) (ho : f_X4_isOnTheWay rm = o) : Met l yX4_isOnTheWay wsX4_isOnTheWay ({ frames := 0, cells := 0, slots := 0, locals := 0 } : Room) (xPre D (xT cI cJ cZ cB) [.ref aR] [(aR, .inr (4, [.ref aRd, .ref aRo, .int rc, .int rl, .int rm]))] sz) (vp_Si (fun r => r = bi o)) 0 0 (fun _ => False) := by
  refine xofW (Qc := fun _ => vp_Si (fun r => r = bi o)) (fr := fun _ _ => False) (cc := cX4_isOnTheWay) (maxL := 1) (ret := (some .boolean)) (by decide) rfl (Nat.le_of_ble_eq_true rfl) ?_
  intro p e s m below meth c A ⟨hx, hb, hml, hown, hts⟩ hrt hlocks hnm hsz hK hW hA hG ls hl
  have hown : s.vm.findClass RX4 = some m.cls := hown
  have hl : lv_has ls 1 [(0, .ref aR)] := hl
  obtain ⟨H, hH⟩ : ∃ H, H = s.heap := ⟨_, rfl⟩
  have hW : xW D A s.heap ([(aR, .inr (4, [.ref aRd, .ref aRo, .int rc, .int rl, .int rm]))] ++ []) H [] := by rw [hH]; exact hW
  have w1 := hts (.fieldLink RX4 31 "DryIceLane$Route" "minutesLeft" "I") (by decide +kernel)
  have hin4 : ∀ w ∈ u_ws RX4 TX4 5, w ∈ wsX4_isOnTheWay := by decide +kernel
  rw [← hH]
  refine lv_aload_n hx hb dX4_isOnTheWay_0 rfl (lv_at hl 0 rfl) ?_
  refine xget (ci := 4) (C := RX4) (T := TX4) (N := 5) hx hb hts hin4 hown hK hW.1 0 rfl rfl 4 (by decide) w1 rfl dX4_isOnTheWay_1 ?_
  refine lv_if_le (tgt := 11) hx hb dX4_isOnTheWay_4 (by decide) (fun c1 => ?_) (fun c1 => ?_)
  · skip
    refine lv_iconst (v := 0) hx hb dX4_isOnTheWay_11 (by decide) ?_
    have hF : f_X4_isOnTheWay rm = false := by
      rw [f_X4_isOnTheWay, if_pos c1]
    obtain rfl : false = o := hF.symm.trans ho
    exact W.zret (v := bi false) hx hb hrt (bi_nar _) (fun t ht hM => ⟨_, rfl, rfl, ht.trans hH⟩) (fun q h => by cases h) dX4_isOnTheWay_12 hlocks
  · skip
    refine lv_iconst (v := 1) hx hb dX4_isOnTheWay_7 (by decide) ?_
    refine lv_goto (tgt := 12) hx hb dX4_isOnTheWay_8 (by decide) ?_
    have hF : f_X4_isOnTheWay rm = true := by
      rw [f_X4_isOnTheWay, if_neg c1]
    obtain rfl : true = o := hF.symm.trans ho
    exact W.zret (v := bi true) hx hb hrt (bi_nar _) (fun t ht hM => ⟨_, rfl, rfl, ht.trans hH⟩) (fun q h => by cases h) dX4_isOnTheWay_12 hlocks

def f_X4_durationOf (a0 : Int32) (rc : Int32) (rd : Nat → Int32) : Int32 :=
  if (f_X4_hasLeg a0 rc) = true then
    rd a0.toNatClampNeg
  else
    0
set_option maxHeartbeats 4000000 in
set_option maxRecDepth 100000 in
theorem c_X4_durationOf (l : Launch) (D : va_G) (cI cJ cZ cB : ClassId) (sz : Nat) (aR : Nat) (aRd : Nat) (a0 : Int32) (aRo : Nat) (rc : Int32) (rl : Int32) (rm : Int32) (rd : Nat → Int32) (hrc : okC rc 12) (o : Int32) (ho : f_X4_durationOf a0 rc rd = o) : Met l yX4_durationOf wsX4_durationOf ({ frames := 2, cells := 0, slots := 0, locals := 43 } : Room) (xPre D (xT cI cJ cZ cB) [.ref aR, .int a0] [(aR, .inr (4, [.ref aRd, .ref aRo, .int rc, .int rl, .int rm])), (aRd, .inl (cI, 12, .inl rd))] sz) (vp_Si (fun r => r = o)) 0 0 (fun _ => False) := by
  refine xofW (Qc := fun _ => vp_Si (fun r => r = o)) (fr := fun _ _ => False) (cc := cX4_durationOf) (maxL := 2) (ret := (some .int)) (by decide) rfl (Nat.le_of_ble_eq_true rfl) ?_
  intro p e s m below meth c A ⟨hx, hb, hml, hown, hts⟩ hrt hlocks hnm hsz hK hW hA hG ls hl
  have hown : s.vm.findClass RX4 = some m.cls := hown
  have hl : lv_has ls 2 [(0, .ref aR), (1, .int a0)] := hl
  obtain ⟨H, hH⟩ : ∃ H, H = s.heap := ⟨_, rfl⟩
  have hW : xW D A s.heap ([(aR, .inr (4, [.ref aRd, .ref aRo, .int rc, .int rl, .int rm])), (aRd, .inl (cI, 12, .inl rd))] ++ []) H [] := by rw [hH]; exact hW
  have w1 := hts (.fieldLink RX4 9 "DryIceLane$Route" "durations" "[I") (by decide +kernel)
  have hin4 : ∀ w ∈ u_ws RX4 TX4 5, w ∈ wsX4_durationOf := by decide +kernel
  rw [← hH]
  refine lv_aload_n hx hb dX4_durationOf_0 rfl (lv_at hl 0 rfl) ?_
  refine lv_iload_n hx hb dX4_durationOf_1 rfl (lv_at hl 1 rfl) ?_
  refine vp_callSi (va_Run.run (xrunV (As := [.int a0]) (rest := []) ⟨hx, hb, hml, hown, hts⟩ (c_X4_hasLeg l D cI cJ cZ cB H.size aR a0 aRd aRo rc rl rm _ rfl) (cwV 1 hts gX4_durationOf_X4_hasLeg rfl rfl rfl (by decide +kernel) ⟨Nat.le_of_ble_eq_true rfl, Nat.le_of_ble_eq_true rfl⟩) hK hG hW.2.2 (xsubQ hW hA [0] rfl (by decide)) (va_recv hK hW.1 (ci := 4) (q0 := 0) rfl rfl) rfl hl.1 rfl (Nat.le_of_ble_eq_true rfl) dX4_durationOf_2 ⟨Nat.le_of_ble_eq_true rfl, Nat.le_of_ble_eq_true rfl⟩)) (fun r1 hq => ?_)
  subst hq
  refine xb_eq (tgt := 17) hx hb dX4_durationOf_5 (by decide) (fun c1 => ?_) (fun c1 => ?_)
  · skip
    refine lv_iconst (v := 0) hx hb dX4_durationOf_17 (by decide) ?_
    have hF : f_X4_durationOf a0 rc rd = 0 := by
      rw [f_X4_durationOf, if_neg c1]
    obtain rfl : 0 = o := hF.symm.trans ho
    exact W.iret (v := 0) hx hb hrt (fun t ht hM => ⟨_, rfl, rfl, ht.trans hH⟩) (fun q h => by cases h) dX4_durationOf_18 hlocks
  · skip
    refine lv_aload_n hx hb dX4_durationOf_8 rfl (lv_at hl 0 rfl) ?_
    refine xget (ci := 4) (C := RX4) (T := TX4) (N := 5) hx hb hts hin4 hown hK hW.1 0 rfl rfl 0 (by decide) w1 rfl dX4_durationOf_9 ?_
    refine lv_iload_n hx hb dX4_durationOf_12 rfl (lv_at hl 1 rfl) ?_
    refine xiald hx hb hK hW.1 1 0 rfl rfl (hl_in c1 hrc) a0.toNatClampNeg rfl (v := rd a0.toNatClampNeg) rfl dX4_durationOf_13 ?_
    refine lv_goto (tgt := 18) hx hb dX4_durationOf_14 (by decide) ?_
    have hF : f_X4_durationOf a0 rc rd = rd a0.toNatClampNeg := by
      rw [f_X4_durationOf, if_pos c1]
    obtain rfl : rd a0.toNatClampNeg = o := hF.symm.trans ho
    exact W.iret (v := rd a0.toNatClampNeg) hx hb hrt (fun t ht hM => ⟨_, rfl, rfl, ht.trans hH⟩) (fun q h => by cases h) dX4_durationOf_18 hlocks

def f_X4_outsideOf (a0 : Int32) (rc : Int32) (ro : Nat → Int32) : Int32 :=
  if (f_X4_hasLeg a0 rc) = true then
    ro a0.toNatClampNeg
  else
    0
set_option maxHeartbeats 4000000 in
set_option maxRecDepth 100000 in
theorem c_X4_outsideOf (l : Launch) (D : va_G) (cI cJ cZ cB : ClassId) (sz : Nat) (aR : Nat) (aRo : Nat) (a0 : Int32) (aRd : Nat) (rc : Int32) (rl : Int32) (rm : Int32) (ro : Nat → Int32) (hrc : okC rc 12) (o : Int32) (ho : f_X4_outsideOf a0 rc ro = o) : Met l yX4_outsideOf wsX4_outsideOf ({ frames := 2, cells := 0, slots := 0, locals := 43 } : Room) (xPre D (xT cI cJ cZ cB) [.ref aR, .int a0] [(aR, .inr (4, [.ref aRd, .ref aRo, .int rc, .int rl, .int rm])), (aRo, .inl (cI, 12, .inl ro))] sz) (vp_Si (fun r => r = o)) 0 0 (fun _ => False) := by
  refine xofW (Qc := fun _ => vp_Si (fun r => r = o)) (fr := fun _ _ => False) (cc := cX4_outsideOf) (maxL := 2) (ret := (some .int)) (by decide) rfl (Nat.le_of_ble_eq_true rfl) ?_
  intro p e s m below meth c A ⟨hx, hb, hml, hown, hts⟩ hrt hlocks hnm hsz hK hW hA hG ls hl
  have hown : s.vm.findClass RX4 = some m.cls := hown
  have hl : lv_has ls 2 [(0, .ref aR), (1, .int a0)] := hl
  obtain ⟨H, hH⟩ : ∃ H, H = s.heap := ⟨_, rfl⟩
  have hW : xW D A s.heap ([(aR, .inr (4, [.ref aRd, .ref aRo, .int rc, .int rl, .int rm])), (aRo, .inl (cI, 12, .inl ro))] ++ []) H [] := by rw [hH]; exact hW
  have w1 := hts (.fieldLink RX4 15 "DryIceLane$Route" "outsides" "[I") (by decide +kernel)
  have hin4 : ∀ w ∈ u_ws RX4 TX4 5, w ∈ wsX4_outsideOf := by decide +kernel
  rw [← hH]
  refine lv_aload_n hx hb dX4_outsideOf_0 rfl (lv_at hl 0 rfl) ?_
  refine lv_iload_n hx hb dX4_outsideOf_1 rfl (lv_at hl 1 rfl) ?_
  refine vp_callSi (va_Run.run (xrunV (As := [.int a0]) (rest := []) ⟨hx, hb, hml, hown, hts⟩ (c_X4_hasLeg l D cI cJ cZ cB H.size aR a0 aRd aRo rc rl rm _ rfl) (cwV 1 hts gX4_outsideOf_X4_hasLeg rfl rfl rfl (by decide +kernel) ⟨Nat.le_of_ble_eq_true rfl, Nat.le_of_ble_eq_true rfl⟩) hK hG hW.2.2 (xsubQ hW hA [0] rfl (by decide)) (va_recv hK hW.1 (ci := 4) (q0 := 0) rfl rfl) rfl hl.1 rfl (Nat.le_of_ble_eq_true rfl) dX4_outsideOf_2 ⟨Nat.le_of_ble_eq_true rfl, Nat.le_of_ble_eq_true rfl⟩)) (fun r1 hq => ?_)
  subst hq
  refine xb_eq (tgt := 17) hx hb dX4_outsideOf_5 (by decide) (fun c1 => ?_) (fun c1 => ?_)
  · skip
    refine lv_iconst (v := 0) hx hb dX4_outsideOf_17 (by decide) ?_
    have hF : f_X4_outsideOf a0 rc ro = 0 := by
      rw [f_X4_outsideOf, if_neg c1]
    obtain rfl : 0 = o := hF.symm.trans ho
    exact W.iret (v := 0) hx hb hrt (fun t ht hM => ⟨_, rfl, rfl, ht.trans hH⟩) (fun q h => by cases h) dX4_outsideOf_18 hlocks
  · skip
    refine lv_aload_n hx hb dX4_outsideOf_8 rfl (lv_at hl 0 rfl) ?_
    refine xget (ci := 4) (C := RX4) (T := TX4) (N := 5) hx hb hts hin4 hown hK hW.1 0 rfl rfl 1 (by decide) w1 rfl dX4_outsideOf_9 ?_
    refine lv_iload_n hx hb dX4_outsideOf_12 rfl (lv_at hl 1 rfl) ?_
    refine xiald hx hb hK hW.1 1 0 rfl rfl (hl_in c1 hrc) a0.toNatClampNeg rfl (v := ro a0.toNatClampNeg) rfl dX4_outsideOf_13 ?_
    refine lv_goto (tgt := 18) hx hb dX4_outsideOf_14 (by decide) ?_
    have hF : f_X4_outsideOf a0 rc ro = ro a0.toNatClampNeg := by
      rw [f_X4_outsideOf, if_pos c1]
    obtain rfl : ro a0.toNatClampNeg = o := hF.symm.trans ho
    exact W.iret (v := ro a0.toNatClampNeg) hx hb hrt (fun t ht hM => ⟨_, rfl, rfl, ht.trans hH⟩) (fun q h => by cases h) dX4_outsideOf_18 hlocks

def f_X4_outsideNow (rc : Int32) (rl : Int32) (ro : Nat → Int32) : Int32 :=
  if (f_X4_hasLeg rl rc) = true then
    ro rl.toNatClampNeg
  else
    2000
set_option maxHeartbeats 4000000 in
set_option maxRecDepth 100000 in
theorem c_X4_outsideNow (l : Launch) (D : va_G) (cI cJ cZ cB : ClassId) (sz : Nat) (aR : Nat) (aRo : Nat) (aRd : Nat) (rc : Int32) (rl : Int32) (rm : Int32) (ro : Nat → Int32) (hrc : okC rc 12) (o : Int32) (ho : f_X4_outsideNow rc rl ro = o) : Met l yX4_outsideNow wsX4_outsideNow ({ frames := 2, cells := 0, slots := 0, locals := 43 } : Room) (xPre D (xT cI cJ cZ cB) [.ref aR] [(aR, .inr (4, [.ref aRd, .ref aRo, .int rc, .int rl, .int rm])), (aRo, .inl (cI, 12, .inl ro))] sz) (vp_Si (fun r => r = o)) 0 0 (fun _ => False) := by
  refine xofW (Qc := fun _ => vp_Si (fun r => r = o)) (fr := fun _ _ => False) (cc := cX4_outsideNow) (maxL := 1) (ret := (some .int)) (by decide) rfl (Nat.le_of_ble_eq_true rfl) ?_
  intro p e s m below meth c A ⟨hx, hb, hml, hown, hts⟩ hrt hlocks hnm hsz hK hW hA hG ls hl
  have hown : s.vm.findClass RX4 = some m.cls := hown
  have hl : lv_has ls 1 [(0, .ref aR)] := hl
  obtain ⟨H, hH⟩ : ∃ H, H = s.heap := ⟨_, rfl⟩
  have hW : xW D A s.heap ([(aR, .inr (4, [.ref aRd, .ref aRo, .int rc, .int rl, .int rm])), (aRo, .inl (cI, 12, .inl ro))] ++ []) H [] := by rw [hH]; exact hW
  have w1 := hts (.fieldLink RX4 18 "DryIceLane$Route" "latest" "I") (by decide +kernel)
  have hin4 : ∀ w ∈ u_ws RX4 TX4 5, w ∈ wsX4_outsideNow := by decide +kernel
  have w3 := hts (.fieldLink RX4 15 "DryIceLane$Route" "outsides" "[I") (by decide +kernel)
  rw [← hH]
  refine lv_aload_n hx hb dX4_outsideNow_0 rfl (lv_at hl 0 rfl) ?_
  refine lv_aload_n hx hb dX4_outsideNow_1 rfl (lv_at hl 0 rfl) ?_
  refine xget (ci := 4) (C := RX4) (T := TX4) (N := 5) hx hb hts hin4 hown hK hW.1 0 rfl rfl 3 (by decide) w1 rfl dX4_outsideNow_2 ?_
  refine vp_callSi (va_Run.run (xrunV (As := [.int rl]) (rest := []) ⟨hx, hb, hml, hown, hts⟩ (c_X4_hasLeg l D cI cJ cZ cB H.size aR rl aRd aRo rc rl rm _ rfl) (cwV 1 hts gX4_outsideNow_X4_hasLeg rfl rfl rfl (by decide +kernel) ⟨Nat.le_of_ble_eq_true rfl, Nat.le_of_ble_eq_true rfl⟩) hK hG hW.2.2 (xsubQ hW hA [0] rfl (by decide)) (va_recv hK hW.1 (ci := 4) (q0 := 0) rfl rfl) rfl hl.1 rfl (Nat.le_of_ble_eq_true rfl) dX4_outsideNow_5 ⟨Nat.le_of_ble_eq_true rfl, Nat.le_of_ble_eq_true rfl⟩)) (fun r1 hq => ?_)
  subst hq
  refine xb_eq (tgt := 23) hx hb dX4_outsideNow_8 (by decide) (fun c1 => ?_) (fun c1 => ?_)
  · skip
    refine lv_sipush (v := 2000) hx hb dX4_outsideNow_23 (by decide) ?_
    have hF : f_X4_outsideNow rc rl ro = 2000 := by
      rw [f_X4_outsideNow, if_neg c1]
    obtain rfl : 2000 = o := hF.symm.trans ho
    exact W.iret (v := 2000) hx hb hrt (fun t ht hM => ⟨_, rfl, rfl, ht.trans hH⟩) (fun q h => by cases h) dX4_outsideNow_26 hlocks
  · skip
    refine lv_aload_n hx hb dX4_outsideNow_11 rfl (lv_at hl 0 rfl) ?_
    refine xget (ci := 4) (C := RX4) (T := TX4) (N := 5) hx hb hts hin4 hown hK hW.1 0 rfl rfl 1 (by decide) w3 rfl dX4_outsideNow_12 ?_
    refine lv_aload_n hx hb dX4_outsideNow_15 rfl (lv_at hl 0 rfl) ?_
    refine xget (ci := 4) (C := RX4) (T := TX4) (N := 5) hx hb hts hin4 hown hK hW.1 0 rfl rfl 3 (by decide) w1 rfl dX4_outsideNow_16 ?_
    refine xiald hx hb hK hW.1 1 0 rfl rfl (hl_in c1 hrc) rl.toNatClampNeg rfl (v := ro rl.toNatClampNeg) rfl dX4_outsideNow_19 ?_
    refine lv_goto (tgt := 26) hx hb dX4_outsideNow_20 (by decide) ?_
    have hF : f_X4_outsideNow rc rl ro = ro rl.toNatClampNeg := by
      rw [f_X4_outsideNow, if_pos c1]
    obtain rfl : ro rl.toNatClampNeg = o := hF.symm.trans ho
    exact W.iret (v := ro rl.toNatClampNeg) hx hb hrt (fun t ht hM => ⟨_, rfl, rfl, ht.trans hH⟩) (fun q h => by cases h) dX4_outsideNow_26 hlocks

def f_X4_append (a0 : Int32) (a1 : Int32) (rc : Int32) (rd : Nat → Int32) (ro : Nat → Int32) : Int32 × (Nat → Int32) × (Nat → Int32) :=
  if rc < 12 then
    (rc + 1, upd rd rc.toNatClampNeg a0, upd ro rc.toNatClampNeg a1)
  else
    (rc, rd, ro)
set_option maxHeartbeats 4000000 in
set_option maxRecDepth 100000 in
theorem c_X4_append (l : Launch) (D : va_G) (cI cJ cZ cB : ClassId) (sz : Nat) (aR : Nat) (aRd : Nat) (aRo : Nat) (a0 : Int32) (a1 : Int32) (rc : Int32) (rl : Int32) (rm : Int32) (rd : Nat → Int32) (ro : Nat → Int32) (hrc : okC rc 12) (o : Int32 × (Nat → Int32) × (Nat → Int32)) (ho : f_X4_append a0 a1 rc rd ro = o) : Met l yX4_append wsX4_append ({ frames := 0, cells := 0, slots := 0, locals := 0 } : Room) (xPre D (xT cI cJ cZ cB) [.ref aR, .int a0, .int a1] [(aR, .inr (4, [.ref aRd, .ref aRo, .int rc, .int rl, .int rm])), (aRd, .inl (cI, 12, .inl rd)), (aRo, .inl (cI, 12, .inl ro))] sz) (va_Qv (fun _ : Unit => True) (fun _ t => xB D ([(aR, .inr (4, [.ref aRd, .ref aRo, .int o.1, .int rl, .int rm])), (aRd, .inl (cI, 12, .inl o.2.1)), (aRo, .inl (cI, 12, .inl o.2.2))]) (va_A [(aR, .inr (4, [.ref aRd, .ref aRo, .int rc, .int rl, .int rm])), (aRd, .inl (cI, 12, .inl rd)), (aRo, .inl (cI, 12, .inl ro))] sz) t) (va_A [(aR, .inr (4, [.ref aRd, .ref aRo, .int rc, .int rl, .int rm])), (aRd, .inl (cI, 12, .inl rd)), (aRo, .inl (cI, 12, .inl ro))] sz)) 0 0 (va_A [(aR, .inr (4, [.ref aRd, .ref aRo, .int rc, .int rl, .int rm])), (aRd, .inl (cI, 12, .inl rd)), (aRo, .inl (cI, 12, .inl ro))] sz) := by
  refine xofW (Qc := fun A0 => va_Qv (fun _ : Unit => True) (fun _ t => xB D ([(aR, .inr (4, [.ref aRd, .ref aRo, .int o.1, .int rl, .int rm])), (aRd, .inl (cI, 12, .inl o.2.1)), (aRo, .inl (cI, 12, .inl o.2.2))]) A0 t) A0) (fr := fun A => A) (cc := cX4_append) (maxL := 3) (ret := none) (by decide) rfl (Nat.le_of_ble_eq_true rfl) ?_
  intro p e s m below meth c A ⟨hx, hb, hml, hown, hts⟩ hrt hlocks hnm hsz hK hW hA hG ls hl
  have hown : s.vm.findClass RX4 = some m.cls := hown
  have hl : lv_has ls 3 [(0, .ref aR), (1, .int a0), (2, .int a1)] := hl
  obtain ⟨H, hH⟩ : ∃ H, H = s.heap := ⟨_, rfl⟩
  have hW : xW D A s.heap ([(aR, .inr (4, [.ref aRd, .ref aRo, .int rc, .int rl, .int rm])), (aRd, .inl (cI, 12, .inl rd)), (aRo, .inl (cI, 12, .inl ro))] ++ []) H [] := by rw [hH]; exact hW
  have w1 := hts (.fieldLink RX4 28 "DryIceLane$Route" "count" "I") (by decide +kernel)
  have hin4 : ∀ w ∈ u_ws RX4 TX4 5, w ∈ wsX4_append := by decide +kernel
  have w3 := hts (.fieldLink RX4 9 "DryIceLane$Route" "durations" "[I") (by decide +kernel)
  have w4 := hts (.fieldLink RX4 15 "DryIceLane$Route" "outsides" "[I") (by decide +kernel)
  rw [← hH]
  refine lv_aload_n hx hb dX4_append_0 rfl (lv_at hl 0 rfl) ?_
  refine xget (ci := 4) (C := RX4) (T := TX4) (N := 5) hx hb hts hin4 hown hK hW.1 0 rfl rfl 2 (by decide) w1 rfl dX4_append_1 ?_
  refine lv_bipush (v := 12) hx hb dX4_append_4 (by decide) ?_
  refine lv_icmp_lt (tgt := 10) hx hb dX4_append_6 (by decide) (fun c1 => ?_) (fun c1 => ?_)
  · skip
    refine lv_aload_n hx hb dX4_append_10 rfl (lv_at hl 0 rfl) ?_
    refine xget (ci := 4) (C := RX4) (T := TX4) (N := 5) hx hb hts hin4 hown hK hW.1 0 rfl rfl 0 (by decide) w3 rfl dX4_append_11 ?_
    refine lv_aload_n hx hb dX4_append_14 rfl (lv_at hl 0 rfl) ?_
    refine xget (ci := 4) (C := RX4) (T := TX4) (N := 5) hx hb hts hin4 hown hK hW.1 0 rfl rfl 2 (by decide) w1 rfl dX4_append_15 ?_
    refine lv_iload_n hx hb dX4_append_18 rfl (lv_at hl 1 rfl) ?_
    refine xiast hx hb hK hW 1 0 rfl (Nat.le_of_ble_eq_true rfl) rfl (vp_in_iff.mpr ⟨hrc.1, xlt.mp c1⟩) rc.toNatClampNeg rfl dX4_append_19 (fun H locs hW => ?_)
    have hW : xW D A s.heap ([(aR, .inr (4, [.ref aRd, .ref aRo, .int rc, .int rl, .int rm])), (aRd, .inl (cI, 12, .inl (upd rd rc.toNatClampNeg a0))), (aRo, .inl (cI, 12, .inl ro))] ++ []) H _ := hW
    refine lv_aload_n hx hb dX4_append_20 rfl (lv_at hl 0 rfl) ?_
    refine xget (ci := 4) (C := RX4) (T := TX4) (N := 5) hx hb hts hin4 hown hK hW.1 0 rfl rfl 1 (by decide) w4 rfl dX4_append_21 ?_
    refine lv_aload_n hx hb dX4_append_24 rfl (lv_at hl 0 rfl) ?_
    refine xget (ci := 4) (C := RX4) (T := TX4) (N := 5) hx hb hts hin4 hown hK hW.1 0 rfl rfl 2 (by decide) w1 rfl dX4_append_25 ?_
    refine lv_iload_n hx hb dX4_append_28 rfl (lv_at hl 2 rfl) ?_
    refine xiast hx hb hK hW 2 0 rfl (Nat.le_of_ble_eq_true rfl) rfl (vp_in_iff.mpr ⟨hrc.1, xlt.mp c1⟩) rc.toNatClampNeg rfl dX4_append_29 (fun H locs hW => ?_)
    have hW : xW D A s.heap ([(aR, .inr (4, [.ref aRd, .ref aRo, .int rc, .int rl, .int rm])), (aRd, .inl (cI, 12, .inl (upd rd rc.toNatClampNeg a0))), (aRo, .inl (cI, 12, .inl (upd ro rc.toNatClampNeg a1)))] ++ []) H _ := hW
    refine lv_aload_n hx hb dX4_append_30 rfl (lv_at hl 0 rfl) ?_
    refine lv_dup hx hb dX4_append_31 rfl ?_
    refine xget (ci := 4) (C := RX4) (T := TX4) (N := 5) hx hb hts hin4 hown hK hW.1 0 rfl rfl 2 (by decide) w1 rfl dX4_append_32 ?_
    refine lv_iconst (v := 1) hx hb dX4_append_35 (by decide) ?_
    refine lv_iadd hx hb dX4_append_36 ?_
    refine xput (ci := 4) (v := .int (rc + 1)) (ty := .int) (C := RX4) (T := TX4) (N := 5) hx hb hts hin4 tyX4 tyX4_ok nmX4 hown hK hW 0 rfl (Nat.le_of_ble_eq_true rfl) rfl 2 (by decide) w1 rfl (by decide +kernel) rfl rfl (Nat.le_of_ble_eq_true rfl) dX4_append_37 (fun H locs hW => ?_)
    have hW : xW D A s.heap ([(aR, .inr (4, [.ref aRd, .ref aRo, .int (rc + 1), .int rl, .int rm])), (aRd, .inl (cI, 12, .inl (upd rd rc.toNatClampNeg a0))), (aRo, .inl (cI, 12, .inl (upd ro rc.toNatClampNeg a1)))] ++ []) H _ := hW
    have hF : f_X4_append a0 a1 rc rd ro = (rc + 1, upd rd rc.toNatClampNeg a0, upd ro rc.toNatClampNeg a1) := by
      rw [f_X4_append, if_pos c1]
    obtain rfl : (rc + 1, upd rd rc.toNatClampNeg a0, upd ro rc.toNatClampNeg a1) = o := hF.symm.trans ho
    exact W.vret hx hb hrt (fun t ht hM => ⟨⟨(), rfl, trivial, ⟨by rw [ht]; exact hW.1, hW.2.1⟩⟩, hW.2.2.F ht⟩) hW.2.2.2.2 dX4_append_40 hlocks
  · skip
    have hF : f_X4_append a0 a1 rc rd ro = (rc, rd, ro) := by
      rw [f_X4_append, if_neg c1]
    obtain rfl : (rc, rd, ro) = o := hF.symm.trans ho
    exact W.vret hx hb hrt (fun t ht hM => ⟨⟨(), rfl, trivial, ⟨by rw [ht]; exact hW.1, hW.2.1⟩⟩, hW.2.2.F ht⟩) hW.2.2.2.2 dX4_append_9 hlocks

def f_X4_beginNextLeg (rc : Int32) (rl : Int32) (rm : Int32) (rd : Nat → Int32) : Int32 × Int32 :=
  if (f_X4_hasNextLeg rc rl) = true then
    (rl + 1, rd (rl + 1).toNatClampNeg)
  else
    (rl, rm)
set_option maxHeartbeats 4000000 in
set_option maxRecDepth 100000 in
theorem c_X4_beginNextLeg (l : Launch) (D : va_G) (cI cJ cZ cB : ClassId) (sz : Nat) (aR : Nat) (aRd : Nat) (aRo : Nat) (rc : Int32) (rl : Int32) (rm : Int32) (rd : Nat → Int32) (ro : Nat → Int32) (hrc : okC rc 12) (o : Int32 × Int32) (ho : f_X4_beginNextLeg rc rl rm rd = o) : Met l yX4_beginNextLeg wsX4_beginNextLeg ({ frames := 3, cells := 0, slots := 0, locals := 63 } : Room) (xPre D (xT cI cJ cZ cB) [.ref aR] [(aR, .inr (4, [.ref aRd, .ref aRo, .int rc, .int rl, .int rm])), (aRd, .inl (cI, 12, .inl rd)), (aRo, .inl (cI, 12, .inl ro))] sz) (va_Qv (fun _ : Unit => True) (fun _ t => xB D ([(aR, .inr (4, [.ref aRd, .ref aRo, .int rc, .int o.1, .int o.2])), (aRd, .inl (cI, 12, .inl rd)), (aRo, .inl (cI, 12, .inl ro))]) (va_A [(aR, .inr (4, [.ref aRd, .ref aRo, .int rc, .int rl, .int rm])), (aRd, .inl (cI, 12, .inl rd)), (aRo, .inl (cI, 12, .inl ro))] sz) t) (va_A [(aR, .inr (4, [.ref aRd, .ref aRo, .int rc, .int rl, .int rm])), (aRd, .inl (cI, 12, .inl rd)), (aRo, .inl (cI, 12, .inl ro))] sz)) 0 0 (va_A [(aR, .inr (4, [.ref aRd, .ref aRo, .int rc, .int rl, .int rm])), (aRd, .inl (cI, 12, .inl rd)), (aRo, .inl (cI, 12, .inl ro))] sz) := by
  refine xofW (Qc := fun A0 => va_Qv (fun _ : Unit => True) (fun _ t => xB D ([(aR, .inr (4, [.ref aRd, .ref aRo, .int rc, .int o.1, .int o.2])), (aRd, .inl (cI, 12, .inl rd)), (aRo, .inl (cI, 12, .inl ro))]) A0 t) A0) (fr := fun A => A) (cc := cX4_beginNextLeg) (maxL := 1) (ret := none) (by decide) rfl (Nat.le_of_ble_eq_true rfl) ?_
  intro p e s m below meth c A ⟨hx, hb, hml, hown, hts⟩ hrt hlocks hnm hsz hK hW hA hG ls hl
  have hown : s.vm.findClass RX4 = some m.cls := hown
  have hl : lv_has ls 1 [(0, .ref aR)] := hl
  obtain ⟨H, hH⟩ : ∃ H, H = s.heap := ⟨_, rfl⟩
  have hW : xW D A s.heap ([(aR, .inr (4, [.ref aRd, .ref aRo, .int rc, .int rl, .int rm])), (aRd, .inl (cI, 12, .inl rd)), (aRo, .inl (cI, 12, .inl ro))] ++ []) H [] := by rw [hH]; exact hW
  have w1 := hts (.fieldLink RX4 18 "DryIceLane$Route" "latest" "I") (by decide +kernel)
  have hin4 : ∀ w ∈ u_ws RX4 TX4 5, w ∈ wsX4_beginNextLeg := by decide +kernel
  have w3 := hts (.fieldLink RX4 9 "DryIceLane$Route" "durations" "[I") (by decide +kernel)
  have w4 := hts (.fieldLink RX4 31 "DryIceLane$Route" "minutesLeft" "I") (by decide +kernel)
  rw [← hH]
  refine lv_aload_n hx hb dX4_beginNextLeg_0 rfl (lv_at hl 0 rfl) ?_
  refine vp_callSi (va_Run.run (xrunV (As := []) (rest := []) ⟨hx, hb, hml, hown, hts⟩ (c_X4_hasNextLeg l D cI cJ cZ cB H.size aR aRd aRo rc rl rm _ rfl) (cwV 0 hts gX4_beginNextLeg_X4_hasNextLeg rfl rfl rfl (by decide +kernel) ⟨Nat.le_of_ble_eq_true rfl, Nat.le_of_ble_eq_true rfl⟩) hK hG hW.2.2 (xsubQ hW hA [0] rfl (by decide)) (va_recv hK hW.1 (ci := 4) (q0 := 0) rfl rfl) rfl hl.1 rfl (Nat.le_of_ble_eq_true rfl) dX4_beginNextLeg_1 ⟨Nat.le_of_ble_eq_true rfl, Nat.le_of_ble_eq_true rfl⟩)) (fun r1 hq => ?_)
  subst hq
  refine xb_eq (tgt := 30) hx hb dX4_beginNextLeg_4 (by decide) (fun c1 => ?_) (fun c1 => ?_)
  · skip
    have hF : f_X4_beginNextLeg rc rl rm rd = (rl, rm) := by
      rw [f_X4_beginNextLeg, if_neg c1]
    obtain rfl : (rl, rm) = o := hF.symm.trans ho
    exact W.vret hx hb hrt (fun t ht hM => ⟨⟨(), rfl, trivial, ⟨by rw [ht]; exact hW.1, hW.2.1⟩⟩, hW.2.2.F ht⟩) hW.2.2.2.2 dX4_beginNextLeg_30 hlocks
  · skip
    refine lv_aload_n hx hb dX4_beginNextLeg_7 rfl (lv_at hl 0 rfl) ?_
    refine lv_dup hx hb dX4_beginNextLeg_8 rfl ?_
    refine xget (ci := 4) (C := RX4) (T := TX4) (N := 5) hx hb hts hin4 hown hK hW.1 0 rfl rfl 3 (by decide) w1 rfl dX4_beginNextLeg_9 ?_
    refine lv_iconst (v := 1) hx hb dX4_beginNextLeg_12 (by decide) ?_
    refine lv_iadd hx hb dX4_beginNextLeg_13 ?_
    refine xput (ci := 4) (v := .int (rl + 1)) (ty := .int) (C := RX4) (T := TX4) (N := 5) hx hb hts hin4 tyX4 tyX4_ok nmX4 hown hK hW 0 rfl (Nat.le_of_ble_eq_true rfl) rfl 3 (by decide) w1 rfl (by decide +kernel) rfl rfl (Nat.le_of_ble_eq_true rfl) dX4_beginNextLeg_14 (fun H locs hW => ?_)
    have hW : xW D A s.heap ([(aR, .inr (4, [.ref aRd, .ref aRo, .int rc, .int (rl + 1), .int rm])), (aRd, .inl (cI, 12, .inl rd)), (aRo, .inl (cI, 12, .inl ro))] ++ []) H _ := hW
    refine lv_aload_n hx hb dX4_beginNextLeg_17 rfl (lv_at hl 0 rfl) ?_
    refine lv_aload_n hx hb dX4_beginNextLeg_18 rfl (lv_at hl 0 rfl) ?_
    refine xget (ci := 4) (C := RX4) (T := TX4) (N := 5) hx hb hts hin4 hown hK hW.1 0 rfl rfl 0 (by decide) w3 rfl dX4_beginNextLeg_19 ?_
    refine lv_aload_n hx hb dX4_beginNextLeg_22 rfl (lv_at hl 0 rfl) ?_
    refine xget (ci := 4) (C := RX4) (T := TX4) (N := 5) hx hb hts hin4 hown hK hW.1 0 rfl rfl 3 (by decide) w1 rfl dX4_beginNextLeg_23 ?_
    refine xiald hx hb hK hW.1 1 0 rfl rfl (hl_in c1 hrc) (rl + 1).toNatClampNeg rfl (v := rd (rl + 1).toNatClampNeg) rfl dX4_beginNextLeg_26 ?_
    refine xput (ci := 4) (v := .int (rd (rl + 1).toNatClampNeg)) (ty := .int) (C := RX4) (T := TX4) (N := 5) hx hb hts hin4 tyX4 tyX4_ok nmX4 hown hK hW 0 rfl (Nat.le_of_ble_eq_true rfl) rfl 4 (by decide) w4 rfl (by decide +kernel) rfl rfl (Nat.le_of_ble_eq_true rfl) dX4_beginNextLeg_27 (fun H locs hW => ?_)
    have hW : xW D A s.heap ([(aR, .inr (4, [.ref aRd, .ref aRo, .int rc, .int (rl + 1), .int (rd (rl + 1).toNatClampNeg)])), (aRd, .inl (cI, 12, .inl rd)), (aRo, .inl (cI, 12, .inl ro))] ++ []) H _ := hW
    have hF : f_X4_beginNextLeg rc rl rm rd = (rl + 1, rd (rl + 1).toNatClampNeg) := by
      rw [f_X4_beginNextLeg, if_pos c1]
    obtain rfl : (rl + 1, rd (rl + 1).toNatClampNeg) = o := hF.symm.trans ho
    exact W.vret hx hb hrt (fun t ht hM => ⟨⟨(), rfl, trivial, ⟨by rw [ht]; exact hW.1, hW.2.1⟩⟩, hW.2.2.F ht⟩) hW.2.2.2.2 dX4_beginNextLeg_30 hlocks

def f_X4_letMinutePass (rm : Int32) : Int32 :=
  if (f_X4_isOnTheWay rm) = true then
    rm - 1
  else
    rm
set_option maxHeartbeats 4000000 in
set_option maxRecDepth 100000 in
theorem c_X4_letMinutePass (l : Launch) (D : va_G) (cI cJ cZ cB : ClassId) (sz : Nat) (aR : Nat) (aRd : Nat) (aRo : Nat) (rc : Int32) (rl : Int32) (rm : Int32) (o : Int32) (ho : f_X4_letMinutePass rm = o) : Met l yX4_letMinutePass wsX4_letMinutePass ({ frames := 1, cells := 0, slots := 0, locals := 20 } : Room) (xPre D (xT cI cJ cZ cB) [.ref aR] [(aR, .inr (4, [.ref aRd, .ref aRo, .int rc, .int rl, .int rm]))] sz) (va_Qv (fun _ : Unit => True) (fun _ t => xB D ([(aR, .inr (4, [.ref aRd, .ref aRo, .int rc, .int rl, .int o]))]) (va_A [(aR, .inr (4, [.ref aRd, .ref aRo, .int rc, .int rl, .int rm]))] sz) t) (va_A [(aR, .inr (4, [.ref aRd, .ref aRo, .int rc, .int rl, .int rm]))] sz)) 0 0 (va_A [(aR, .inr (4, [.ref aRd, .ref aRo, .int rc, .int rl, .int rm]))] sz) := by
  refine xofW (Qc := fun A0 => va_Qv (fun _ : Unit => True) (fun _ t => xB D ([(aR, .inr (4, [.ref aRd, .ref aRo, .int rc, .int rl, .int o]))]) A0 t) A0) (fr := fun A => A) (cc := cX4_letMinutePass) (maxL := 1) (ret := none) (by decide) rfl (Nat.le_of_ble_eq_true rfl) ?_
  intro p e s m below meth c A ⟨hx, hb, hml, hown, hts⟩ hrt hlocks hnm hsz hK hW hA hG ls hl
  have hown : s.vm.findClass RX4 = some m.cls := hown
  have hl : lv_has ls 1 [(0, .ref aR)] := hl
  obtain ⟨H, hH⟩ : ∃ H, H = s.heap := ⟨_, rfl⟩
  have hW : xW D A s.heap ([(aR, .inr (4, [.ref aRd, .ref aRo, .int rc, .int rl, .int rm]))] ++ []) H [] := by rw [hH]; exact hW
  have w1 := hts (.fieldLink RX4 31 "DryIceLane$Route" "minutesLeft" "I") (by decide +kernel)
  have hin4 : ∀ w ∈ u_ws RX4 TX4 5, w ∈ wsX4_letMinutePass := by decide +kernel
  rw [← hH]
  refine lv_aload_n hx hb dX4_letMinutePass_0 rfl (lv_at hl 0 rfl) ?_
  refine vp_callSi (va_Run.run (xrunV (As := []) (rest := []) ⟨hx, hb, hml, hown, hts⟩ (c_X4_isOnTheWay l D cI cJ cZ cB H.size aR aRd aRo rc rl rm _ rfl) (cwV 0 hts gX4_letMinutePass_X4_isOnTheWay rfl rfl rfl (by decide +kernel) ⟨Nat.le_of_ble_eq_true rfl, Nat.le_of_ble_eq_true rfl⟩) hK hG hW.2.2 (xsubQ hW hA [0] rfl (by decide)) (va_recv hK hW.1 (ci := 4) (q0 := 0) rfl rfl) rfl hl.1 rfl (Nat.le_of_ble_eq_true rfl) dX4_letMinutePass_1 ⟨Nat.le_of_ble_eq_true rfl, Nat.le_of_ble_eq_true rfl⟩)) (fun r1 hq => ?_)
  subst hq
  refine xb_eq (tgt := 17) hx hb dX4_letMinutePass_4 (by decide) (fun c1 => ?_) (fun c1 => ?_)
  · skip
    have hF : f_X4_letMinutePass rm = rm := by
      rw [f_X4_letMinutePass, if_neg c1]
    obtain rfl : rm = o := hF.symm.trans ho
    exact W.vret hx hb hrt (fun t ht hM => ⟨⟨(), rfl, trivial, ⟨by rw [ht]; exact hW.1, hW.2.1⟩⟩, hW.2.2.F ht⟩) hW.2.2.2.2 dX4_letMinutePass_17 hlocks
  · skip
    refine lv_aload_n hx hb dX4_letMinutePass_7 rfl (lv_at hl 0 rfl) ?_
    refine lv_dup hx hb dX4_letMinutePass_8 rfl ?_
    refine xget (ci := 4) (C := RX4) (T := TX4) (N := 5) hx hb hts hin4 hown hK hW.1 0 rfl rfl 4 (by decide) w1 rfl dX4_letMinutePass_9 ?_
    refine lv_iconst (v := 1) hx hb dX4_letMinutePass_12 (by decide) ?_
    refine lv_isub hx hb dX4_letMinutePass_13 ?_
    refine xput (ci := 4) (v := .int (rm - 1)) (ty := .int) (C := RX4) (T := TX4) (N := 5) hx hb hts hin4 tyX4 tyX4_ok nmX4 hown hK hW 0 rfl (Nat.le_of_ble_eq_true rfl) rfl 4 (by decide) w1 rfl (by decide +kernel) rfl rfl (Nat.le_of_ble_eq_true rfl) dX4_letMinutePass_14 (fun H locs hW => ?_)
    have hW : xW D A s.heap ([(aR, .inr (4, [.ref aRd, .ref aRo, .int rc, .int rl, .int (rm - 1)]))] ++ []) H _ := hW
    have hF : f_X4_letMinutePass rm = rm - 1 := by
      rw [f_X4_letMinutePass, if_pos c1]
    obtain rfl : rm - 1 = o := hF.symm.trans ho
    exact W.vret hx hb hrt (fun t ht hM => ⟨⟨(), rfl, trivial, ⟨by rw [ht]; exact hW.1, hW.2.1⟩⟩, hW.2.2.F ht⟩) hW.2.2.2.2 dX4_letMinutePass_17 hlocks

def f_X3_append (a0 : Int32) (pl : Int32) (pf : Nat → Int32) : Int32 × (Nat → Int32) :=
  if 80 ≤ pl then
    (pl, pf)
  else
    (pl + 1, upd pf pl.toNatClampNeg a0)
set_option maxHeartbeats 4000000 in
set_option maxRecDepth 100000 in
theorem c_X3_append (l : Launch) (D : va_G) (cI cJ cZ cB : ClassId) (sz : Nat) (aP : Nat) (aPc : Nat) (a0 : Int32) (pl : Int32) (pf : Nat → Int32) (hpl : okC pl 80) (o : Int32 × (Nat → Int32)) (ho : f_X3_append a0 pl pf = o) : Met l yX3_append wsX3_append ({ frames := 0, cells := 0, slots := 0, locals := 0 } : Room) (xPre D (xT cI cJ cZ cB) [.ref aP, .int a0] [(aP, .inr (3, [.ref aPc, .int pl])), (aPc, .inl (cI, 80, .inl pf))] sz) (va_Qv (fun _ : Unit => True) (fun _ t => xB D ([(aP, .inr (3, [.ref aPc, .int o.1])), (aPc, .inl (cI, 80, .inl o.2))]) (va_A [(aP, .inr (3, [.ref aPc, .int pl])), (aPc, .inl (cI, 80, .inl pf))] sz) t) (va_A [(aP, .inr (3, [.ref aPc, .int pl])), (aPc, .inl (cI, 80, .inl pf))] sz)) 0 0 (va_A [(aP, .inr (3, [.ref aPc, .int pl])), (aPc, .inl (cI, 80, .inl pf))] sz) := by
  refine xofW (Qc := fun A0 => va_Qv (fun _ : Unit => True) (fun _ t => xB D ([(aP, .inr (3, [.ref aPc, .int o.1])), (aPc, .inl (cI, 80, .inl o.2))]) A0 t) A0) (fr := fun A => A) (cc := cX3_append) (maxL := 2) (ret := none) (by decide) rfl (Nat.le_of_ble_eq_true rfl) ?_
  intro p e s m below meth c A ⟨hx, hb, hml, hown, hts⟩ hrt hlocks hnm hsz hK hW hA hG ls hl
  have hown : s.vm.findClass RX3 = some m.cls := hown
  have hl : lv_has ls 2 [(0, .ref aP), (1, .int a0)] := hl
  obtain ⟨H, hH⟩ : ∃ H, H = s.heap := ⟨_, rfl⟩
  have hW : xW D A s.heap ([(aP, .inr (3, [.ref aPc, .int pl])), (aPc, .inl (cI, 80, .inl pf))] ++ []) H [] := by rw [hH]; exact hW
  have w1 := hts (.fieldLink RX3 15 "DryIceLane$Pad" "length" "I") (by decide +kernel)
  have hin3 : ∀ w ∈ u_ws RX3 TX3 2, w ∈ wsX3_append := by decide +kernel
  have w3 := hts (.fieldLink RX3 9 "DryIceLane$Pad" "codes" "[I") (by decide +kernel)
  rw [← hH]
  refine lv_aload_n hx hb dX3_append_0 rfl (lv_at hl 0 rfl) ?_
  refine xget (ci := 3) (C := RX3) (T := TX3) (N := 2) hx hb hts hin3 hown hK hW.1 0 rfl rfl 1 (by decide) w1 rfl dX3_append_1 ?_
  refine lv_bipush (v := 80) hx hb dX3_append_4 (by decide) ?_
  refine lv_icmp_ge (tgt := 29) hx hb dX3_append_6 (by decide) (fun c1 => ?_) (fun c1 => ?_)
  · skip
    have hF : f_X3_append a0 pl pf = (pl, pf) := by
      rw [f_X3_append, if_pos c1]
    obtain rfl : (pl, pf) = o := hF.symm.trans ho
    exact W.vret hx hb hrt (fun t ht hM => ⟨⟨(), rfl, trivial, ⟨by rw [ht]; exact hW.1, hW.2.1⟩⟩, hW.2.2.F ht⟩) hW.2.2.2.2 dX3_append_29 hlocks
  · skip
    refine lv_aload_n hx hb dX3_append_9 rfl (lv_at hl 0 rfl) ?_
    refine xget (ci := 3) (C := RX3) (T := TX3) (N := 2) hx hb hts hin3 hown hK hW.1 0 rfl rfl 0 (by decide) w3 rfl dX3_append_10 ?_
    refine lv_aload_n hx hb dX3_append_13 rfl (lv_at hl 0 rfl) ?_
    refine xget (ci := 3) (C := RX3) (T := TX3) (N := 2) hx hb hts hin3 hown hK hW.1 0 rfl rfl 1 (by decide) w1 rfl dX3_append_14 ?_
    refine lv_iload_n hx hb dX3_append_17 rfl (lv_at hl 1 rfl) ?_
    refine xiast hx hb hK hW 1 0 rfl (Nat.le_of_ble_eq_true rfl) rfl (vp_in_iff.mpr ⟨hpl.1, xnle.mp c1⟩) pl.toNatClampNeg rfl dX3_append_18 (fun H locs hW => ?_)
    have hW : xW D A s.heap ([(aP, .inr (3, [.ref aPc, .int pl])), (aPc, .inl (cI, 80, .inl (upd pf pl.toNatClampNeg a0)))] ++ []) H _ := hW
    refine lv_aload_n hx hb dX3_append_19 rfl (lv_at hl 0 rfl) ?_
    refine lv_dup hx hb dX3_append_20 rfl ?_
    refine xget (ci := 3) (C := RX3) (T := TX3) (N := 2) hx hb hts hin3 hown hK hW.1 0 rfl rfl 1 (by decide) w1 rfl dX3_append_21 ?_
    refine lv_iconst (v := 1) hx hb dX3_append_24 (by decide) ?_
    refine lv_iadd hx hb dX3_append_25 ?_
    refine xput (ci := 3) (v := .int (pl + 1)) (ty := .int) (C := RX3) (T := TX3) (N := 2) hx hb hts hin3 tyX3 tyX3_ok nmX3 hown hK hW 0 rfl (Nat.le_of_ble_eq_true rfl) rfl 1 (by decide) w1 rfl (by decide +kernel) rfl rfl (Nat.le_of_ble_eq_true rfl) dX3_append_26 (fun H locs hW => ?_)
    have hW : xW D A s.heap ([(aP, .inr (3, [.ref aPc, .int (pl + 1)])), (aPc, .inl (cI, 80, .inl (upd pf pl.toNatClampNeg a0)))] ++ []) H _ := hW
    have hF : f_X3_append a0 pl pf = (pl + 1, upd pf pl.toNatClampNeg a0) := by
      rw [f_X3_append, if_neg c1]
    obtain rfl : (pl + 1, upd pf pl.toNatClampNeg a0) = o := hF.symm.trans ho
    exact W.vret hx hb hrt (fun t ht hM => ⟨⟨(), rfl, trivial, ⟨by rw [ht]; exact hW.1, hW.2.1⟩⟩, hW.2.2.F ht⟩) hW.2.2.2.2 dX3_append_29 hlocks

def f_X3_codeAt (a0 : Int32) (pl : Int32) (pf : Nat → Int32) : Int32 :=
  if (f_X9_within a0 0 (pl - 1)) = true then
    pf a0.toNatClampNeg
  else
    0
set_option maxHeartbeats 4000000 in
set_option maxRecDepth 100000 in
theorem c_X3_codeAt (l : Launch) (D : va_G) (cI cJ cZ cB : ClassId) (sz : Nat) (aP : Nat) (aPc : Nat) (a0 : Int32) (pl : Int32) (pf : Nat → Int32) (hpl : okC pl 80) (o : Int32) (ho : f_X3_codeAt a0 pl pf = o) : Met l yX3_codeAt wsX3_codeAt ({ frames := 1, cells := 0, slots := 0, locals := 22 } : Room) (xPre D (xT cI cJ cZ cB) [.ref aP, .int a0] [(aP, .inr (3, [.ref aPc, .int pl])), (aPc, .inl (cI, 80, .inl pf))] sz) (vp_Si (fun r => r = o)) 0 0 (fun _ => False) := by
  refine xofW (Qc := fun _ => vp_Si (fun r => r = o)) (fr := fun _ _ => False) (cc := cX3_codeAt) (maxL := 2) (ret := (some .int)) (by decide) rfl (Nat.le_of_ble_eq_true rfl) ?_
  intro p e s m below meth c A ⟨hx, hb, hml, hown, hts⟩ hrt hlocks hnm hsz hK hW hA hG ls hl
  have hown : s.vm.findClass RX3 = some m.cls := hown
  have hl : lv_has ls 2 [(0, .ref aP), (1, .int a0)] := hl
  obtain ⟨H, hH⟩ : ∃ H, H = s.heap := ⟨_, rfl⟩
  have hW : xW D A s.heap ([(aP, .inr (3, [.ref aPc, .int pl])), (aPc, .inl (cI, 80, .inl pf))] ++ []) H [] := by rw [hH]; exact hW
  have w1 := hts (.fieldLink RX3 15 "DryIceLane$Pad" "length" "I") (by decide +kernel)
  have hin3 : ∀ w ∈ u_ws RX3 TX3 2, w ∈ wsX3_codeAt := by decide +kernel
  have w3 := hts (.initialized RX9) (by decide +kernel)
  have w4 := hts (.static yX9_within) (by decide +kernel)
  have w5 := hts (.fieldLink RX3 9 "DryIceLane$Pad" "codes" "[I") (by decide +kernel)
  rw [← hH]
  refine lv_iload_n hx hb dX3_codeAt_0 rfl (lv_at hl 1 rfl) ?_
  refine lv_iconst (v := 0) hx hb dX3_codeAt_1 (by decide) ?_
  refine lv_aload_n hx hb dX3_codeAt_2 rfl (lv_at hl 0 rfl) ?_
  refine xget (ci := 3) (C := RX3) (T := TX3) (N := 2) hx hb hts hin3 hown hK hW.1 0 rfl rfl 1 (by decide) w1 rfl dX3_codeAt_3 ?_
  refine lv_iconst (v := 1) hx hb dX3_codeAt_6 (by decide) ?_
  refine lv_isub hx hb dX3_codeAt_7 ?_
  refine vp_callSi (va_Run.run (xrunSN (As := [.int a0, .int 0, .int (pl - 1)]) (rest := []) ⟨hx, hb, hml, hown, hts⟩ (c_X9_within l D cI cJ cZ cB H.size a0 0 (pl - 1) _ rfl) ⟨va_cnB (host := "DryIceLane") 3 hts gX3_codeAt_X9_within_n19 rfl rfl rfl (hG.1.1 (.methodLinkNest RX3 19 yX9_within "DryIceLane") (by decide +kernel)) w3 (by decide +kernel) ⟨Nat.le_of_ble_eq_true rfl, Nat.le_of_ble_eq_true rfl⟩, w4, trivial⟩ hK hG hW.2.2 (xsubQ hW hA [] rfl (by decide)) rfl hl.1 rfl (Nat.le_of_ble_eq_true rfl) dX3_codeAt_8 ⟨Nat.le_of_ble_eq_true rfl, Nat.le_of_ble_eq_true rfl⟩)) (fun r1 hq => ?_)
  subst hq
  refine xb_eq (tgt := 23) hx hb dX3_codeAt_11 (by decide) (fun c1 => ?_) (fun c1 => ?_)
  · skip
    refine lv_iconst (v := 0) hx hb dX3_codeAt_23 (by decide) ?_
    have hF : f_X3_codeAt a0 pl pf = 0 := by
      rw [f_X3_codeAt, if_neg c1]
    obtain rfl : 0 = o := hF.symm.trans ho
    exact W.iret (v := 0) hx hb hrt (fun t ht hM => ⟨_, rfl, rfl, ht.trans hH⟩) (fun q h => by cases h) dX3_codeAt_24 hlocks
  · skip
    refine lv_aload_n hx hb dX3_codeAt_14 rfl (lv_at hl 0 rfl) ?_
    refine xget (ci := 3) (C := RX3) (T := TX3) (N := 2) hx hb hts hin3 hown hK hW.1 0 rfl rfl 0 (by decide) w5 rfl dX3_codeAt_15 ?_
    refine lv_iload_n hx hb dX3_codeAt_18 rfl (lv_at hl 1 rfl) ?_
    refine xiald hx hb hK hW.1 1 0 rfl rfl (w_in c1 hpl) a0.toNatClampNeg rfl (v := pf a0.toNatClampNeg) rfl dX3_codeAt_19 ?_
    refine lv_goto (tgt := 24) hx hb dX3_codeAt_20 (by decide) ?_
    have hF : f_X3_codeAt a0 pl pf = pf a0.toNatClampNeg := by
      rw [f_X3_codeAt, if_pos c1]
    obtain rfl : pf a0.toNatClampNeg = o := hF.symm.trans ho
    exact W.iret (v := pf a0.toNatClampNeg) hx hb hrt (fun t ht hM => ⟨_, rfl, rfl, ht.trans hH⟩) (fun q h => by cases h) dX3_codeAt_24 hlocks

def f_X5_isDigit (a0 : Int32) : Bool :=
  f_X9_within a0 48 57
set_option maxHeartbeats 4000000 in
set_option maxRecDepth 100000 in
theorem c_X5_isDigit (l : Launch) (D : va_G) (cI cJ cZ cB : ClassId) (sz : Nat) (a0 : Int32) (o : Bool) (ho : f_X5_isDigit a0 = o) : Met l yX5_isDigit wsX5_isDigit ({ frames := 1, cells := 0, slots := 0, locals := 22 } : Room) (xPre D (xT cI cJ cZ cB) [.int a0] [] sz) (vp_Si (fun r => r = bi o)) 0 0 (fun _ => False) := by
  refine xofW (Qc := fun _ => vp_Si (fun r => r = bi o)) (fr := fun _ _ => False) (cc := cX5_isDigit) (maxL := 1) (ret := (some .boolean)) (by decide) rfl (Nat.le_of_ble_eq_true rfl) ?_
  intro p e s m below meth c A ⟨hx, hb, hml, hown, hts⟩ hrt hlocks hnm hsz hK hW hA hG ls hl
  have hown : s.vm.findClass RX5 = some m.cls := hown
  have hl : lv_has ls 1 [(0, .int a0)] := hl
  obtain ⟨H, hH⟩ : ∃ H, H = s.heap := ⟨_, rfl⟩
  have hW : xW D A s.heap ([] ++ []) H [] := by rw [hH]; exact hW
  have w1 := hts (.initialized RX9) (by decide +kernel)
  have w2 := hts (.static yX9_within) (by decide +kernel)
  rw [← hH]
  refine lv_iload_n hx hb dX5_isDigit_0 rfl (lv_at hl 0 rfl) ?_
  refine lv_bipush (v := 48) hx hb dX5_isDigit_1 (by decide) ?_
  refine lv_bipush (v := 57) hx hb dX5_isDigit_3 (by decide) ?_
  refine vp_callSi (va_Run.run (xrunSN (As := [.int a0, .int 48, .int 57]) (rest := []) ⟨hx, hb, hml, hown, hts⟩ (c_X9_within l D cI cJ cZ cB H.size a0 48 57 _ rfl) ⟨va_cnB (host := "DryIceLane") 3 hts gX5_isDigit_X9_within_n42 rfl rfl rfl (hG.1.1 (.methodLinkNest RX5 42 yX9_within "DryIceLane") (by decide +kernel)) w1 (by decide +kernel) ⟨Nat.le_of_ble_eq_true rfl, Nat.le_of_ble_eq_true rfl⟩, w2, trivial⟩ hK hG hW.2.2 (xsubQ hW hA [] rfl (by decide)) rfl hl.1 rfl (Nat.le_of_ble_eq_true rfl) dX5_isDigit_5 ⟨Nat.le_of_ble_eq_true rfl, Nat.le_of_ble_eq_true rfl⟩)) (fun r1 hq => ?_)
  subst hq
  have hF : f_X5_isDigit a0 = f_X9_within a0 48 57 := by
    rw [f_X5_isDigit]
  obtain rfl : f_X9_within a0 48 57 = o := hF.symm.trans ho
  exact W.zret (v := bi (f_X9_within a0 48 57)) hx hb hrt (bi_nar _) (fun t ht hM => ⟨_, rfl, rfl, ht.trans hH⟩) (fun q h => by cases h) dX5_isDigit_8 hlocks

def f_X5_mostDegrees (qb : Bool) : Int32 :=
  if qb = true then
    40
  else
    50
set_option maxHeartbeats 4000000 in
set_option maxRecDepth 100000 in
theorem c_X5_mostDegrees (l : Launch) (D : va_G) (cI cJ cZ cB : ClassId) (sz : Nat) (aQ : Nat) (aQd : Nat) (aQo : Nat) (ql : Int32) (qs : Int32) (qn : Int32) (qd : Int32) (qb : Bool) (o : Int32) (ho : f_X5_mostDegrees qb = o) : Met l yX5_mostDegrees wsX5_mostDegrees ({ frames := 0, cells := 0, slots := 0, locals := 0 } : Room) (xPre D (xT cI cJ cZ cB) [.ref aQ] [(aQ, .inr (5, [.ref aQd, .ref aQo, .int ql, .int qs, .int qn, .int qd, .int (bi qb)]))] sz) (vp_Si (fun r => r = o)) 0 0 (fun _ => False) := by
  refine xofW (Qc := fun _ => vp_Si (fun r => r = o)) (fr := fun _ _ => False) (cc := cX5_mostDegrees) (maxL := 1) (ret := (some .int)) (by decide) rfl (Nat.le_of_ble_eq_true rfl) ?_
  intro p e s m below meth c A ⟨hx, hb, hml, hown, hts⟩ hrt hlocks hnm hsz hK hW hA hG ls hl
  have hown : s.vm.findClass RX5 = some m.cls := hown
  have hl : lv_has ls 1 [(0, .ref aQ)] := hl
  obtain ⟨H, hH⟩ : ∃ H, H = s.heap := ⟨_, rfl⟩
  have hW : xW D A s.heap ([(aQ, .inr (5, [.ref aQd, .ref aQo, .int ql, .int qs, .int qn, .int qd, .int (bi qb)]))] ++ []) H [] := by rw [hH]; exact hW
  have w1 := hts (.fieldLink RX5 73 "DryIceLane$RouteReader" "below" "Z") (by decide +kernel)
  have hin5 : ∀ w ∈ u_ws RX5 TX5 7, w ∈ wsX5_mostDegrees := by decide +kernel
  rw [← hH]
  refine lv_aload_n hx hb dX5_mostDegrees_0 rfl (lv_at hl 0 rfl) ?_
  refine xget (ci := 5) (C := RX5) (T := TX5) (N := 7) hx hb hts hin5 hown hK hW.1 0 rfl rfl 6 (by decide) w1 rfl dX5_mostDegrees_1 ?_
  refine xb_eq (tgt := 12) hx hb dX5_mostDegrees_4 (by decide) (fun c1 => ?_) (fun c1 => ?_)
  · skip
    refine lv_bipush (v := 50) hx hb dX5_mostDegrees_12 (by decide) ?_
    have hF : f_X5_mostDegrees qb = 50 := by
      rw [f_X5_mostDegrees, if_neg c1]
    obtain rfl : 50 = o := hF.symm.trans ho
    exact W.iret (v := 50) hx hb hrt (fun t ht hM => ⟨_, rfl, rfl, ht.trans hH⟩) (fun q h => by cases h) dX5_mostDegrees_14 hlocks
  · skip
    refine lv_bipush (v := 40) hx hb dX5_mostDegrees_7 (by decide) ?_
    refine lv_goto (tgt := 14) hx hb dX5_mostDegrees_9 (by decide) ?_
    have hF : f_X5_mostDegrees qb = 40 := by
      rw [f_X5_mostDegrees, if_pos c1]
    obtain rfl : 40 = o := hF.symm.trans ho
    exact W.iret (v := 40) hx hb hrt (fun t ht hM => ⟨_, rfl, rfl, ht.trans hH⟩) (fun q h => by cases h) dX5_mostDegrees_14 hlocks

def f_X5_startsNumber (a0 : Int32) (a1 : Int32) (a2 : Int32) (a3 : Int32) : Bool × Int32 × Int32 :=
  if (f_X5_isDigit a0) = true then
    if (f_X9_within (a0 - 48) a1 a2) = true then
      (true, a3, a0 - 48)
    else
      (false, a3, a0 - 48)
  else
    (false, a3, a0 - 48)
set_option maxHeartbeats 4000000 in
set_option maxRecDepth 100000 in
theorem c_X5_startsNumber (l : Launch) (D : va_G) (cI cJ cZ cB : ClassId) (sz : Nat) (aQ : Nat) (a0 : Int32) (a1 : Int32) (a2 : Int32) (a3 : Int32) (aQd : Nat) (aQo : Nat) (ql : Int32) (qs : Int32) (qn : Int32) (qd : Int32) (qb : Bool) (o : Bool × Int32 × Int32) (ho : f_X5_startsNumber a0 a1 a2 a3 = o) : Met l yX5_startsNumber wsX5_startsNumber ({ frames := 2, cells := 0, slots := 0, locals := 42 } : Room) (xPre D (xT cI cJ cZ cB) [.ref aQ, .int a0, .int a1, .int a2, .int a3] [(aQ, .inr (5, [.ref aQd, .ref aQo, .int ql, .int qs, .int qn, .int qd, .int (bi qb)]))] sz) (va_Qi (fun r (_ : Unit) => r = bi o.1) (fun _ t => xB D ([(aQ, .inr (5, [.ref aQd, .ref aQo, .int ql, .int o.2.1, .int o.2.2, .int qd, .int (bi qb)]))]) (va_A [(aQ, .inr (5, [.ref aQd, .ref aQo, .int ql, .int qs, .int qn, .int qd, .int (bi qb)]))] sz) t) (va_A [(aQ, .inr (5, [.ref aQd, .ref aQo, .int ql, .int qs, .int qn, .int qd, .int (bi qb)]))] sz)) 0 0 (va_A [(aQ, .inr (5, [.ref aQd, .ref aQo, .int ql, .int qs, .int qn, .int qd, .int (bi qb)]))] sz) := by
  refine xofW (Qc := fun A0 => va_Qi (fun r (_ : Unit) => r = bi o.1) (fun _ t => xB D ([(aQ, .inr (5, [.ref aQd, .ref aQo, .int ql, .int o.2.1, .int o.2.2, .int qd, .int (bi qb)]))]) A0 t) A0) (fr := fun A => A) (cc := cX5_startsNumber) (maxL := 5) (ret := (some .boolean)) (by decide) rfl (Nat.le_of_ble_eq_true rfl) ?_
  intro p e s m below meth c A ⟨hx, hb, hml, hown, hts⟩ hrt hlocks hnm hsz hK hW hA hG ls hl
  have hown : s.vm.findClass RX5 = some m.cls := hown
  have hl : lv_has ls 5 [(0, .ref aQ), (1, .int a0), (2, .int a1), (3, .int a2), (4, .int a3)] := hl
  obtain ⟨H, hH⟩ : ∃ H, H = s.heap := ⟨_, rfl⟩
  have hW : xW D A s.heap ([(aQ, .inr (5, [.ref aQd, .ref aQo, .int ql, .int qs, .int qn, .int qd, .int (bi qb)]))] ++ []) H [] := by rw [hH]; exact hW
  have w1 := hts (.fieldLink RX5 64 "DryIceLane$RouteReader" "number" "I") (by decide +kernel)
  have hin5 : ∀ w ∈ u_ws RX5 TX5 7, w ∈ wsX5_startsNumber := by decide +kernel
  have w3 := hts (.fieldLink RX5 22 "DryIceLane$RouteReader" "state" "I") (by decide +kernel)
  have w4 := hts (.initialized RX9) (by decide +kernel)
  have w5 := hts (.static yX9_within) (by decide +kernel)
  rw [← hH]
  refine lv_aload_n hx hb dX5_startsNumber_0 rfl (lv_at hl 0 rfl) ?_
  refine lv_iload_n hx hb dX5_startsNumber_1 rfl (lv_at hl 1 rfl) ?_
  refine lv_bipush (v := 48) hx hb dX5_startsNumber_2 (by decide) ?_
  refine lv_isub hx hb dX5_startsNumber_4 ?_
  refine xput (ci := 5) (v := .int (a0 - 48)) (ty := .int) (C := RX5) (T := TX5) (N := 7) hx hb hts hin5 tyX5 tyX5_ok nmX5 hown hK hW 0 rfl (Nat.le_of_ble_eq_true rfl) rfl 4 (by decide) w1 rfl (by decide +kernel) rfl rfl (Nat.le_of_ble_eq_true rfl) dX5_startsNumber_5 (fun H locs hW => ?_)
  have hW : xW D A s.heap ([(aQ, .inr (5, [.ref aQd, .ref aQo, .int ql, .int qs, .int (a0 - 48), .int qd, .int (bi qb)]))] ++ []) H _ := hW
  refine lv_aload_n hx hb dX5_startsNumber_8 rfl (lv_at hl 0 rfl) ?_
  refine lv_iload hx hb dX5_startsNumber_9 (lv_at hl 4 rfl) ?_
  refine xput (ci := 5) (v := .int a3) (ty := .int) (C := RX5) (T := TX5) (N := 7) hx hb hts hin5 tyX5 tyX5_ok nmX5 hown hK hW 0 rfl (Nat.le_of_ble_eq_true rfl) rfl 3 (by decide) w3 rfl (by decide +kernel) rfl rfl (Nat.le_of_ble_eq_true rfl) dX5_startsNumber_11 (fun H locs hW => ?_)
  have hW : xW D A s.heap ([(aQ, .inr (5, [.ref aQd, .ref aQo, .int ql, .int a3, .int (a0 - 48), .int qd, .int (bi qb)]))] ++ []) H _ := hW
  refine lv_iload_n hx hb dX5_startsNumber_14 rfl (lv_at hl 1 rfl) ?_
  refine vp_callSi (va_Run.run (xrunS (As := [.int a0]) (rest := []) ⟨hx, hb, hml, hown, hts⟩ (c_X5_isDigit l D cI cJ cZ cB H.size a0 _ rfl) (cwS 1 hts gX5_startsNumber_X5_isDigit rfl rfl rfl (by decide +kernel) ⟨Nat.le_of_ble_eq_true rfl, Nat.le_of_ble_eq_true rfl⟩) hK hG hW.2.2 (xsubQ hW hA [] rfl (by decide)) rfl hl.1 rfl (Nat.le_of_ble_eq_true rfl) dX5_startsNumber_15 ⟨Nat.le_of_ble_eq_true rfl, Nat.le_of_ble_eq_true rfl⟩)) (fun r1 hq => ?_)
  subst hq
  refine xb_eq (tgt := 37) hx hb dX5_startsNumber_18 (by decide) (fun c1 => ?_) (fun c1 => ?_)
  · skip
    refine lv_iconst (v := 0) hx hb dX5_startsNumber_37 (by decide) ?_
    have hF : f_X5_startsNumber a0 a1 a2 a3 = (false, a3, a0 - 48) := by
      rw [f_X5_startsNumber, if_neg c1]
    obtain rfl : (false, a3, a0 - 48) = o := hF.symm.trans ho
    exact W.zret (v := bi false) hx hb hrt (bi_nar _) (fun t ht hM => ⟨⟨_, (), rfl, rfl, ⟨by rw [ht]; exact hW.1, hW.2.1⟩⟩, hW.2.2.F ht⟩) hW.2.2.2.2 dX5_startsNumber_38 hlocks
  · skip
    refine lv_aload_n hx hb dX5_startsNumber_21 rfl (lv_at hl 0 rfl) ?_
    refine xget (ci := 5) (C := RX5) (T := TX5) (N := 7) hx hb hts hin5 hown hK hW.1 0 rfl rfl 4 (by decide) w1 rfl dX5_startsNumber_22 ?_
    refine lv_iload_n hx hb dX5_startsNumber_25 rfl (lv_at hl 2 rfl) ?_
    refine lv_iload_n hx hb dX5_startsNumber_26 rfl (lv_at hl 3 rfl) ?_
    refine vp_callSi (va_Run.run (xrunSN (As := [.int (a0 - 48), .int a1, .int a2]) (rest := []) ⟨hx, hb, hml, hown, hts⟩ (c_X9_within l D cI cJ cZ cB H.size (a0 - 48) a1 a2 _ rfl) ⟨va_cnB (host := "DryIceLane") 3 hts gX5_startsNumber_X9_within_n42 rfl rfl rfl (hG.1.1 (.methodLinkNest RX5 42 yX9_within "DryIceLane") (by decide +kernel)) w4 (by decide +kernel) ⟨Nat.le_of_ble_eq_true rfl, Nat.le_of_ble_eq_true rfl⟩, w5, trivial⟩ hK hG hW.2.2 (xsubQ hW hA [] rfl (by decide)) rfl hl.1 rfl (Nat.le_of_ble_eq_true rfl) dX5_startsNumber_27 ⟨Nat.le_of_ble_eq_true rfl, Nat.le_of_ble_eq_true rfl⟩)) (fun r2 hq => ?_)
    subst hq
    refine xb_eq (tgt := 37) hx hb dX5_startsNumber_30 (by decide) (fun c2 => ?_) (fun c2 => ?_)
    · skip
      refine lv_iconst (v := 0) hx hb dX5_startsNumber_37 (by decide) ?_
      have hF : f_X5_startsNumber a0 a1 a2 a3 = (false, a3, a0 - 48) := by
        rw [f_X5_startsNumber, if_pos c1, if_neg c2]
      obtain rfl : (false, a3, a0 - 48) = o := hF.symm.trans ho
      exact W.zret (v := bi false) hx hb hrt (bi_nar _) (fun t ht hM => ⟨⟨_, (), rfl, rfl, ⟨by rw [ht]; exact hW.1, hW.2.1⟩⟩, hW.2.2.F ht⟩) hW.2.2.2.2 dX5_startsNumber_38 hlocks
    · skip
      refine lv_iconst (v := 1) hx hb dX5_startsNumber_33 (by decide) ?_
      refine lv_goto (tgt := 38) hx hb dX5_startsNumber_34 (by decide) ?_
      have hF : f_X5_startsNumber a0 a1 a2 a3 = (true, a3, a0 - 48) := by
        rw [f_X5_startsNumber, if_pos c1, if_pos c2]
      obtain rfl : (true, a3, a0 - 48) = o := hF.symm.trans ho
      exact W.zret (v := bi true) hx hb hrt (bi_nar _) (fun t ht hM => ⟨⟨_, (), rfl, rfl, ⟨by rw [ht]; exact hW.1, hW.2.1⟩⟩, hW.2.2.F ht⟩) hW.2.2.2.2 dX5_startsNumber_38 hlocks

def f_X5_continuesNumber (a0 : Int32) (a1 : Int32) (qn : Int32) : Bool × Int32 :=
  if (f_X5_isDigit a0) = true then
    if qn = 0 then
      (false, qn)
    else
      if a1 < (((qn * 10) + a0) - 48) then
        (false, ((qn * 10) + a0) - 48)
      else
        (true, ((qn * 10) + a0) - 48)
  else
    (false, qn)
set_option maxHeartbeats 4000000 in
set_option maxRecDepth 100000 in
theorem c_X5_continuesNumber (l : Launch) (D : va_G) (cI cJ cZ cB : ClassId) (sz : Nat) (aQ : Nat) (a0 : Int32) (a1 : Int32) (aQd : Nat) (aQo : Nat) (ql : Int32) (qs : Int32) (qn : Int32) (qd : Int32) (qb : Bool) (o : Bool × Int32) (ho : f_X5_continuesNumber a0 a1 qn = o) : Met l yX5_continuesNumber wsX5_continuesNumber ({ frames := 2, cells := 0, slots := 0, locals := 42 } : Room) (xPre D (xT cI cJ cZ cB) [.ref aQ, .int a0, .int a1] [(aQ, .inr (5, [.ref aQd, .ref aQo, .int ql, .int qs, .int qn, .int qd, .int (bi qb)]))] sz) (va_Qi (fun r (_ : Unit) => r = bi o.1) (fun _ t => xB D ([(aQ, .inr (5, [.ref aQd, .ref aQo, .int ql, .int qs, .int o.2, .int qd, .int (bi qb)]))]) (va_A [(aQ, .inr (5, [.ref aQd, .ref aQo, .int ql, .int qs, .int qn, .int qd, .int (bi qb)]))] sz) t) (va_A [(aQ, .inr (5, [.ref aQd, .ref aQo, .int ql, .int qs, .int qn, .int qd, .int (bi qb)]))] sz)) 0 0 (va_A [(aQ, .inr (5, [.ref aQd, .ref aQo, .int ql, .int qs, .int qn, .int qd, .int (bi qb)]))] sz) := by
  refine xofW (Qc := fun A0 => va_Qi (fun r (_ : Unit) => r = bi o.1) (fun _ t => xB D ([(aQ, .inr (5, [.ref aQd, .ref aQo, .int ql, .int qs, .int o.2, .int qd, .int (bi qb)]))]) A0 t) A0) (fr := fun A => A) (cc := cX5_continuesNumber) (maxL := 3) (ret := (some .boolean)) (by decide) rfl (Nat.le_of_ble_eq_true rfl) ?_
  intro p e s m below meth c A ⟨hx, hb, hml, hown, hts⟩ hrt hlocks hnm hsz hK hW hA hG ls hl
  have hown : s.vm.findClass RX5 = some m.cls := hown
  have hl : lv_has ls 3 [(0, .ref aQ), (1, .int a0), (2, .int a1)] := hl
  obtain ⟨H, hH⟩ : ∃ H, H = s.heap := ⟨_, rfl⟩
  have hW : xW D A s.heap ([(aQ, .inr (5, [.ref aQd, .ref aQo, .int ql, .int qs, .int qn, .int qd, .int (bi qb)]))] ++ []) H [] := by rw [hH]; exact hW
  have w1 := hts (.fieldLink RX5 64 "DryIceLane$RouteReader" "number" "I") (by decide +kernel)
  have hin5 : ∀ w ∈ u_ws RX5 TX5 7, w ∈ wsX5_continuesNumber := by decide +kernel
  rw [← hH]
  refine lv_iload_n hx hb dX5_continuesNumber_0 rfl (lv_at hl 1 rfl) ?_
  refine vp_callSi (va_Run.run (xrunS (As := [.int a0]) (rest := []) ⟨hx, hb, hml, hown, hts⟩ (c_X5_isDigit l D cI cJ cZ cB H.size a0 _ rfl) (cwS 1 hts gX5_continuesNumber_X5_isDigit rfl rfl rfl (by decide +kernel) ⟨Nat.le_of_ble_eq_true rfl, Nat.le_of_ble_eq_true rfl⟩) hK hG hW.2.2 (xsubQ hW hA [] rfl (by decide)) rfl hl.1 rfl (Nat.le_of_ble_eq_true rfl) dX5_continuesNumber_1 ⟨Nat.le_of_ble_eq_true rfl, Nat.le_of_ble_eq_true rfl⟩)) (fun r1 hq => ?_)
  subst hq
  refine xb_eq (tgt := 14) hx hb dX5_continuesNumber_4 (by decide) (fun c1 => ?_) (fun c1 => ?_)
  · skip
    refine lv_iconst (v := 0) hx hb dX5_continuesNumber_14 (by decide) ?_
    have hF : f_X5_continuesNumber a0 a1 qn = (false, qn) := by
      rw [f_X5_continuesNumber, if_neg c1]
    obtain rfl : (false, qn) = o := hF.symm.trans ho
    exact W.zret (v := bi false) hx hb hrt (bi_nar _) (fun t ht hM => ⟨⟨_, (), rfl, rfl, ⟨by rw [ht]; exact hW.1, hW.2.1⟩⟩, hW.2.2.F ht⟩) hW.2.2.2.2 dX5_continuesNumber_15 hlocks
  · skip
    refine lv_aload_n hx hb dX5_continuesNumber_7 rfl (lv_at hl 0 rfl) ?_
    refine xget (ci := 5) (C := RX5) (T := TX5) (N := 7) hx hb hts hin5 hown hK hW.1 0 rfl rfl 4 (by decide) w1 rfl dX5_continuesNumber_8 ?_
    refine lv_if_ne (tgt := 16) hx hb dX5_continuesNumber_11 (by decide) (fun c2 => ?_) (fun c2 => ?_)
    · skip
      refine lv_aload_n hx hb dX5_continuesNumber_16 rfl (lv_at hl 0 rfl) ?_
      refine lv_aload_n hx hb dX5_continuesNumber_17 rfl (lv_at hl 0 rfl) ?_
      refine xget (ci := 5) (C := RX5) (T := TX5) (N := 7) hx hb hts hin5 hown hK hW.1 0 rfl rfl 4 (by decide) w1 rfl dX5_continuesNumber_18 ?_
      refine lv_bipush (v := 10) hx hb dX5_continuesNumber_21 (by decide) ?_
      refine lv_imul hx hb dX5_continuesNumber_23 ?_
      refine lv_iload_n hx hb dX5_continuesNumber_24 rfl (lv_at hl 1 rfl) ?_
      refine lv_iadd hx hb dX5_continuesNumber_25 ?_
      refine lv_bipush (v := 48) hx hb dX5_continuesNumber_26 (by decide) ?_
      refine lv_isub hx hb dX5_continuesNumber_28 ?_
      refine xput (ci := 5) (v := .int (((qn * 10) + a0) - 48)) (ty := .int) (C := RX5) (T := TX5) (N := 7) hx hb hts hin5 tyX5 tyX5_ok nmX5 hown hK hW 0 rfl (Nat.le_of_ble_eq_true rfl) rfl 4 (by decide) w1 rfl (by decide +kernel) rfl rfl (Nat.le_of_ble_eq_true rfl) dX5_continuesNumber_29 (fun H locs hW => ?_)
      have hW : xW D A s.heap ([(aQ, .inr (5, [.ref aQd, .ref aQo, .int ql, .int qs, .int (((qn * 10) + a0) - 48), .int qd, .int (bi qb)]))] ++ []) H _ := hW
      refine lv_aload_n hx hb dX5_continuesNumber_32 rfl (lv_at hl 0 rfl) ?_
      refine xget (ci := 5) (C := RX5) (T := TX5) (N := 7) hx hb hts hin5 hown hK hW.1 0 rfl rfl 4 (by decide) w1 rfl dX5_continuesNumber_33 ?_
      refine lv_iload_n hx hb dX5_continuesNumber_36 rfl (lv_at hl 2 rfl) ?_
      refine lv_icmp_gt (tgt := 44) hx hb dX5_continuesNumber_37 (by decide) (fun c3 => ?_) (fun c3 => ?_)
      · skip
        refine lv_iconst (v := 0) hx hb dX5_continuesNumber_44 (by decide) ?_
        have hF : f_X5_continuesNumber a0 a1 qn = (false, ((qn * 10) + a0) - 48) := by
          rw [f_X5_continuesNumber, if_pos c1, if_neg c2, if_pos c3]
        obtain rfl : (false, ((qn * 10) + a0) - 48) = o := hF.symm.trans ho
        exact W.zret (v := bi false) hx hb hrt (bi_nar _) (fun t ht hM => ⟨⟨_, (), rfl, rfl, ⟨by rw [ht]; exact hW.1, hW.2.1⟩⟩, hW.2.2.F ht⟩) hW.2.2.2.2 dX5_continuesNumber_45 hlocks
      · skip
        refine lv_iconst (v := 1) hx hb dX5_continuesNumber_40 (by decide) ?_
        refine lv_goto (tgt := 45) hx hb dX5_continuesNumber_41 (by decide) ?_
        have hF : f_X5_continuesNumber a0 a1 qn = (true, ((qn * 10) + a0) - 48) := by
          rw [f_X5_continuesNumber, if_pos c1, if_neg c2, if_neg c3]
        obtain rfl : (true, ((qn * 10) + a0) - 48) = o := hF.symm.trans ho
        exact W.zret (v := bi true) hx hb hrt (bi_nar _) (fun t ht hM => ⟨⟨_, (), rfl, rfl, ⟨by rw [ht]; exact hW.1, hW.2.1⟩⟩, hW.2.2.F ht⟩) hW.2.2.2.2 dX5_continuesNumber_45 hlocks
    · skip
      refine lv_iconst (v := 0) hx hb dX5_continuesNumber_14 (by decide) ?_
      have hF : f_X5_continuesNumber a0 a1 qn = (false, qn) := by
        rw [f_X5_continuesNumber, if_pos c1, if_pos c2]
      obtain rfl : (false, qn) = o := hF.symm.trans ho
      exact W.zret (v := bi false) hx hb hrt (bi_nar _) (fun t ht hM => ⟨⟨_, (), rfl, rfl, ⟨by rw [ht]; exact hW.1, hW.2.1⟩⟩, hW.2.2.F ht⟩) hW.2.2.2.2 dX5_continuesNumber_15 hlocks

def f_X5_endsDuration (qn : Int32) : Bool × Int32 × Int32 × Bool :=
  (true, 2, qn, false)
set_option maxHeartbeats 4000000 in
set_option maxRecDepth 100000 in
theorem c_X5_endsDuration (l : Launch) (D : va_G) (cI cJ cZ cB : ClassId) (sz : Nat) (aQ : Nat) (aQd : Nat) (aQo : Nat) (ql : Int32) (qs : Int32) (qn : Int32) (qd : Int32) (qb : Bool) (o : Bool × Int32 × Int32 × Bool) (ho : f_X5_endsDuration qn = o) : Met l yX5_endsDuration wsX5_endsDuration ({ frames := 0, cells := 0, slots := 0, locals := 0 } : Room) (xPre D (xT cI cJ cZ cB) [.ref aQ] [(aQ, .inr (5, [.ref aQd, .ref aQo, .int ql, .int qs, .int qn, .int qd, .int (bi qb)]))] sz) (va_Qi (fun r (_ : Unit) => r = bi o.1) (fun _ t => xB D ([(aQ, .inr (5, [.ref aQd, .ref aQo, .int ql, .int o.2.1, .int qn, .int o.2.2.1, .int (bi o.2.2.2)]))]) (va_A [(aQ, .inr (5, [.ref aQd, .ref aQo, .int ql, .int qs, .int qn, .int qd, .int (bi qb)]))] sz) t) (va_A [(aQ, .inr (5, [.ref aQd, .ref aQo, .int ql, .int qs, .int qn, .int qd, .int (bi qb)]))] sz)) 0 0 (va_A [(aQ, .inr (5, [.ref aQd, .ref aQo, .int ql, .int qs, .int qn, .int qd, .int (bi qb)]))] sz) := by
  refine xofW (Qc := fun A0 => va_Qi (fun r (_ : Unit) => r = bi o.1) (fun _ t => xB D ([(aQ, .inr (5, [.ref aQd, .ref aQo, .int ql, .int o.2.1, .int qn, .int o.2.2.1, .int (bi o.2.2.2)]))]) A0 t) A0) (fr := fun A => A) (cc := cX5_endsDuration) (maxL := 1) (ret := (some .boolean)) (by decide) rfl (Nat.le_of_ble_eq_true rfl) ?_
  intro p e s m below meth c A ⟨hx, hb, hml, hown, hts⟩ hrt hlocks hnm hsz hK hW hA hG ls hl
  have hown : s.vm.findClass RX5 = some m.cls := hown
  have hl : lv_has ls 1 [(0, .ref aQ)] := hl
  obtain ⟨H, hH⟩ : ∃ H, H = s.heap := ⟨_, rfl⟩
  have hW : xW D A s.heap ([(aQ, .inr (5, [.ref aQd, .ref aQo, .int ql, .int qs, .int qn, .int qd, .int (bi qb)]))] ++ []) H [] := by rw [hH]; exact hW
  have w1 := hts (.fieldLink RX5 64 "DryIceLane$RouteReader" "number" "I") (by decide +kernel)
  have hin5 : ∀ w ∈ u_ws RX5 TX5 7, w ∈ wsX5_endsDuration := by decide +kernel
  have w3 := hts (.fieldLink RX5 70 "DryIceLane$RouteReader" "duration" "I") (by decide +kernel)
  have w4 := hts (.fieldLink RX5 73 "DryIceLane$RouteReader" "below" "Z") (by decide +kernel)
  have w5 := hts (.fieldLink RX5 22 "DryIceLane$RouteReader" "state" "I") (by decide +kernel)
  rw [← hH]
  refine lv_aload_n hx hb dX5_endsDuration_0 rfl (lv_at hl 0 rfl) ?_
  refine lv_aload_n hx hb dX5_endsDuration_1 rfl (lv_at hl 0 rfl) ?_
  refine xget (ci := 5) (C := RX5) (T := TX5) (N := 7) hx hb hts hin5 hown hK hW.1 0 rfl rfl 4 (by decide) w1 rfl dX5_endsDuration_2 ?_
  refine xput (ci := 5) (v := .int qn) (ty := .int) (C := RX5) (T := TX5) (N := 7) hx hb hts hin5 tyX5 tyX5_ok nmX5 hown hK hW 0 rfl (Nat.le_of_ble_eq_true rfl) rfl 5 (by decide) w3 rfl (by decide +kernel) rfl rfl (Nat.le_of_ble_eq_true rfl) dX5_endsDuration_5 (fun H locs hW => ?_)
  have hW : xW D A s.heap ([(aQ, .inr (5, [.ref aQd, .ref aQo, .int ql, .int qs, .int qn, .int qn, .int (bi qb)]))] ++ []) H _ := hW
  refine lv_aload_n hx hb dX5_endsDuration_8 rfl (lv_at hl 0 rfl) ?_
  refine lv_iconst (v := 0) hx hb dX5_endsDuration_9 (by decide) ?_
  refine xput (ci := 5) (v := .int 0) (ty := .boolean) (C := RX5) (T := TX5) (N := 7) hx hb hts hin5 tyX5 tyX5_ok nmX5 hown hK hW 0 rfl (Nat.le_of_ble_eq_true rfl) rfl 6 (by decide) w4 rfl (by decide +kernel) rfl rfl (Nat.le_of_ble_eq_true rfl) dX5_endsDuration_10 (fun H locs hW => ?_)
  have hW : xW D A s.heap ([(aQ, .inr (5, [.ref aQd, .ref aQo, .int ql, .int qs, .int qn, .int qn, .int (bi false)]))] ++ []) H _ := hW
  refine lv_aload_n hx hb dX5_endsDuration_13 rfl (lv_at hl 0 rfl) ?_
  refine lv_iconst (v := 2) hx hb dX5_endsDuration_14 (by decide) ?_
  refine xput (ci := 5) (v := .int 2) (ty := .int) (C := RX5) (T := TX5) (N := 7) hx hb hts hin5 tyX5 tyX5_ok nmX5 hown hK hW 0 rfl (Nat.le_of_ble_eq_true rfl) rfl 3 (by decide) w5 rfl (by decide +kernel) rfl rfl (Nat.le_of_ble_eq_true rfl) dX5_endsDuration_15 (fun H locs hW => ?_)
  have hW : xW D A s.heap ([(aQ, .inr (5, [.ref aQd, .ref aQo, .int ql, .int 2, .int qn, .int qn, .int (bi false)]))] ++ []) H _ := hW
  refine lv_iconst (v := 1) hx hb dX5_endsDuration_18 (by decide) ?_
  have hF : f_X5_endsDuration qn = (true, 2, qn, false) := by
    rw [f_X5_endsDuration]
  obtain rfl : (true, 2, qn, false) = o := hF.symm.trans ho
  exact W.zret (v := bi true) hx hb hrt (bi_nar _) (fun t ht hM => ⟨⟨_, (), rfl, rfl, ⟨by rw [ht]; exact hW.1, hW.2.1⟩⟩, hW.2.2.F ht⟩) hW.2.2.2.2 dX5_endsDuration_19 hlocks

def f_X5_startsDegrees_k1 (qb : Bool) (o2_ : Bool × Int32 × Int32) : Bool × Int32 × Int32 × Bool :=
  (o2_.1, o2_.2.1, o2_.2.2, qb)
def f_X5_startsDegrees (a0 : Int32) (qn : Int32) (qb : Bool) : Bool × Int32 × Int32 × Bool :=
  if a0 = 45 then
    (true, 3, qn, true)
  else
    f_X5_startsDegrees_k1 qb (f_X5_startsNumber a0 0 (f_X5_mostDegrees qb) 4)
set_option maxHeartbeats 4000000 in
set_option maxRecDepth 100000 in
theorem c_X5_startsDegrees (l : Launch) (D : va_G) (cI cJ cZ cB : ClassId) (sz : Nat) (aQ : Nat) (a0 : Int32) (aQd : Nat) (aQo : Nat) (ql : Int32) (qs : Int32) (qn : Int32) (qd : Int32) (qb : Bool) (o : Bool × Int32 × Int32 × Bool) (ho : f_X5_startsDegrees a0 qn qb = o) : Met l yX5_startsDegrees wsX5_startsDegrees ({ frames := 3, cells := 0, slots := 0, locals := 66 } : Room) (xPre D (xT cI cJ cZ cB) [.ref aQ, .int a0] [(aQ, .inr (5, [.ref aQd, .ref aQo, .int ql, .int qs, .int qn, .int qd, .int (bi qb)]))] sz) (va_Qi (fun r (_ : Unit) => r = bi o.1) (fun _ t => xB D ([(aQ, .inr (5, [.ref aQd, .ref aQo, .int ql, .int o.2.1, .int o.2.2.1, .int qd, .int (bi o.2.2.2)]))]) (va_A [(aQ, .inr (5, [.ref aQd, .ref aQo, .int ql, .int qs, .int qn, .int qd, .int (bi qb)]))] sz) t) (va_A [(aQ, .inr (5, [.ref aQd, .ref aQo, .int ql, .int qs, .int qn, .int qd, .int (bi qb)]))] sz)) 0 0 (va_A [(aQ, .inr (5, [.ref aQd, .ref aQo, .int ql, .int qs, .int qn, .int qd, .int (bi qb)]))] sz) := by
  refine xofW (Qc := fun A0 => va_Qi (fun r (_ : Unit) => r = bi o.1) (fun _ t => xB D ([(aQ, .inr (5, [.ref aQd, .ref aQo, .int ql, .int o.2.1, .int o.2.2.1, .int qd, .int (bi o.2.2.2)]))]) A0 t) A0) (fr := fun A => A) (cc := cX5_startsDegrees) (maxL := 2) (ret := (some .boolean)) (by decide) rfl (Nat.le_of_ble_eq_true rfl) ?_
  intro p e s m below meth c A ⟨hx, hb, hml, hown, hts⟩ hrt hlocks hnm hsz hK hW hA hG ls hl
  have hown : s.vm.findClass RX5 = some m.cls := hown
  have hl : lv_has ls 2 [(0, .ref aQ), (1, .int a0)] := hl
  obtain ⟨H, hH⟩ : ∃ H, H = s.heap := ⟨_, rfl⟩
  have hW : xW D A s.heap ([(aQ, .inr (5, [.ref aQd, .ref aQo, .int ql, .int qs, .int qn, .int qd, .int (bi qb)]))] ++ []) H [] := by rw [hH]; exact hW
  have w1 := hts (.fieldLink RX5 73 "DryIceLane$RouteReader" "below" "Z") (by decide +kernel)
  have hin5 : ∀ w ∈ u_ws RX5 TX5 7, w ∈ wsX5_startsDegrees := by decide +kernel
  have w3 := hts (.fieldLink RX5 22 "DryIceLane$RouteReader" "state" "I") (by decide +kernel)
  rw [← hH]
  refine lv_iload_n hx hb dX5_startsDegrees_0 rfl (lv_at hl 1 rfl) ?_
  refine lv_bipush (v := 45) hx hb dX5_startsDegrees_1 (by decide) ?_
  refine lv_icmp_eq (tgt := 18) hx hb dX5_startsDegrees_3 (by decide) (fun c1 => ?_) (fun c1 => ?_)
  · skip
    refine lv_aload_n hx hb dX5_startsDegrees_18 rfl (lv_at hl 0 rfl) ?_
    refine lv_iconst (v := 1) hx hb dX5_startsDegrees_19 (by decide) ?_
    refine xput (ci := 5) (v := .int 1) (ty := .boolean) (C := RX5) (T := TX5) (N := 7) hx hb hts hin5 tyX5 tyX5_ok nmX5 hown hK hW 0 rfl (Nat.le_of_ble_eq_true rfl) rfl 6 (by decide) w1 rfl (by decide +kernel) rfl rfl (Nat.le_of_ble_eq_true rfl) dX5_startsDegrees_20 (fun H locs hW => ?_)
    have hW : xW D A s.heap ([(aQ, .inr (5, [.ref aQd, .ref aQo, .int ql, .int qs, .int qn, .int qd, .int (bi true)]))] ++ []) H _ := hW
    refine lv_aload_n hx hb dX5_startsDegrees_23 rfl (lv_at hl 0 rfl) ?_
    refine lv_iconst (v := 3) hx hb dX5_startsDegrees_24 (by decide) ?_
    refine xput (ci := 5) (v := .int 3) (ty := .int) (C := RX5) (T := TX5) (N := 7) hx hb hts hin5 tyX5 tyX5_ok nmX5 hown hK hW 0 rfl (Nat.le_of_ble_eq_true rfl) rfl 3 (by decide) w3 rfl (by decide +kernel) rfl rfl (Nat.le_of_ble_eq_true rfl) dX5_startsDegrees_25 (fun H locs hW => ?_)
    have hW : xW D A s.heap ([(aQ, .inr (5, [.ref aQd, .ref aQo, .int ql, .int 3, .int qn, .int qd, .int (bi true)]))] ++ []) H _ := hW
    refine lv_iconst (v := 1) hx hb dX5_startsDegrees_28 (by decide) ?_
    have hF : f_X5_startsDegrees a0 qn qb = (true, 3, qn, true) := by
      rw [f_X5_startsDegrees, if_pos c1]
    obtain rfl : (true, 3, qn, true) = o := hF.symm.trans ho
    exact W.zret (v := bi true) hx hb hrt (bi_nar _) (fun t ht hM => ⟨⟨_, (), rfl, rfl, ⟨by rw [ht]; exact hW.1, hW.2.1⟩⟩, hW.2.2.F ht⟩) hW.2.2.2.2 dX5_startsDegrees_29 hlocks
  · skip
    refine lv_aload_n hx hb dX5_startsDegrees_6 rfl (lv_at hl 0 rfl) ?_
    refine lv_iload_n hx hb dX5_startsDegrees_7 rfl (lv_at hl 1 rfl) ?_
    refine lv_iconst (v := 0) hx hb dX5_startsDegrees_8 (by decide) ?_
    refine lv_aload_n hx hb dX5_startsDegrees_9 rfl (lv_at hl 0 rfl) ?_
    refine vp_callSi (va_Run.run (xrunV (As := []) (rest := [.int 0, .int a0, .ref aQ]) ⟨hx, hb, hml, hown, hts⟩ (c_X5_mostDegrees l D cI cJ cZ cB H.size aQ aQd aQo ql qs qn qd qb _ rfl) (cwV 0 hts gX5_startsDegrees_X5_mostDegrees rfl rfl rfl (by decide +kernel) ⟨Nat.le_of_ble_eq_true rfl, Nat.le_of_ble_eq_true rfl⟩) hK hG hW.2.2 (xsubQ hW hA [0] rfl (by decide)) (va_recv hK hW.1 (ci := 5) (q0 := 0) rfl rfl) rfl hl.1 rfl (Nat.le_of_ble_eq_true rfl) dX5_startsDegrees_10 ⟨Nat.le_of_ble_eq_true rfl, Nat.le_of_ble_eq_true rfl⟩)) (fun r1 hq => ?_)
    subst hq
    refine lv_iconst (v := 4) hx hb dX5_startsDegrees_13 (by decide) ?_
    obtain ⟨o2_, eo2_⟩ : ∃ z9, f_X5_startsNumber a0 0 (f_X5_mostDegrees qb) 4 = z9 := ⟨_, rfl⟩
    refine xQi (wr := []) hW hA [0] [] rfl rfl (by decide) (by decide) (by decide) (xrunV (As := [.int a0, .int 0, .int (f_X5_mostDegrees qb), .int 4]) (rest := []) ⟨hx, hb, hml, hown, hts⟩ (c_X5_startsNumber l D cI cJ cZ cB H.size aQ a0 0 (f_X5_mostDegrees qb) 4 aQd aQo ql qs qn qd qb o2_ eo2_) (cwV 4 hts gX5_startsDegrees_X5_startsNumber rfl rfl rfl (by decide +kernel) ⟨Nat.le_of_ble_eq_true rfl, Nat.le_of_ble_eq_true rfl⟩) hK hG hW.2.2 (xsubQ hW hA [0] rfl (by decide)) (va_recv hK hW.1 (ci := 5) (q0 := 0) rfl rfl) rfl hl.1 rfl (Nat.le_of_ble_eq_true rfl) dX5_startsDegrees_14 ⟨Nat.le_of_ble_eq_true rfl, Nat.le_of_ble_eq_true rfl⟩) (fun r3 _ H locs hq hW => ?_)
    subst hq
    have hW : xW D A s.heap ([(aQ, .inr (5, [.ref aQd, .ref aQo, .int ql, .int o2_.2.1, .int o2_.2.2, .int qd, .int (bi qb)]))] ++ []) H _ := hW
    have hF : f_X5_startsDegrees a0 qn qb = f_X5_startsDegrees_k1 qb o2_ := by
      rw [f_X5_startsDegrees, if_neg c1, eo2_]
    have hK1 := hF.symm.trans ho
    have hF : f_X5_startsDegrees_k1 qb o2_ = (o2_.1, o2_.2.1, o2_.2.2, qb) := by
      rw [f_X5_startsDegrees_k1]
    obtain rfl : (o2_.1, o2_.2.1, o2_.2.2, qb) = o := hF.symm.trans hK1
    exact W.zret (v := bi o2_.1) hx hb hrt (bi_nar _) (fun t ht hM => ⟨⟨_, (), rfl, rfl, ⟨by rw [ht]; exact hW.1, hW.2.1⟩⟩, hW.2.2.F ht⟩) hW.2.2.2.2 dX5_startsDegrees_17 hlocks

def f_X5_endLeg (ql : Int32) (qn : Int32) (qd : Int32) (qb : Bool) (qdf : Nat → Int32) (qof : Nat → Int32) : Bool × Int32 × Int32 × (Nat → Int32) × (Nat → Int32) :=
  if 20 ≤ ql then
    (true, ql, 0, qdf, qof)
  else
    if qb = true then
      (true, ql + 1, 0, upd qdf ql.toNatClampNeg qd, upd qof ql.toNatClampNeg ((-qn) * 100))
    else
      (true, ql + 1, 0, upd qdf ql.toNatClampNeg qd, upd qof ql.toNatClampNeg (qn * 100))
set_option maxHeartbeats 4000000 in
set_option maxRecDepth 100000 in
theorem c_X5_endLeg (l : Launch) (D : va_G) (cI cJ cZ cB : ClassId) (sz : Nat) (aQ : Nat) (aQd : Nat) (aQo : Nat) (ql : Int32) (qs : Int32) (qn : Int32) (qd : Int32) (qb : Bool) (qdf : Nat → Int32) (qof : Nat → Int32) (hql : okC ql 20) (o : Bool × Int32 × Int32 × (Nat → Int32) × (Nat → Int32)) (ho : f_X5_endLeg ql qn qd qb qdf qof = o) : Met l yX5_endLeg wsX5_endLeg ({ frames := 0, cells := 0, slots := 0, locals := 0 } : Room) (xPre D (xT cI cJ cZ cB) [.ref aQ] [(aQ, .inr (5, [.ref aQd, .ref aQo, .int ql, .int qs, .int qn, .int qd, .int (bi qb)])), (aQd, .inl (cI, 20, .inl qdf)), (aQo, .inl (cI, 20, .inl qof))] sz) (va_Qi (fun r (_ : Unit) => r = bi o.1) (fun _ t => xB D ([(aQ, .inr (5, [.ref aQd, .ref aQo, .int o.2.1, .int o.2.2.1, .int qn, .int qd, .int (bi qb)])), (aQd, .inl (cI, 20, .inl o.2.2.2.1)), (aQo, .inl (cI, 20, .inl o.2.2.2.2))]) (va_A [(aQ, .inr (5, [.ref aQd, .ref aQo, .int ql, .int qs, .int qn, .int qd, .int (bi qb)])), (aQd, .inl (cI, 20, .inl qdf)), (aQo, .inl (cI, 20, .inl qof))] sz) t) (va_A [(aQ, .inr (5, [.ref aQd, .ref aQo, .int ql, .int qs, .int qn, .int qd, .int (bi qb)])), (aQd, .inl (cI, 20, .inl qdf)), (aQo, .inl (cI, 20, .inl qof))] sz)) 0 0 (va_A [(aQ, .inr (5, [.ref aQd, .ref aQo, .int ql, .int qs, .int qn, .int qd, .int (bi qb)])), (aQd, .inl (cI, 20, .inl qdf)), (aQo, .inl (cI, 20, .inl qof))] sz) := by
  refine xofW (Qc := fun A0 => va_Qi (fun r (_ : Unit) => r = bi o.1) (fun _ t => xB D ([(aQ, .inr (5, [.ref aQd, .ref aQo, .int o.2.1, .int o.2.2.1, .int qn, .int qd, .int (bi qb)])), (aQd, .inl (cI, 20, .inl o.2.2.2.1)), (aQo, .inl (cI, 20, .inl o.2.2.2.2))]) A0 t) A0) (fr := fun A => A) (cc := cX5_endLeg) (maxL := 1) (ret := (some .boolean)) (by decide) rfl (Nat.le_of_ble_eq_true rfl) ?_
  intro p e s m below meth c A ⟨hx, hb, hml, hown, hts⟩ hrt hlocks hnm hsz hK hW hA hG ls hl
  have hown : s.vm.findClass RX5 = some m.cls := hown
  have hl : lv_has ls 1 [(0, .ref aQ)] := hl
  obtain ⟨H, hH⟩ : ∃ H, H = s.heap := ⟨_, rfl⟩
  have hW : xW D A s.heap ([(aQ, .inr (5, [.ref aQd, .ref aQo, .int ql, .int qs, .int qn, .int qd, .int (bi qb)])), (aQd, .inl (cI, 20, .inl qdf)), (aQo, .inl (cI, 20, .inl qof))] ++ []) H [] := by rw [hH]; exact hW
  have w1 := hts (.fieldLink RX5 18 "DryIceLane$RouteReader" "legs" "I") (by decide +kernel)
  have hin5 : ∀ w ∈ u_ws RX5 TX5 7, w ∈ wsX5_endLeg := by decide +kernel
  have w3 := hts (.fieldLink RX5 22 "DryIceLane$RouteReader" "state" "I") (by decide +kernel)
  have w4 := hts (.fieldLink RX5 11 "DryIceLane$RouteReader" "durations" "[I") (by decide +kernel)
  have w5 := hts (.fieldLink RX5 70 "DryIceLane$RouteReader" "duration" "I") (by decide +kernel)
  have w6 := hts (.fieldLink RX5 15 "DryIceLane$RouteReader" "outsides" "[I") (by decide +kernel)
  have w7 := hts (.fieldLink RX5 73 "DryIceLane$RouteReader" "below" "Z") (by decide +kernel)
  have w8 := hts (.fieldLink RX5 64 "DryIceLane$RouteReader" "number" "I") (by decide +kernel)
  rw [← hH]
  refine lv_aload_n hx hb dX5_endLeg_0 rfl (lv_at hl 0 rfl) ?_
  refine xget (ci := 5) (C := RX5) (T := TX5) (N := 7) hx hb hts hin5 hown hK hW.1 0 rfl rfl 2 (by decide) w1 rfl dX5_endLeg_1 ?_
  refine lv_bipush (v := 20) hx hb dX5_endLeg_4 (by decide) ?_
  refine lv_icmp_ge (tgt := 63) hx hb dX5_endLeg_6 (by decide) (fun c1 => ?_) (fun c1 => ?_)
  · skip
    refine lv_aload_n hx hb dX5_endLeg_63 rfl (lv_at hl 0 rfl) ?_
    refine lv_iconst (v := 0) hx hb dX5_endLeg_64 (by decide) ?_
    refine xput (ci := 5) (v := .int 0) (ty := .int) (C := RX5) (T := TX5) (N := 7) hx hb hts hin5 tyX5 tyX5_ok nmX5 hown hK hW 0 rfl (Nat.le_of_ble_eq_true rfl) rfl 3 (by decide) w3 rfl (by decide +kernel) rfl rfl (Nat.le_of_ble_eq_true rfl) dX5_endLeg_65 (fun H locs hW => ?_)
    have hW : xW D A s.heap ([(aQ, .inr (5, [.ref aQd, .ref aQo, .int ql, .int 0, .int qn, .int qd, .int (bi qb)])), (aQd, .inl (cI, 20, .inl qdf)), (aQo, .inl (cI, 20, .inl qof))] ++ []) H _ := hW
    refine lv_iconst (v := 1) hx hb dX5_endLeg_68 (by decide) ?_
    have hF : f_X5_endLeg ql qn qd qb qdf qof = (true, ql, 0, qdf, qof) := by
      rw [f_X5_endLeg, if_pos c1]
    obtain rfl : (true, ql, 0, qdf, qof) = o := hF.symm.trans ho
    exact W.zret (v := bi true) hx hb hrt (bi_nar _) (fun t ht hM => ⟨⟨_, (), rfl, rfl, ⟨by rw [ht]; exact hW.1, hW.2.1⟩⟩, hW.2.2.F ht⟩) hW.2.2.2.2 dX5_endLeg_69 hlocks
  · skip
    refine lv_aload_n hx hb dX5_endLeg_9 rfl (lv_at hl 0 rfl) ?_
    refine xget (ci := 5) (C := RX5) (T := TX5) (N := 7) hx hb hts hin5 hown hK hW.1 0 rfl rfl 0 (by decide) w4 rfl dX5_endLeg_10 ?_
    refine lv_aload_n hx hb dX5_endLeg_13 rfl (lv_at hl 0 rfl) ?_
    refine xget (ci := 5) (C := RX5) (T := TX5) (N := 7) hx hb hts hin5 hown hK hW.1 0 rfl rfl 2 (by decide) w1 rfl dX5_endLeg_14 ?_
    refine lv_aload_n hx hb dX5_endLeg_17 rfl (lv_at hl 0 rfl) ?_
    refine xget (ci := 5) (C := RX5) (T := TX5) (N := 7) hx hb hts hin5 hown hK hW.1 0 rfl rfl 5 (by decide) w5 rfl dX5_endLeg_18 ?_
    refine xiast hx hb hK hW 1 0 rfl (Nat.le_of_ble_eq_true rfl) rfl (vp_in_iff.mpr ⟨hql.1, xnle.mp c1⟩) ql.toNatClampNeg rfl dX5_endLeg_21 (fun H locs hW => ?_)
    have hW : xW D A s.heap ([(aQ, .inr (5, [.ref aQd, .ref aQo, .int ql, .int qs, .int qn, .int qd, .int (bi qb)])), (aQd, .inl (cI, 20, .inl (upd qdf ql.toNatClampNeg qd))), (aQo, .inl (cI, 20, .inl qof))] ++ []) H _ := hW
    refine lv_aload_n hx hb dX5_endLeg_22 rfl (lv_at hl 0 rfl) ?_
    refine xget (ci := 5) (C := RX5) (T := TX5) (N := 7) hx hb hts hin5 hown hK hW.1 0 rfl rfl 1 (by decide) w6 rfl dX5_endLeg_23 ?_
    refine lv_aload_n hx hb dX5_endLeg_26 rfl (lv_at hl 0 rfl) ?_
    refine xget (ci := 5) (C := RX5) (T := TX5) (N := 7) hx hb hts hin5 hown hK hW.1 0 rfl rfl 2 (by decide) w1 rfl dX5_endLeg_27 ?_
    refine lv_aload_n hx hb dX5_endLeg_30 rfl (lv_at hl 0 rfl) ?_
    refine xget (ci := 5) (C := RX5) (T := TX5) (N := 7) hx hb hts hin5 hown hK hW.1 0 rfl rfl 6 (by decide) w7 rfl dX5_endLeg_31 ?_
    refine xb_eq (tgt := 45) hx hb dX5_endLeg_34 (by decide) (fun c2 => ?_) (fun c2 => ?_)
    · skip
      refine lv_aload_n hx hb dX5_endLeg_45 rfl (lv_at hl 0 rfl) ?_
      refine xget (ci := 5) (C := RX5) (T := TX5) (N := 7) hx hb hts hin5 hown hK hW.1 0 rfl rfl 4 (by decide) w8 rfl dX5_endLeg_46 ?_
      refine lv_bipush (v := 100) hx hb dX5_endLeg_49 (by decide) ?_
      refine lv_imul hx hb dX5_endLeg_51 ?_
      refine xiast hx hb hK hW 2 0 rfl (Nat.le_of_ble_eq_true rfl) rfl (vp_in_iff.mpr ⟨hql.1, xnle.mp c1⟩) ql.toNatClampNeg rfl dX5_endLeg_52 (fun H locs hW => ?_)
      have hW : xW D A s.heap ([(aQ, .inr (5, [.ref aQd, .ref aQo, .int ql, .int qs, .int qn, .int qd, .int (bi qb)])), (aQd, .inl (cI, 20, .inl (upd qdf ql.toNatClampNeg qd))), (aQo, .inl (cI, 20, .inl (upd qof ql.toNatClampNeg (qn * 100))))] ++ []) H _ := hW
      refine lv_aload_n hx hb dX5_endLeg_53 rfl (lv_at hl 0 rfl) ?_
      refine lv_dup hx hb dX5_endLeg_54 rfl ?_
      refine xget (ci := 5) (C := RX5) (T := TX5) (N := 7) hx hb hts hin5 hown hK hW.1 0 rfl rfl 2 (by decide) w1 rfl dX5_endLeg_55 ?_
      refine lv_iconst (v := 1) hx hb dX5_endLeg_58 (by decide) ?_
      refine lv_iadd hx hb dX5_endLeg_59 ?_
      refine xput (ci := 5) (v := .int (ql + 1)) (ty := .int) (C := RX5) (T := TX5) (N := 7) hx hb hts hin5 tyX5 tyX5_ok nmX5 hown hK hW 0 rfl (Nat.le_of_ble_eq_true rfl) rfl 2 (by decide) w1 rfl (by decide +kernel) rfl rfl (Nat.le_of_ble_eq_true rfl) dX5_endLeg_60 (fun H locs hW => ?_)
      have hW : xW D A s.heap ([(aQ, .inr (5, [.ref aQd, .ref aQo, .int (ql + 1), .int qs, .int qn, .int qd, .int (bi qb)])), (aQd, .inl (cI, 20, .inl (upd qdf ql.toNatClampNeg qd))), (aQo, .inl (cI, 20, .inl (upd qof ql.toNatClampNeg (qn * 100))))] ++ []) H _ := hW
      refine lv_aload_n hx hb dX5_endLeg_63 rfl (lv_at hl 0 rfl) ?_
      refine lv_iconst (v := 0) hx hb dX5_endLeg_64 (by decide) ?_
      refine xput (ci := 5) (v := .int 0) (ty := .int) (C := RX5) (T := TX5) (N := 7) hx hb hts hin5 tyX5 tyX5_ok nmX5 hown hK hW 0 rfl (Nat.le_of_ble_eq_true rfl) rfl 3 (by decide) w3 rfl (by decide +kernel) rfl rfl (Nat.le_of_ble_eq_true rfl) dX5_endLeg_65 (fun H locs hW => ?_)
      have hW : xW D A s.heap ([(aQ, .inr (5, [.ref aQd, .ref aQo, .int (ql + 1), .int 0, .int qn, .int qd, .int (bi qb)])), (aQd, .inl (cI, 20, .inl (upd qdf ql.toNatClampNeg qd))), (aQo, .inl (cI, 20, .inl (upd qof ql.toNatClampNeg (qn * 100))))] ++ []) H _ := hW
      refine lv_iconst (v := 1) hx hb dX5_endLeg_68 (by decide) ?_
      have hF : f_X5_endLeg ql qn qd qb qdf qof = (true, ql + 1, 0, upd qdf ql.toNatClampNeg qd, upd qof ql.toNatClampNeg (qn * 100)) := by
        rw [f_X5_endLeg, if_neg c1, if_neg c2]
      obtain rfl : (true, ql + 1, 0, upd qdf ql.toNatClampNeg qd, upd qof ql.toNatClampNeg (qn * 100)) = o := hF.symm.trans ho
      exact W.zret (v := bi true) hx hb hrt (bi_nar _) (fun t ht hM => ⟨⟨_, (), rfl, rfl, ⟨by rw [ht]; exact hW.1, hW.2.1⟩⟩, hW.2.2.F ht⟩) hW.2.2.2.2 dX5_endLeg_69 hlocks
    · skip
      refine lv_aload_n hx hb dX5_endLeg_37 rfl (lv_at hl 0 rfl) ?_
      refine xget (ci := 5) (C := RX5) (T := TX5) (N := 7) hx hb hts hin5 hown hK hW.1 0 rfl rfl 4 (by decide) w8 rfl dX5_endLeg_38 ?_
      refine lv_ineg hx hb dX5_endLeg_41 ?_
      refine lv_goto (tgt := 49) hx hb dX5_endLeg_42 (by decide) ?_
      refine lv_bipush (v := 100) hx hb dX5_endLeg_49 (by decide) ?_
      refine lv_imul hx hb dX5_endLeg_51 ?_
      refine xiast hx hb hK hW 2 0 rfl (Nat.le_of_ble_eq_true rfl) rfl (vp_in_iff.mpr ⟨hql.1, xnle.mp c1⟩) ql.toNatClampNeg rfl dX5_endLeg_52 (fun H locs hW => ?_)
      have hW : xW D A s.heap ([(aQ, .inr (5, [.ref aQd, .ref aQo, .int ql, .int qs, .int qn, .int qd, .int (bi qb)])), (aQd, .inl (cI, 20, .inl (upd qdf ql.toNatClampNeg qd))), (aQo, .inl (cI, 20, .inl (upd qof ql.toNatClampNeg ((-qn) * 100))))] ++ []) H _ := hW
      refine lv_aload_n hx hb dX5_endLeg_53 rfl (lv_at hl 0 rfl) ?_
      refine lv_dup hx hb dX5_endLeg_54 rfl ?_
      refine xget (ci := 5) (C := RX5) (T := TX5) (N := 7) hx hb hts hin5 hown hK hW.1 0 rfl rfl 2 (by decide) w1 rfl dX5_endLeg_55 ?_
      refine lv_iconst (v := 1) hx hb dX5_endLeg_58 (by decide) ?_
      refine lv_iadd hx hb dX5_endLeg_59 ?_
      refine xput (ci := 5) (v := .int (ql + 1)) (ty := .int) (C := RX5) (T := TX5) (N := 7) hx hb hts hin5 tyX5 tyX5_ok nmX5 hown hK hW 0 rfl (Nat.le_of_ble_eq_true rfl) rfl 2 (by decide) w1 rfl (by decide +kernel) rfl rfl (Nat.le_of_ble_eq_true rfl) dX5_endLeg_60 (fun H locs hW => ?_)
      have hW : xW D A s.heap ([(aQ, .inr (5, [.ref aQd, .ref aQo, .int (ql + 1), .int qs, .int qn, .int qd, .int (bi qb)])), (aQd, .inl (cI, 20, .inl (upd qdf ql.toNatClampNeg qd))), (aQo, .inl (cI, 20, .inl (upd qof ql.toNatClampNeg ((-qn) * 100))))] ++ []) H _ := hW
      refine lv_aload_n hx hb dX5_endLeg_63 rfl (lv_at hl 0 rfl) ?_
      refine lv_iconst (v := 0) hx hb dX5_endLeg_64 (by decide) ?_
      refine xput (ci := 5) (v := .int 0) (ty := .int) (C := RX5) (T := TX5) (N := 7) hx hb hts hin5 tyX5 tyX5_ok nmX5 hown hK hW 0 rfl (Nat.le_of_ble_eq_true rfl) rfl 3 (by decide) w3 rfl (by decide +kernel) rfl rfl (Nat.le_of_ble_eq_true rfl) dX5_endLeg_65 (fun H locs hW => ?_)
      have hW : xW D A s.heap ([(aQ, .inr (5, [.ref aQd, .ref aQo, .int (ql + 1), .int 0, .int qn, .int qd, .int (bi qb)])), (aQd, .inl (cI, 20, .inl (upd qdf ql.toNatClampNeg qd))), (aQo, .inl (cI, 20, .inl (upd qof ql.toNatClampNeg ((-qn) * 100))))] ++ []) H _ := hW
      refine lv_iconst (v := 1) hx hb dX5_endLeg_68 (by decide) ?_
      have hF : f_X5_endLeg ql qn qd qb qdf qof = (true, ql + 1, 0, upd qdf ql.toNatClampNeg qd, upd qof ql.toNatClampNeg ((-qn) * 100)) := by
        rw [f_X5_endLeg, if_neg c1, if_pos c2]
      obtain rfl : (true, ql + 1, 0, upd qdf ql.toNatClampNeg qd, upd qof ql.toNatClampNeg ((-qn) * 100)) = o := hF.symm.trans ho
      exact W.zret (v := bi true) hx hb hrt (bi_nar _) (fun t ht hM => ⟨⟨_, (), rfl, rfl, ⟨by rw [ht]; exact hW.1, hW.2.1⟩⟩, hW.2.2.F ht⟩) hW.2.2.2.2 dX5_endLeg_69 hlocks

def f_X5_takes_k1 (ql : Int32) (qd : Int32) (qb : Bool) (qdf : Nat → Int32) (qof : Nat → Int32) (o1_ : Bool × Int32 × Int32) : Bool × Int32 × Int32 × Int32 × Int32 × Bool × (Nat → Int32) × (Nat → Int32) :=
  (o1_.1, ql, o1_.2.1, o1_.2.2, qd, qb, qdf, qof)
def f_X5_takes_k2 (ql : Int32) (qn : Int32) (qdf : Nat → Int32) (qof : Nat → Int32) (o4_ : Bool × Int32 × Int32 × Bool) : Bool × Int32 × Int32 × Int32 × Int32 × Bool × (Nat → Int32) × (Nat → Int32) :=
  (o4_.1, ql, o4_.2.1, qn, o4_.2.2.1, o4_.2.2.2, qdf, qof)
def f_X5_takes_k3 (ql : Int32) (qd : Int32) (qdf : Nat → Int32) (qof : Nat → Int32) (o6_ : Bool × Int32 × Int32 × Bool) : Bool × Int32 × Int32 × Int32 × Int32 × Bool × (Nat → Int32) × (Nat → Int32) :=
  (o6_.1, ql, o6_.2.1, o6_.2.2.1, qd, o6_.2.2.2, qdf, qof)
def f_X5_takes_k4 (ql : Int32) (qd : Int32) (qb : Bool) (qdf : Nat → Int32) (qof : Nat → Int32) (o9_ : Bool × Int32 × Int32) : Bool × Int32 × Int32 × Int32 × Int32 × Bool × (Nat → Int32) × (Nat → Int32) :=
  (o9_.1, ql, o9_.2.1, o9_.2.2, qd, qb, qdf, qof)
def f_X5_takes_k5 (qn : Int32) (qd : Int32) (qb : Bool) (o13_ : Bool × Int32 × Int32 × (Nat → Int32) × (Nat → Int32)) : Bool × Int32 × Int32 × Int32 × Int32 × Bool × (Nat → Int32) × (Nat → Int32) :=
  (o13_.1, o13_.2.1, o13_.2.2.1, qn, qd, qb, o13_.2.2.2.1, o13_.2.2.2.2)
def f_X5_takes (a0 : Int32) (ql : Int32) (qs : Int32) (qn : Int32) (qd : Int32) (qb : Bool) (qdf : Nat → Int32) (qof : Nat → Int32) : Bool × Int32 × Int32 × Int32 × Int32 × Bool × (Nat → Int32) × (Nat → Int32) :=
  if qs = 0 then
    f_X5_takes_k1 ql qd qb qdf qof (f_X5_startsNumber a0 1 600 1)
  else
    if qs = 1 then
      if a0 = 64 then
        f_X5_takes_k2 ql qn qdf qof (f_X5_endsDuration qn)
      else
        ((f_X5_continuesNumber a0 600 qn).1, ql, qs, (f_X5_continuesNumber a0 600 qn).2, qd, qb, qdf, qof)
    else
      if qs = 2 then
        f_X5_takes_k3 ql qd qdf qof (f_X5_startsDegrees a0 qn qb)
      else
        if qs = 3 then
          f_X5_takes_k4 ql qd qb qdf qof (f_X5_startsNumber a0 0 (f_X5_mostDegrees qb) 4)
        else
          if a0 = 44 then
            f_X5_takes_k5 qn qd qb (f_X5_endLeg ql qn qd qb qdf qof)
          else
            ((f_X5_continuesNumber a0 (f_X5_mostDegrees qb) qn).1, ql, qs, (f_X5_continuesNumber a0 (f_X5_mostDegrees qb) qn).2, qd, qb, qdf, qof)
set_option maxHeartbeats 4000000 in
set_option maxRecDepth 100000 in
theorem c_X5_takes (l : Launch) (D : va_G) (cI cJ cZ cB : ClassId) (sz : Nat) (aQ : Nat) (aQd : Nat) (aQo : Nat) (a0 : Int32) (ql : Int32) (qs : Int32) (qn : Int32) (qd : Int32) (qb : Bool) (qdf : Nat → Int32) (qof : Nat → Int32) (hql : okC ql 20) (o : Bool × Int32 × Int32 × Int32 × Int32 × Bool × (Nat → Int32) × (Nat → Int32)) (ho : f_X5_takes a0 ql qs qn qd qb qdf qof = o) : Met l yX5_takes wsX5_takes ({ frames := 4, cells := 0, slots := 0, locals := 87 } : Room) (xPre D (xT cI cJ cZ cB) [.ref aQ, .int a0] [(aQ, .inr (5, [.ref aQd, .ref aQo, .int ql, .int qs, .int qn, .int qd, .int (bi qb)])), (aQd, .inl (cI, 20, .inl qdf)), (aQo, .inl (cI, 20, .inl qof))] sz) (va_Qi (fun r (_ : Unit) => r = bi o.1) (fun _ t => xB D ([(aQ, .inr (5, [.ref aQd, .ref aQo, .int o.2.1, .int o.2.2.1, .int o.2.2.2.1, .int o.2.2.2.2.1, .int (bi o.2.2.2.2.2.1)])), (aQd, .inl (cI, 20, .inl o.2.2.2.2.2.2.1)), (aQo, .inl (cI, 20, .inl o.2.2.2.2.2.2.2))]) (va_A [(aQ, .inr (5, [.ref aQd, .ref aQo, .int ql, .int qs, .int qn, .int qd, .int (bi qb)])), (aQd, .inl (cI, 20, .inl qdf)), (aQo, .inl (cI, 20, .inl qof))] sz) t) (va_A [(aQ, .inr (5, [.ref aQd, .ref aQo, .int ql, .int qs, .int qn, .int qd, .int (bi qb)])), (aQd, .inl (cI, 20, .inl qdf)), (aQo, .inl (cI, 20, .inl qof))] sz)) 0 0 (va_A [(aQ, .inr (5, [.ref aQd, .ref aQo, .int ql, .int qs, .int qn, .int qd, .int (bi qb)])), (aQd, .inl (cI, 20, .inl qdf)), (aQo, .inl (cI, 20, .inl qof))] sz) := by
  refine xofW (Qc := fun A0 => va_Qi (fun r (_ : Unit) => r = bi o.1) (fun _ t => xB D ([(aQ, .inr (5, [.ref aQd, .ref aQo, .int o.2.1, .int o.2.2.1, .int o.2.2.2.1, .int o.2.2.2.2.1, .int (bi o.2.2.2.2.2.1)])), (aQd, .inl (cI, 20, .inl o.2.2.2.2.2.2.1)), (aQo, .inl (cI, 20, .inl o.2.2.2.2.2.2.2))]) A0 t) A0) (fr := fun A => A) (cc := cX5_takes) (maxL := 2) (ret := (some .boolean)) (by decide) rfl (Nat.le_of_ble_eq_true rfl) ?_
  intro p e s m below meth c A ⟨hx, hb, hml, hown, hts⟩ hrt hlocks hnm hsz hK hW hA hG ls hl
  have hown : s.vm.findClass RX5 = some m.cls := hown
  have hl : lv_has ls 2 [(0, .ref aQ), (1, .int a0)] := hl
  obtain ⟨H, hH⟩ : ∃ H, H = s.heap := ⟨_, rfl⟩
  have hW : xW D A s.heap ([(aQ, .inr (5, [.ref aQd, .ref aQo, .int ql, .int qs, .int qn, .int qd, .int (bi qb)])), (aQd, .inl (cI, 20, .inl qdf)), (aQo, .inl (cI, 20, .inl qof))] ++ []) H [] := by rw [hH]; exact hW
  have w1 := hts (.fieldLink RX5 22 "DryIceLane$RouteReader" "state" "I") (by decide +kernel)
  have hin5 : ∀ w ∈ u_ws RX5 TX5 7, w ∈ wsX5_takes := by decide +kernel
  rw [← hH]
  refine lv_aload_n hx hb dX5_takes_0 rfl (lv_at hl 0 rfl) ?_
  refine xget (ci := 5) (C := RX5) (T := TX5) (N := 7) hx hb hts hin5 hown hK hW.1 0 rfl rfl 3 (by decide) w1 rfl dX5_takes_1 ?_
  by_cases c1 : qs = 0
  · skip
    refine lv_tableIn (off := 32) (tgt := 36) hx hb dX5_takes_4 (by rw [c1]; decide) (by rw [c1]; decide) (by rw [c1]; rfl) (by decide) ?_
    refine lv_aload_n hx hb dX5_takes_36 rfl (lv_at hl 0 rfl) ?_
    refine lv_iload_n hx hb dX5_takes_37 rfl (lv_at hl 1 rfl) ?_
    refine lv_iconst (v := 1) hx hb dX5_takes_38 (by decide) ?_
    refine lv_sipush (v := 600) hx hb dX5_takes_39 (by decide) ?_
    refine lv_iconst (v := 1) hx hb dX5_takes_42 (by decide) ?_
    obtain ⟨o1_, eo1_⟩ : ∃ z9, f_X5_startsNumber a0 1 600 1 = z9 := ⟨_, rfl⟩
    refine xQi (wr := [(aQd, .inl (cI, 20, .inl qdf)), (aQo, .inl (cI, 20, .inl qof))]) hW hA [0] [1, 2] rfl rfl (by decide) (by decide) (by decide) (xrunV (As := [.int a0, .int 1, .int 600, .int 1]) (rest := []) ⟨hx, hb, hml, hown, hts⟩ (c_X5_startsNumber l D cI cJ cZ cB H.size aQ a0 1 600 1 aQd aQo ql qs qn qd qb o1_ eo1_) (cwV 4 hts gX5_takes_X5_startsNumber rfl rfl rfl (by decide +kernel) ⟨Nat.le_of_ble_eq_true rfl, Nat.le_of_ble_eq_true rfl⟩) hK hG hW.2.2 (xsubQ hW hA [0] rfl (by decide)) (va_recv hK hW.1 (ci := 5) (q0 := 0) rfl rfl) rfl hl.1 rfl (Nat.le_of_ble_eq_true rfl) dX5_takes_43 ⟨Nat.le_of_ble_eq_true rfl, Nat.le_of_ble_eq_true rfl⟩) (fun r2 _ H locs hq hW => ?_)
    subst hq
    have hW : xW D A s.heap ([(aQd, .inl (cI, 20, .inl qdf)), (aQo, .inl (cI, 20, .inl qof)), (aQ, .inr (5, [.ref aQd, .ref aQo, .int ql, .int o1_.2.1, .int o1_.2.2, .int qd, .int (bi qb)]))] ++ []) H _ := hW
    have hF : f_X5_takes a0 ql qs qn qd qb qdf qof = f_X5_takes_k1 ql qd qb qdf qof o1_ := by
      rw [f_X5_takes, if_pos c1, eo1_]
    have hK1 := hF.symm.trans ho
    have hF : f_X5_takes_k1 ql qd qb qdf qof o1_ = (o1_.1, ql, o1_.2.1, o1_.2.2, qd, qb, qdf, qof) := by
      rw [f_X5_takes_k1]
    obtain rfl : (o1_.1, ql, o1_.2.1, o1_.2.2, qd, qb, qdf, qof) = o := hF.symm.trans hK1
    have hW := xW_perm (X' := [(aQ, .inr (5, [.ref aQd, .ref aQo, .int ql, .int o1_.2.1, .int o1_.2.2, .int qd, .int (bi qb)])), (aQd, .inl (cI, 20, .inl qdf)), (aQo, .inl (cI, 20, .inl qof))]) hW [2, 0, 1] rfl (by decide)
    exact W.zret (v := bi o1_.1) hx hb hrt (bi_nar _) (fun t ht hM => ⟨⟨_, (), rfl, rfl, ⟨by rw [ht]; exact hW.1, hW.2.1⟩⟩, hW.2.2.F ht⟩) hW.2.2.2.2 dX5_takes_46 hlocks
  · skip
    by_cases c2 : qs = 1
    · skip
      refine lv_tableIn (off := 43) (tgt := 47) hx hb dX5_takes_4 (by rw [c2]; decide) (by rw [c2]; decide) (by rw [c2]; rfl) (by decide) ?_
      refine lv_iload_n hx hb dX5_takes_47 rfl (lv_at hl 1 rfl) ?_
      refine lv_bipush (v := 64) hx hb dX5_takes_48 (by decide) ?_
      refine lv_icmp_ne (tgt := 60) hx hb dX5_takes_50 (by decide) (fun c3 => ?_) (fun c3 => ?_)
      · skip
        refine lv_aload_n hx hb dX5_takes_60 rfl (lv_at hl 0 rfl) ?_
        refine lv_iload_n hx hb dX5_takes_61 rfl (lv_at hl 1 rfl) ?_
        refine lv_sipush (v := 600) hx hb dX5_takes_62 (by decide) ?_
        refine xQi (wr := [(aQd, .inl (cI, 20, .inl qdf)), (aQo, .inl (cI, 20, .inl qof))]) hW hA [0] [1, 2] rfl rfl (by decide) (by decide) (by decide) (xrunV (As := [.int a0, .int 600]) (rest := []) ⟨hx, hb, hml, hown, hts⟩ (c_X5_continuesNumber l D cI cJ cZ cB H.size aQ a0 600 aQd aQo ql qs qn qd qb _ rfl) (cwV 2 hts gX5_takes_X5_continuesNumber rfl rfl rfl (by decide +kernel) ⟨Nat.le_of_ble_eq_true rfl, Nat.le_of_ble_eq_true rfl⟩) hK hG hW.2.2 (xsubQ hW hA [0] rfl (by decide)) (va_recv hK hW.1 (ci := 5) (q0 := 0) rfl rfl) rfl hl.1 rfl (Nat.le_of_ble_eq_true rfl) dX5_takes_65 ⟨Nat.le_of_ble_eq_true rfl, Nat.le_of_ble_eq_true rfl⟩) (fun r3 _ H locs hq hW => ?_)
        subst hq
        have hW : xW D A s.heap ([(aQd, .inl (cI, 20, .inl qdf)), (aQo, .inl (cI, 20, .inl qof)), (aQ, .inr (5, [.ref aQd, .ref aQo, .int ql, .int qs, .int (f_X5_continuesNumber a0 600 qn).2, .int qd, .int (bi qb)]))] ++ []) H _ := hW
        have hF : f_X5_takes a0 ql qs qn qd qb qdf qof = ((f_X5_continuesNumber a0 600 qn).1, ql, qs, (f_X5_continuesNumber a0 600 qn).2, qd, qb, qdf, qof) := by
          rw [f_X5_takes, if_neg c1, if_pos c2, if_neg c3]
        obtain rfl : ((f_X5_continuesNumber a0 600 qn).1, ql, qs, (f_X5_continuesNumber a0 600 qn).2, qd, qb, qdf, qof) = o := hF.symm.trans ho
        have hW := xW_perm (X' := [(aQ, .inr (5, [.ref aQd, .ref aQo, .int ql, .int qs, .int (f_X5_continuesNumber a0 600 qn).2, .int qd, .int (bi qb)])), (aQd, .inl (cI, 20, .inl qdf)), (aQo, .inl (cI, 20, .inl qof))]) hW [2, 0, 1] rfl (by decide)
        exact W.zret (v := bi (f_X5_continuesNumber a0 600 qn).1) hx hb hrt (bi_nar _) (fun t ht hM => ⟨⟨_, (), rfl, rfl, ⟨by rw [ht]; exact hW.1, hW.2.1⟩⟩, hW.2.2.F ht⟩) hW.2.2.2.2 dX5_takes_68 hlocks
      · skip
        refine lv_aload_n hx hb dX5_takes_53 rfl (lv_at hl 0 rfl) ?_
        obtain ⟨o4_, eo4_⟩ : ∃ z9, f_X5_endsDuration qn = z9 := ⟨_, rfl⟩
        refine xQi (wr := [(aQd, .inl (cI, 20, .inl qdf)), (aQo, .inl (cI, 20, .inl qof))]) hW hA [0] [1, 2] rfl rfl (by decide) (by decide) (by decide) (xrunV (As := []) (rest := []) ⟨hx, hb, hml, hown, hts⟩ (c_X5_endsDuration l D cI cJ cZ cB H.size aQ aQd aQo ql qs qn qd qb o4_ eo4_) (cwV 0 hts gX5_takes_X5_endsDuration rfl rfl rfl (by decide +kernel) ⟨Nat.le_of_ble_eq_true rfl, Nat.le_of_ble_eq_true rfl⟩) hK hG hW.2.2 (xsubQ hW hA [0] rfl (by decide)) (va_recv hK hW.1 (ci := 5) (q0 := 0) rfl rfl) rfl hl.1 rfl (Nat.le_of_ble_eq_true rfl) dX5_takes_54 ⟨Nat.le_of_ble_eq_true rfl, Nat.le_of_ble_eq_true rfl⟩) (fun r5 _ H locs hq hW => ?_)
        subst hq
        have hW : xW D A s.heap ([(aQd, .inl (cI, 20, .inl qdf)), (aQo, .inl (cI, 20, .inl qof)), (aQ, .inr (5, [.ref aQd, .ref aQo, .int ql, .int o4_.2.1, .int qn, .int o4_.2.2.1, .int (bi o4_.2.2.2)]))] ++ []) H _ := hW
        have hF : f_X5_takes a0 ql qs qn qd qb qdf qof = f_X5_takes_k2 ql qn qdf qof o4_ := by
          rw [f_X5_takes, if_neg c1, if_pos c2, if_pos c3, eo4_]
        have hK2 := hF.symm.trans ho
        refine lv_goto (tgt := 68) hx hb dX5_takes_57 (by decide) ?_
        have hF : f_X5_takes_k2 ql qn qdf qof o4_ = (o4_.1, ql, o4_.2.1, qn, o4_.2.2.1, o4_.2.2.2, qdf, qof) := by
          rw [f_X5_takes_k2]
        obtain rfl : (o4_.1, ql, o4_.2.1, qn, o4_.2.2.1, o4_.2.2.2, qdf, qof) = o := hF.symm.trans hK2
        have hW := xW_perm (X' := [(aQ, .inr (5, [.ref aQd, .ref aQo, .int ql, .int o4_.2.1, .int qn, .int o4_.2.2.1, .int (bi o4_.2.2.2)])), (aQd, .inl (cI, 20, .inl qdf)), (aQo, .inl (cI, 20, .inl qof))]) hW [2, 0, 1] rfl (by decide)
        exact W.zret (v := bi o4_.1) hx hb hrt (bi_nar _) (fun t ht hM => ⟨⟨_, (), rfl, rfl, ⟨by rw [ht]; exact hW.1, hW.2.1⟩⟩, hW.2.2.F ht⟩) hW.2.2.2.2 dX5_takes_68 hlocks
    · skip
      by_cases c3 : qs = 2
      · skip
        refine lv_tableIn (off := 65) (tgt := 69) hx hb dX5_takes_4 (by rw [c3]; decide) (by rw [c3]; decide) (by rw [c3]; rfl) (by decide) ?_
        refine lv_aload_n hx hb dX5_takes_69 rfl (lv_at hl 0 rfl) ?_
        refine lv_iload_n hx hb dX5_takes_70 rfl (lv_at hl 1 rfl) ?_
        obtain ⟨o6_, eo6_⟩ : ∃ z9, f_X5_startsDegrees a0 qn qb = z9 := ⟨_, rfl⟩
        refine xQi (wr := [(aQd, .inl (cI, 20, .inl qdf)), (aQo, .inl (cI, 20, .inl qof))]) hW hA [0] [1, 2] rfl rfl (by decide) (by decide) (by decide) (xrunV (As := [.int a0]) (rest := []) ⟨hx, hb, hml, hown, hts⟩ (c_X5_startsDegrees l D cI cJ cZ cB H.size aQ a0 aQd aQo ql qs qn qd qb o6_ eo6_) (cwV 1 hts gX5_takes_X5_startsDegrees rfl rfl rfl (by decide +kernel) ⟨Nat.le_of_ble_eq_true rfl, Nat.le_of_ble_eq_true rfl⟩) hK hG hW.2.2 (xsubQ hW hA [0] rfl (by decide)) (va_recv hK hW.1 (ci := 5) (q0 := 0) rfl rfl) rfl hl.1 rfl (Nat.le_of_ble_eq_true rfl) dX5_takes_71 ⟨Nat.le_of_ble_eq_true rfl, Nat.le_of_ble_eq_true rfl⟩) (fun r7 _ H locs hq hW => ?_)
        subst hq
        have hW : xW D A s.heap ([(aQd, .inl (cI, 20, .inl qdf)), (aQo, .inl (cI, 20, .inl qof)), (aQ, .inr (5, [.ref aQd, .ref aQo, .int ql, .int o6_.2.1, .int o6_.2.2.1, .int qd, .int (bi o6_.2.2.2)]))] ++ []) H _ := hW
        have hF : f_X5_takes a0 ql qs qn qd qb qdf qof = f_X5_takes_k3 ql qd qdf qof o6_ := by
          rw [f_X5_takes, if_neg c1, if_neg c2, if_pos c3, eo6_]
        have hK3 := hF.symm.trans ho
        have hF : f_X5_takes_k3 ql qd qdf qof o6_ = (o6_.1, ql, o6_.2.1, o6_.2.2.1, qd, o6_.2.2.2, qdf, qof) := by
          rw [f_X5_takes_k3]
        obtain rfl : (o6_.1, ql, o6_.2.1, o6_.2.2.1, qd, o6_.2.2.2, qdf, qof) = o := hF.symm.trans hK3
        have hW := xW_perm (X' := [(aQ, .inr (5, [.ref aQd, .ref aQo, .int ql, .int o6_.2.1, .int o6_.2.2.1, .int qd, .int (bi o6_.2.2.2)])), (aQd, .inl (cI, 20, .inl qdf)), (aQo, .inl (cI, 20, .inl qof))]) hW [2, 0, 1] rfl (by decide)
        exact W.zret (v := bi o6_.1) hx hb hrt (bi_nar _) (fun t ht hM => ⟨⟨_, (), rfl, rfl, ⟨by rw [ht]; exact hW.1, hW.2.1⟩⟩, hW.2.2.F ht⟩) hW.2.2.2.2 dX5_takes_74 hlocks
      · skip
        by_cases c4 : qs = 3
        · skip
          refine lv_tableIn (off := 71) (tgt := 75) hx hb dX5_takes_4 (by rw [c4]; decide) (by rw [c4]; decide) (by rw [c4]; rfl) (by decide) ?_
          refine lv_aload_n hx hb dX5_takes_75 rfl (lv_at hl 0 rfl) ?_
          refine lv_iload_n hx hb dX5_takes_76 rfl (lv_at hl 1 rfl) ?_
          refine lv_iconst (v := 0) hx hb dX5_takes_77 (by decide) ?_
          refine lv_aload_n hx hb dX5_takes_78 rfl (lv_at hl 0 rfl) ?_
          refine vp_callSi (va_Run.run (xrunV (As := []) (rest := [.int 0, .int a0, .ref aQ]) ⟨hx, hb, hml, hown, hts⟩ (c_X5_mostDegrees l D cI cJ cZ cB H.size aQ aQd aQo ql qs qn qd qb _ rfl) (cwV 0 hts gX5_takes_X5_mostDegrees rfl rfl rfl (by decide +kernel) ⟨Nat.le_of_ble_eq_true rfl, Nat.le_of_ble_eq_true rfl⟩) hK hG hW.2.2 (xsubQ hW hA [0] rfl (by decide)) (va_recv hK hW.1 (ci := 5) (q0 := 0) rfl rfl) rfl hl.1 rfl (Nat.le_of_ble_eq_true rfl) dX5_takes_79 ⟨Nat.le_of_ble_eq_true rfl, Nat.le_of_ble_eq_true rfl⟩)) (fun r8 hq => ?_)
          subst hq
          refine lv_iconst (v := 4) hx hb dX5_takes_82 (by decide) ?_
          obtain ⟨o9_, eo9_⟩ : ∃ z9, f_X5_startsNumber a0 0 (f_X5_mostDegrees qb) 4 = z9 := ⟨_, rfl⟩
          refine xQi (wr := [(aQd, .inl (cI, 20, .inl qdf)), (aQo, .inl (cI, 20, .inl qof))]) hW hA [0] [1, 2] rfl rfl (by decide) (by decide) (by decide) (xrunV (As := [.int a0, .int 0, .int (f_X5_mostDegrees qb), .int 4]) (rest := []) ⟨hx, hb, hml, hown, hts⟩ (c_X5_startsNumber l D cI cJ cZ cB H.size aQ a0 0 (f_X5_mostDegrees qb) 4 aQd aQo ql qs qn qd qb o9_ eo9_) (cwV 4 hts gX5_takes_X5_startsNumber rfl rfl rfl (by decide +kernel) ⟨Nat.le_of_ble_eq_true rfl, Nat.le_of_ble_eq_true rfl⟩) hK hG hW.2.2 (xsubQ hW hA [0] rfl (by decide)) (va_recv hK hW.1 (ci := 5) (q0 := 0) rfl rfl) rfl hl.1 rfl (Nat.le_of_ble_eq_true rfl) dX5_takes_83 ⟨Nat.le_of_ble_eq_true rfl, Nat.le_of_ble_eq_true rfl⟩) (fun r10 _ H locs hq hW => ?_)
          subst hq
          have hW : xW D A s.heap ([(aQd, .inl (cI, 20, .inl qdf)), (aQo, .inl (cI, 20, .inl qof)), (aQ, .inr (5, [.ref aQd, .ref aQo, .int ql, .int o9_.2.1, .int o9_.2.2, .int qd, .int (bi qb)]))] ++ []) H _ := hW
          have hF : f_X5_takes a0 ql qs qn qd qb qdf qof = f_X5_takes_k4 ql qd qb qdf qof o9_ := by
            rw [f_X5_takes, if_neg c1, if_neg c2, if_neg c3, if_pos c4, eo9_]
          have hK4 := hF.symm.trans ho
          have hF : f_X5_takes_k4 ql qd qb qdf qof o9_ = (o9_.1, ql, o9_.2.1, o9_.2.2, qd, qb, qdf, qof) := by
            rw [f_X5_takes_k4]
          obtain rfl : (o9_.1, ql, o9_.2.1, o9_.2.2, qd, qb, qdf, qof) = o := hF.symm.trans hK4
          have hW := xW_perm (X' := [(aQ, .inr (5, [.ref aQd, .ref aQo, .int ql, .int o9_.2.1, .int o9_.2.2, .int qd, .int (bi qb)])), (aQd, .inl (cI, 20, .inl qdf)), (aQo, .inl (cI, 20, .inl qof))]) hW [2, 0, 1] rfl (by decide)
          exact W.zret (v := bi o9_.1) hx hb hrt (bi_nar _) (fun t ht hM => ⟨⟨_, (), rfl, rfl, ⟨by rw [ht]; exact hW.1, hW.2.1⟩⟩, hW.2.2.F ht⟩) hW.2.2.2.2 dX5_takes_86 hlocks
        · skip
          refine lv_tableOut (tgt := 87) hx hb dX5_takes_4 (xsw qs 0 3 (fun k9 h9 => by rcases (show k9 = 0 ∨ k9 = 1 ∨ k9 = 2 ∨ k9 = 3 by omega) with rfl | rfl | rfl | rfl <;> first | exact xsne c1 (by decide) | exact xsne c2 (by decide) | exact xsne c3 (by decide) | exact xsne c4 (by decide))) (by decide) ?_
          refine lv_iload_n hx hb dX5_takes_87 rfl (lv_at hl 1 rfl) ?_
          refine lv_bipush (v := 44) hx hb dX5_takes_88 (by decide) ?_
          refine lv_icmp_ne (tgt := 100) hx hb dX5_takes_90 (by decide) (fun c5 => ?_) (fun c5 => ?_)
          · skip
            refine lv_aload_n hx hb dX5_takes_100 rfl (lv_at hl 0 rfl) ?_
            refine lv_iload_n hx hb dX5_takes_101 rfl (lv_at hl 1 rfl) ?_
            refine lv_aload_n hx hb dX5_takes_102 rfl (lv_at hl 0 rfl) ?_
            refine vp_callSi (va_Run.run (xrunV (As := []) (rest := [.int a0, .ref aQ]) ⟨hx, hb, hml, hown, hts⟩ (c_X5_mostDegrees l D cI cJ cZ cB H.size aQ aQd aQo ql qs qn qd qb _ rfl) (cwV 0 hts gX5_takes_X5_mostDegrees rfl rfl rfl (by decide +kernel) ⟨Nat.le_of_ble_eq_true rfl, Nat.le_of_ble_eq_true rfl⟩) hK hG hW.2.2 (xsubQ hW hA [0] rfl (by decide)) (va_recv hK hW.1 (ci := 5) (q0 := 0) rfl rfl) rfl hl.1 rfl (Nat.le_of_ble_eq_true rfl) dX5_takes_103 ⟨Nat.le_of_ble_eq_true rfl, Nat.le_of_ble_eq_true rfl⟩)) (fun r11 hq => ?_)
            subst hq
            refine xQi (wr := [(aQd, .inl (cI, 20, .inl qdf)), (aQo, .inl (cI, 20, .inl qof))]) hW hA [0] [1, 2] rfl rfl (by decide) (by decide) (by decide) (xrunV (As := [.int a0, .int (f_X5_mostDegrees qb)]) (rest := []) ⟨hx, hb, hml, hown, hts⟩ (c_X5_continuesNumber l D cI cJ cZ cB H.size aQ a0 (f_X5_mostDegrees qb) aQd aQo ql qs qn qd qb _ rfl) (cwV 2 hts gX5_takes_X5_continuesNumber rfl rfl rfl (by decide +kernel) ⟨Nat.le_of_ble_eq_true rfl, Nat.le_of_ble_eq_true rfl⟩) hK hG hW.2.2 (xsubQ hW hA [0] rfl (by decide)) (va_recv hK hW.1 (ci := 5) (q0 := 0) rfl rfl) rfl hl.1 rfl (Nat.le_of_ble_eq_true rfl) dX5_takes_106 ⟨Nat.le_of_ble_eq_true rfl, Nat.le_of_ble_eq_true rfl⟩) (fun r12 _ H locs hq hW => ?_)
            subst hq
            have hW : xW D A s.heap ([(aQd, .inl (cI, 20, .inl qdf)), (aQo, .inl (cI, 20, .inl qof)), (aQ, .inr (5, [.ref aQd, .ref aQo, .int ql, .int qs, .int (f_X5_continuesNumber a0 (f_X5_mostDegrees qb) qn).2, .int qd, .int (bi qb)]))] ++ []) H _ := hW
            have hF : f_X5_takes a0 ql qs qn qd qb qdf qof = ((f_X5_continuesNumber a0 (f_X5_mostDegrees qb) qn).1, ql, qs, (f_X5_continuesNumber a0 (f_X5_mostDegrees qb) qn).2, qd, qb, qdf, qof) := by
              rw [f_X5_takes, if_neg c1, if_neg c2, if_neg c3, if_neg c4, if_neg c5]
            obtain rfl : ((f_X5_continuesNumber a0 (f_X5_mostDegrees qb) qn).1, ql, qs, (f_X5_continuesNumber a0 (f_X5_mostDegrees qb) qn).2, qd, qb, qdf, qof) = o := hF.symm.trans ho
            have hW := xW_perm (X' := [(aQ, .inr (5, [.ref aQd, .ref aQo, .int ql, .int qs, .int (f_X5_continuesNumber a0 (f_X5_mostDegrees qb) qn).2, .int qd, .int (bi qb)])), (aQd, .inl (cI, 20, .inl qdf)), (aQo, .inl (cI, 20, .inl qof))]) hW [2, 0, 1] rfl (by decide)
            exact W.zret (v := bi (f_X5_continuesNumber a0 (f_X5_mostDegrees qb) qn).1) hx hb hrt (bi_nar _) (fun t ht hM => ⟨⟨_, (), rfl, rfl, ⟨by rw [ht]; exact hW.1, hW.2.1⟩⟩, hW.2.2.F ht⟩) hW.2.2.2.2 dX5_takes_109 hlocks
          · skip
            refine lv_aload_n hx hb dX5_takes_93 rfl (lv_at hl 0 rfl) ?_
            obtain ⟨o13_, eo13_⟩ : ∃ z9, f_X5_endLeg ql qn qd qb qdf qof = z9 := ⟨_, rfl⟩
            refine xQi (wr := []) hW hA [0, 1, 2] [] rfl rfl (by decide) (by decide) (by decide) (xrunV (As := []) (rest := []) ⟨hx, hb, hml, hown, hts⟩ (c_X5_endLeg l D cI cJ cZ cB H.size aQ aQd aQo ql qs qn qd qb qdf qof (by assumption) o13_ eo13_) (cwV 0 hts gX5_takes_X5_endLeg rfl rfl rfl (by decide +kernel) ⟨Nat.le_of_ble_eq_true rfl, Nat.le_of_ble_eq_true rfl⟩) hK hG hW.2.2 (xsubQ hW hA [0, 1, 2] rfl (by decide)) (va_recv hK hW.1 (ci := 5) (q0 := 0) rfl rfl) rfl hl.1 rfl (Nat.le_of_ble_eq_true rfl) dX5_takes_94 ⟨Nat.le_of_ble_eq_true rfl, Nat.le_of_ble_eq_true rfl⟩) (fun r14 _ H locs hq hW => ?_)
            subst hq
            have hW : xW D A s.heap ([(aQ, .inr (5, [.ref aQd, .ref aQo, .int o13_.2.1, .int o13_.2.2.1, .int qn, .int qd, .int (bi qb)])), (aQd, .inl (cI, 20, .inl o13_.2.2.2.1)), (aQo, .inl (cI, 20, .inl o13_.2.2.2.2))] ++ []) H _ := hW
            have hF : f_X5_takes a0 ql qs qn qd qb qdf qof = f_X5_takes_k5 qn qd qb o13_ := by
              rw [f_X5_takes, if_neg c1, if_neg c2, if_neg c3, if_neg c4, if_pos c5, eo13_]
            have hK5 := hF.symm.trans ho
            refine lv_goto (tgt := 109) hx hb dX5_takes_97 (by decide) ?_
            have hF : f_X5_takes_k5 qn qd qb o13_ = (o13_.1, o13_.2.1, o13_.2.2.1, qn, qd, qb, o13_.2.2.2.1, o13_.2.2.2.2) := by
              rw [f_X5_takes_k5]
            obtain rfl : (o13_.1, o13_.2.1, o13_.2.2.1, qn, qd, qb, o13_.2.2.2.1, o13_.2.2.2.2) = o := hF.symm.trans hK5
            exact W.zret (v := bi o13_.1) hx hb hrt (bi_nar _) (fun t ht hM => ⟨⟨_, (), rfl, rfl, ⟨by rw [ht]; exact hW.1, hW.2.1⟩⟩, hW.2.2.F ht⟩) hW.2.2.2.2 dX5_takes_109 hlocks

theorem okC_up {c M : Int32} {N : Int} (h : okC c N) (hM : M.toInt = N) (hc : ¬ M ≤ c) : okC (c + 1) N := by
  have h1 := h.1
  have h2 := xnle.mp hc
  exact ⟨by rw [up_i hc]; omega, by rw [up_i hc]; omega⟩
theorem endLeg_ok {ql qn qd : Int32} {qb : Bool} {f g : Nat → Int32} (h : okC ql 20) : okC (f_X5_endLeg ql qn qd qb f g).2.1 20 := by
  by_cases c1 : 20 ≤ ql
  · rw [f_X5_endLeg, if_pos c1]; exact h
  · rw [f_X5_endLeg, if_neg c1]
    have h3 := okC_up h (by decide) c1
    by_cases c2 : qb = true
    · rw [if_pos c2]; exact h3
    · rw [if_neg c2]; exact h3
theorem takes_ok {a0 ql qs qn qd : Int32} {qb : Bool} {f g : Nat → Int32} (h : okC ql 20) : okC (f_X5_takes a0 ql qs qn qd qb f g).2.1 20 := by
  unfold f_X5_takes
  repeat' split
  all_goals first | exact h | exact endLeg_ok h

def f_X5_faultOf_k1 (yn : Int32) (yd : Int32) (yb : Bool) (g9 : Int32 → Int32 → Int32 → Int32 → Int32 → Bool → (Nat → Int32) → (Nat → Int32) → (Int32 × Int32 × Int32 × Int32 × Int32 × Bool × (Nat → Int32) × (Nat → Int32))) (o1_ : Bool × Int32 × Int32 × (Nat → Int32) × (Nat → Int32)) : Int32 × Int32 × Int32 × Int32 × Int32 × Bool × (Nat → Int32) × (Nat → Int32) :=
  (-6, o1_.2.1, o1_.2.2.1, yn, yd, yb, o1_.2.2.2.1, o1_.2.2.2.2)
def f_X5_faultOf_k2 (xi : Int32) (g9 : Int32 → Int32 → Int32 → Int32 → Int32 → Bool → (Nat → Int32) → (Nat → Int32) → (Int32 × Int32 × Int32 × Int32 × Int32 × Bool × (Nat → Int32) × (Nat → Int32))) (o4_ : Bool × Int32 × Int32 × Int32 × Int32 × Bool × (Nat → Int32) × (Nat → Int32)) : Int32 × Int32 × Int32 × Int32 × Int32 × Bool × (Nat → Int32) × (Nat → Int32) :=
  if o4_.1 = true then
    g9 (xi + 1) o4_.2.1 o4_.2.2.1 o4_.2.2.2.1 o4_.2.2.2.2.1 o4_.2.2.2.2.2.1 o4_.2.2.2.2.2.2.1 o4_.2.2.2.2.2.2.2
  else
    (xi, o4_.2.1, o4_.2.2.1, o4_.2.2.2.1, o4_.2.2.2.2.1, o4_.2.2.2.2.2.1, o4_.2.2.2.2.2.2.1, o4_.2.2.2.2.2.2.2)
def f_X5_faultOf_lp12 (pl : Int32) (pf : Nat → Int32) : Nat → Int32 → Int32 → Int32 → Int32 → Int32 → Bool → (Nat → Int32) → (Nat → Int32) → Int32 × Int32 × Int32 × Int32 × Int32 × Bool × (Nat → Int32) × (Nat → Int32)
  | 0, _, _, _, _, _, _, _, _ => (0, 0, 0, 0, 0, false, (fun _ => 0), (fun _ => 0))
  | n + 1, xi, yl, ys, yn, yd, yb, ydf, yof =>
    if pl ≤ xi then
      if ys = 4 then
        f_X5_faultOf_k1 yn yd yb (f_X5_faultOf_lp12 pl pf n) (f_X5_endLeg yl yn yd yb ydf yof)
      else
        (pl, yl, ys, yn, yd, yb, ydf, yof)
    else
      f_X5_faultOf_k2 xi (f_X5_faultOf_lp12 pl pf n) (f_X5_takes (f_X3_codeAt xi pl pf) yl ys yn yd yb ydf yof)
def f_X5_faultOf (qn : Int32) (qd : Int32) (qb : Bool) (qdf : Nat → Int32) (qof : Nat → Int32) (pl : Int32) (pf : Nat → Int32) : Int32 × Int32 × Int32 × Int32 × Int32 × Bool × (Nat → Int32) × (Nat → Int32) :=
  f_X5_faultOf_lp12 pl pf ((pl.toInt - (0 : Int32).toInt).toNat + 1) 0 0 0 qn qd qb qdf qof
set_option maxHeartbeats 4000000 in
set_option maxRecDepth 100000 in
theorem c_X5_faultOf (l : Launch) (D : va_G) (cI cJ cZ cB : ClassId) (sz : Nat) (aQ : Nat) (aQd : Nat) (aQo : Nat) (aP : Nat) (aPc : Nat) (ql : Int32) (qs : Int32) (qn : Int32) (qd : Int32) (qb : Bool) (qdf : Nat → Int32) (qof : Nat → Int32) (pl : Int32) (pf : Nat → Int32) (hql : okC ql 20) (hpl : okC pl 80) (o : Int32 × Int32 × Int32 × Int32 × Int32 × Bool × (Nat → Int32) × (Nat → Int32)) (ho : f_X5_faultOf qn qd qb qdf qof pl pf = o) : Met l yX5_faultOf wsX5_faultOf ({ frames := 5, cells := 0, slots := 0, locals := 108 } : Room) (xPre D (xT cI cJ cZ cB) [.ref aQ, .ref aP] [(aQ, .inr (5, [.ref aQd, .ref aQo, .int ql, .int qs, .int qn, .int qd, .int (bi qb)])), (aQd, .inl (cI, 20, .inl qdf)), (aQo, .inl (cI, 20, .inl qof)), (aP, .inr (3, [.ref aPc, .int pl])), (aPc, .inl (cI, 80, .inl pf))] sz) (va_Qi (fun r (_ : Unit) => r = o.1) (fun _ t => xB D ([(aQ, .inr (5, [.ref aQd, .ref aQo, .int o.2.1, .int o.2.2.1, .int o.2.2.2.1, .int o.2.2.2.2.1, .int (bi o.2.2.2.2.2.1)])), (aQd, .inl (cI, 20, .inl o.2.2.2.2.2.2.1)), (aQo, .inl (cI, 20, .inl o.2.2.2.2.2.2.2)), (aP, .inr (3, [.ref aPc, .int pl])), (aPc, .inl (cI, 80, .inl pf))]) (va_A [(aQ, .inr (5, [.ref aQd, .ref aQo, .int ql, .int qs, .int qn, .int qd, .int (bi qb)])), (aQd, .inl (cI, 20, .inl qdf)), (aQo, .inl (cI, 20, .inl qof)), (aP, .inr (3, [.ref aPc, .int pl])), (aPc, .inl (cI, 80, .inl pf))] sz) t) (va_A [(aQ, .inr (5, [.ref aQd, .ref aQo, .int ql, .int qs, .int qn, .int qd, .int (bi qb)])), (aQd, .inl (cI, 20, .inl qdf)), (aQo, .inl (cI, 20, .inl qof)), (aP, .inr (3, [.ref aPc, .int pl])), (aPc, .inl (cI, 80, .inl pf))] sz)) 0 0 (va_A [(aQ, .inr (5, [.ref aQd, .ref aQo, .int ql, .int qs, .int qn, .int qd, .int (bi qb)])), (aQd, .inl (cI, 20, .inl qdf)), (aQo, .inl (cI, 20, .inl qof)), (aP, .inr (3, [.ref aPc, .int pl])), (aPc, .inl (cI, 80, .inl pf))] sz) := by
  refine xofW (Qc := fun A0 => va_Qi (fun r (_ : Unit) => r = o.1) (fun _ t => xB D ([(aQ, .inr (5, [.ref aQd, .ref aQo, .int o.2.1, .int o.2.2.1, .int o.2.2.2.1, .int o.2.2.2.2.1, .int (bi o.2.2.2.2.2.1)])), (aQd, .inl (cI, 20, .inl o.2.2.2.2.2.2.1)), (aQo, .inl (cI, 20, .inl o.2.2.2.2.2.2.2)), (aP, .inr (3, [.ref aPc, .int pl])), (aPc, .inl (cI, 80, .inl pf))]) A0 t) A0) (fr := fun A => A) (cc := cX5_faultOf) (maxL := 3) (ret := (some .int)) (by decide) rfl (Nat.le_of_ble_eq_true rfl) ?_
  intro p e s m below meth c A ⟨hx, hb, hml, hown, hts⟩ hrt hlocks hnm hsz hK hW hA hG ls hl
  have hown : s.vm.findClass RX5 = some m.cls := hown
  have hl : lv_has ls 3 [(0, .ref aQ), (1, .ref aP)] := hl
  obtain ⟨H, hH⟩ : ∃ H, H = s.heap := ⟨_, rfl⟩
  have hW : xW D A s.heap ([(aQ, .inr (5, [.ref aQd, .ref aQo, .int ql, .int qs, .int qn, .int qd, .int (bi qb)])), (aQd, .inl (cI, 20, .inl qdf)), (aQo, .inl (cI, 20, .inl qof)), (aP, .inr (3, [.ref aPc, .int pl])), (aPc, .inl (cI, 80, .inl pf))] ++ []) H [] := by rw [hH]; exact hW
  have w1 := hts (.fieldLink RX5 18 "DryIceLane$RouteReader" "legs" "I") (by decide +kernel)
  have hin5 : ∀ w ∈ u_ws RX5 TX5 7, w ∈ wsX5_faultOf := by decide +kernel
  have w3 := hts (.fieldLink RX5 22 "DryIceLane$RouteReader" "state" "I") (by decide +kernel)
  have w4 := hts (.fieldLink RX5 25 "DryIceLane$Pad" "length" "I") (by decide +kernel)
  have hin3 : ∀ w ∈ u_ws RX3 TX3 2, w ∈ wsX5_faultOf := by decide +kernel
  rw [← hH]
  refine lv_aload_n hx hb dX5_faultOf_0 rfl (lv_at hl 0 rfl) ?_
  refine lv_iconst (v := 0) hx hb dX5_faultOf_1 (by decide) ?_
  refine xput (ci := 5) (v := .int 0) (ty := .int) (C := RX5) (T := TX5) (N := 7) hx hb hts hin5 tyX5 tyX5_ok nmX5 hown hK hW 0 rfl (Nat.le_of_ble_eq_true rfl) rfl 2 (by decide) w1 rfl (by decide +kernel) rfl rfl (Nat.le_of_ble_eq_true rfl) dX5_faultOf_2 (fun H locs hW => ?_)
  have hW : xW D A s.heap ([(aQ, .inr (5, [.ref aQd, .ref aQo, .int 0, .int qs, .int qn, .int qd, .int (bi qb)])), (aQd, .inl (cI, 20, .inl qdf)), (aQo, .inl (cI, 20, .inl qof)), (aP, .inr (3, [.ref aPc, .int pl])), (aPc, .inl (cI, 80, .inl pf))] ++ []) H _ := hW
  refine lv_aload_n hx hb dX5_faultOf_5 rfl (lv_at hl 0 rfl) ?_
  refine lv_iconst (v := 0) hx hb dX5_faultOf_6 (by decide) ?_
  refine xput (ci := 5) (v := .int 0) (ty := .int) (C := RX5) (T := TX5) (N := 7) hx hb hts hin5 tyX5 tyX5_ok nmX5 hown hK hW 0 rfl (Nat.le_of_ble_eq_true rfl) rfl 3 (by decide) w3 rfl (by decide +kernel) rfl rfl (Nat.le_of_ble_eq_true rfl) dX5_faultOf_7 (fun H locs hW => ?_)
  have hW : xW D A s.heap ([(aQ, .inr (5, [.ref aQd, .ref aQo, .int 0, .int 0, .int qn, .int qd, .int (bi qb)])), (aQd, .inl (cI, 20, .inl qdf)), (aQo, .inl (cI, 20, .inl qof)), (aP, .inr (3, [.ref aPc, .int pl])), (aPc, .inl (cI, 80, .inl pf))] ++ []) H _ := hW
  refine lv_iconst (v := 0) hx hb dX5_faultOf_10 (by decide) ?_
  refine lv_istore_n (lv' := [(2, .int 0), (0, .ref aQ), (1, .ref aP)]) hx hb dX5_faultOf_11 rfl hl (by decide) rfl (fun ls hl => ?_)
  have hl12_ : ∀ (n : Nat) (xi : Int32) (yl : Int32) (ys : Int32) (yn : Int32) (yd : Int32) (yb : Bool) (ydf : Nat → Int32) (yof : Nat → Int32), f_X5_faultOf_lp12 pl pf n xi yl ys yn yd yb ydf yof = o → (okC yl 20) → (pl.toInt - xi.toInt).toNat < n → ∀ (H : Heap) (locs : List Loc) (ls : Array Slot), xW D A s.heap ([(aQ, .inr (5, [.ref aQd, .ref aQo, .int yl, .int ys, .int yn, .int yd, .int (bi yb)])), (aQd, .inl (cI, 20, .inl ydf)), (aQo, .inl (cI, 20, .inl yof)), (aP, .inr (3, [.ref aPc, .int pl])), (aPc, .inl (cI, 80, .inl pf))] ++ []) H locs → lv_has ls 3 [(0, .ref aQ), (1, .ref aP), (2, .int xi)] → W p l e ({ frames := 5, cells := 0, slots := 0, locals := 108 } : Room) s m [.ref aQ, .ref aP].toArray below meth c H locs 0 0 (MQ below (va_Qi (fun r (_ : Unit) => r = o.1) (fun _ t => xB D ([(aQ, .inr (5, [.ref aQd, .ref aQo, .int o.2.1, .int o.2.2.1, .int o.2.2.2.1, .int o.2.2.2.2.1, .int (bi o.2.2.2.2.2.1)])), (aQd, .inl (cI, 20, .inl o.2.2.2.2.2.2.1)), (aQo, .inl (cI, 20, .inl o.2.2.2.2.2.2.2)), (aP, .inr (3, [.ref aPc, .int pl])), (aPc, .inl (cI, 80, .inl pf))]) A t) A) [.ref aQ, .ref aP].toArray s 0 0 A) (F0 m 12 ls []) := by
    intro n
    induction n with
    | zero =>
      intro xi yl ys yn yd yb ydf yof _ _ hm
      exact absurd hm (Nat.not_lt_zero _)
    | succ n ih12 =>
      intro xi yl ys yn yd yb ydf yof hlp12 hyl hm12 H locs ls hW hl
      refine lv_iload_n hx hb dX5_faultOf_12 rfl (lv_at hl 2 rfl) ?_
      refine lv_aload_n hx hb dX5_faultOf_13 rfl (lv_at hl 1 rfl) ?_
      refine xget (ci := 3) (C := RX3) (T := TX3) (N := 2) hx hb hts hin3 hown hK hW.1 3 rfl rfl 1 (by decide) w4 rfl dX5_faultOf_14 ?_
      refine lv_icmp_ge (tgt := 40) hx hb dX5_faultOf_17 (by decide) (fun c1 => ?_) (fun c1 => ?_)
      · skip
        refine lv_aload_n hx hb dX5_faultOf_40 rfl (lv_at hl 0 rfl) ?_
        refine xget (ci := 5) (C := RX5) (T := TX5) (N := 7) hx hb hts hin5 hown hK hW.1 0 rfl rfl 3 (by decide) w3 rfl dX5_faultOf_41 ?_
        refine lv_iconst (v := 4) hx hb dX5_faultOf_44 (by decide) ?_
        refine lv_icmp_eq (tgt := 53) hx hb dX5_faultOf_45 (by decide) (fun c2 => ?_) (fun c2 => ?_)
        · skip
          refine lv_aload_n hx hb dX5_faultOf_53 rfl (lv_at hl 0 rfl) ?_
          obtain ⟨o1_, eo1_⟩ : ∃ z9, f_X5_endLeg yl yn yd yb ydf yof = z9 := ⟨_, rfl⟩
          refine xQi (wr := [(aP, .inr (3, [.ref aPc, .int pl])), (aPc, .inl (cI, 80, .inl pf))]) hW hA [0, 1, 2] [3, 4] rfl rfl (by decide) (by decide) (by decide) (xrunV (As := []) (rest := []) ⟨hx, hb, hml, hown, hts⟩ (c_X5_endLeg l D cI cJ cZ cB H.size aQ aQd aQo yl ys yn yd yb ydf yof (by assumption) o1_ eo1_) (cwV 0 hts gX5_faultOf_X5_endLeg rfl rfl rfl (by decide +kernel) ⟨Nat.le_of_ble_eq_true rfl, Nat.le_of_ble_eq_true rfl⟩) hK hG hW.2.2 (xsubQ hW hA [0, 1, 2] rfl (by decide)) (va_recv hK hW.1 (ci := 5) (q0 := 0) rfl rfl) rfl hl.1 rfl (Nat.le_of_ble_eq_true rfl) dX5_faultOf_54 ⟨Nat.le_of_ble_eq_true rfl, Nat.le_of_ble_eq_true rfl⟩) (fun r2 _ H locs hq hW => ?_)
          subst hq
          have hW : xW D A s.heap ([(aP, .inr (3, [.ref aPc, .int pl])), (aPc, .inl (cI, 80, .inl pf)), (aQ, .inr (5, [.ref aQd, .ref aQo, .int o1_.2.1, .int o1_.2.2.1, .int yn, .int yd, .int (bi yb)])), (aQd, .inl (cI, 20, .inl o1_.2.2.2.1)), (aQo, .inl (cI, 20, .inl o1_.2.2.2.2))] ++ []) H _ := hW
          have hF : f_X5_faultOf_lp12 pl pf (n + 1) xi yl ys yn yd yb ydf yof = f_X5_faultOf_k1 yn yd yb (f_X5_faultOf_lp12 pl pf n) o1_ := by
            rw [f_X5_faultOf_lp12, if_pos c1, if_pos c2, eo1_]
          have hK1 := hF.symm.trans hlp12
          refine lv_pop hx hb dX5_faultOf_57 rfl ?_
          refine lv_bipush (v := -6) hx hb dX5_faultOf_58 (by decide) ?_
          have hF : f_X5_faultOf_k1 yn yd yb (f_X5_faultOf_lp12 pl pf n) o1_ = (-6, o1_.2.1, o1_.2.2.1, yn, yd, yb, o1_.2.2.2.1, o1_.2.2.2.2) := by
            rw [f_X5_faultOf_k1]
          obtain rfl : (-6, o1_.2.1, o1_.2.2.1, yn, yd, yb, o1_.2.2.2.1, o1_.2.2.2.2) = o := hF.symm.trans hK1
          have hW := xW_perm (X' := [(aQ, .inr (5, [.ref aQd, .ref aQo, .int o1_.2.1, .int o1_.2.2.1, .int yn, .int yd, .int (bi yb)])), (aQd, .inl (cI, 20, .inl o1_.2.2.2.1)), (aQo, .inl (cI, 20, .inl o1_.2.2.2.2)), (aP, .inr (3, [.ref aPc, .int pl])), (aPc, .inl (cI, 80, .inl pf))]) hW [2, 3, 4, 0, 1] rfl (by decide)
          exact W.iret (v := -6) hx hb hrt (fun t ht hM => ⟨⟨_, (), rfl, rfl, ⟨by rw [ht]; exact hW.1, hW.2.1⟩⟩, hW.2.2.F ht⟩) hW.2.2.2.2 dX5_faultOf_60 hlocks
        · skip
          refine lv_aload_n hx hb dX5_faultOf_48 rfl (lv_at hl 1 rfl) ?_
          refine xget (ci := 3) (C := RX3) (T := TX3) (N := 2) hx hb hts hin3 hown hK hW.1 3 rfl rfl 1 (by decide) w4 rfl dX5_faultOf_49 ?_
          have hF : f_X5_faultOf_lp12 pl pf (n + 1) xi yl ys yn yd yb ydf yof = (pl, yl, ys, yn, yd, yb, ydf, yof) := by
            rw [f_X5_faultOf_lp12, if_pos c1, if_neg c2]
          obtain rfl : (pl, yl, ys, yn, yd, yb, ydf, yof) = o := hF.symm.trans hlp12
          exact W.iret (v := pl) hx hb hrt (fun t ht hM => ⟨⟨_, (), rfl, rfl, ⟨by rw [ht]; exact hW.1, hW.2.1⟩⟩, hW.2.2.F ht⟩) hW.2.2.2.2 dX5_faultOf_52 hlocks
      · skip
        refine lv_aload_n hx hb dX5_faultOf_20 rfl (lv_at hl 0 rfl) ?_
        refine lv_aload_n hx hb dX5_faultOf_21 rfl (lv_at hl 1 rfl) ?_
        refine lv_iload_n hx hb dX5_faultOf_22 rfl (lv_at hl 2 rfl) ?_
        refine vp_callSi (va_Run.run (xrunV (As := [.int xi]) (rest := [.ref aQ]) ⟨hx, hb, hml, hown, hts⟩ (c_X3_codeAt l D cI cJ cZ cB H.size aP aPc xi pl pf (by assumption) _ rfl) (cwV 1 hts gX5_faultOf_X3_codeAt rfl rfl rfl (by decide +kernel) ⟨Nat.le_of_ble_eq_true rfl, Nat.le_of_ble_eq_true rfl⟩) hK hG hW.2.2 (xsubQ hW hA [3, 4] rfl (by decide)) (va_recv hK hW.1 (ci := 3) (q0 := 3) rfl rfl) rfl hl.1 rfl (Nat.le_of_ble_eq_true rfl) dX5_faultOf_23 ⟨Nat.le_of_ble_eq_true rfl, Nat.le_of_ble_eq_true rfl⟩)) (fun r3 hq => ?_)
        subst hq
        obtain ⟨o4_, eo4_⟩ : ∃ z9, f_X5_takes (f_X3_codeAt xi pl pf) yl ys yn yd yb ydf yof = z9 := ⟨_, rfl⟩
        refine xQi (wr := [(aP, .inr (3, [.ref aPc, .int pl])), (aPc, .inl (cI, 80, .inl pf))]) hW hA [0, 1, 2] [3, 4] rfl rfl (by decide) (by decide) (by decide) (xrunV (As := [.int (f_X3_codeAt xi pl pf)]) (rest := []) ⟨hx, hb, hml, hown, hts⟩ (c_X5_takes l D cI cJ cZ cB H.size aQ aQd aQo (f_X3_codeAt xi pl pf) yl ys yn yd yb ydf yof (by assumption) o4_ eo4_) (cwV 1 hts gX5_faultOf_X5_takes rfl rfl rfl (by decide +kernel) ⟨Nat.le_of_ble_eq_true rfl, Nat.le_of_ble_eq_true rfl⟩) hK hG hW.2.2 (xsubQ hW hA [0, 1, 2] rfl (by decide)) (va_recv hK hW.1 (ci := 5) (q0 := 0) rfl rfl) rfl hl.1 rfl (Nat.le_of_ble_eq_true rfl) dX5_faultOf_26 ⟨Nat.le_of_ble_eq_true rfl, Nat.le_of_ble_eq_true rfl⟩) (fun r5 _ H locs hq hW => ?_)
        subst hq
        have hW : xW D A s.heap ([(aP, .inr (3, [.ref aPc, .int pl])), (aPc, .inl (cI, 80, .inl pf)), (aQ, .inr (5, [.ref aQd, .ref aQo, .int o4_.2.1, .int o4_.2.2.1, .int o4_.2.2.2.1, .int o4_.2.2.2.2.1, .int (bi o4_.2.2.2.2.2.1)])), (aQd, .inl (cI, 20, .inl o4_.2.2.2.2.2.2.1)), (aQo, .inl (cI, 20, .inl o4_.2.2.2.2.2.2.2))] ++ []) H _ := hW
        have hF : f_X5_faultOf_lp12 pl pf (n + 1) xi yl ys yn yd yb ydf yof = f_X5_faultOf_k2 xi (f_X5_faultOf_lp12 pl pf n) o4_ := by
          rw [f_X5_faultOf_lp12, if_neg c1, eo4_]
        have hK2 := hF.symm.trans hlp12
        refine xb_ne (tgt := 34) hx hb dX5_faultOf_29 (by decide) (fun c2 => ?_) (fun c2 => ?_)
        · skip
          refine lv_iinc (v := xi + 1) (lv' := [(2, .int (xi + 1)), (0, .ref aQ), (1, .ref aP)]) hx hb dX5_faultOf_34 hl (k := 2) rfl rfl (by decide) rfl (fun ls hl => ?_)
          refine lv_goto (tgt := 12) hx hb dX5_faultOf_37 (by decide) ?_
          have hF : f_X5_faultOf_k2 xi (f_X5_faultOf_lp12 pl pf n) o4_ = f_X5_faultOf_lp12 pl pf n (xi + 1) o4_.2.1 o4_.2.2.1 o4_.2.2.2.1 o4_.2.2.2.2.1 o4_.2.2.2.2.2.1 o4_.2.2.2.2.2.2.1 o4_.2.2.2.2.2.2.2 := by
            rw [f_X5_faultOf_k2, if_pos c2]
          have hW := xW_perm (X' := [(aQ, .inr (5, [.ref aQd, .ref aQo, .int o4_.2.1, .int o4_.2.2.1, .int o4_.2.2.2.1, .int o4_.2.2.2.2.1, .int (bi o4_.2.2.2.2.2.1)])), (aQd, .inl (cI, 20, .inl o4_.2.2.2.2.2.2.1)), (aQo, .inl (cI, 20, .inl o4_.2.2.2.2.2.2.2)), (aP, .inr (3, [.ref aPc, .int pl])), (aPc, .inl (cI, 80, .inl pf))]) hW [2, 3, 4, 0, 1] rfl (by decide)
          refine W.widen (k := 0) (n := 0) (Nat.le_of_ble_eq_true rfl) (Nat.le_of_ble_eq_true rfl) ?_
          exact ih12 (xi + 1) o4_.2.1 o4_.2.2.1 o4_.2.2.2.1 o4_.2.2.2.2.1 o4_.2.2.2.2.2.1 o4_.2.2.2.2.2.2.1 o4_.2.2.2.2.2.2.2 (hF.symm.trans hK2) (by rw [← eo4_]; exact takes_ok hyl) (up_mu c1 hm12) _ _ _ hW (lv_sub hl [1, 2, 0] rfl)
        · skip
          refine lv_iload_n hx hb dX5_faultOf_32 rfl (lv_at hl 2 rfl) ?_
          have hF : f_X5_faultOf_k2 xi (f_X5_faultOf_lp12 pl pf n) o4_ = (xi, o4_.2.1, o4_.2.2.1, o4_.2.2.2.1, o4_.2.2.2.2.1, o4_.2.2.2.2.2.1, o4_.2.2.2.2.2.2.1, o4_.2.2.2.2.2.2.2) := by
            rw [f_X5_faultOf_k2, if_neg c2]
          obtain rfl : (xi, o4_.2.1, o4_.2.2.1, o4_.2.2.2.1, o4_.2.2.2.2.1, o4_.2.2.2.2.2.1, o4_.2.2.2.2.2.2.1, o4_.2.2.2.2.2.2.2) = o := hF.symm.trans hK2
          have hW := xW_perm (X' := [(aQ, .inr (5, [.ref aQd, .ref aQo, .int o4_.2.1, .int o4_.2.2.1, .int o4_.2.2.2.1, .int o4_.2.2.2.2.1, .int (bi o4_.2.2.2.2.2.1)])), (aQd, .inl (cI, 20, .inl o4_.2.2.2.2.2.2.1)), (aQo, .inl (cI, 20, .inl o4_.2.2.2.2.2.2.2)), (aP, .inr (3, [.ref aPc, .int pl])), (aPc, .inl (cI, 80, .inl pf))]) hW [2, 3, 4, 0, 1] rfl (by decide)
          exact W.iret (v := xi) hx hb hrt (fun t ht hM => ⟨⟨_, (), rfl, rfl, ⟨by rw [ht]; exact hW.1, hW.2.1⟩⟩, hW.2.2.F ht⟩) hW.2.2.2.2 dX5_faultOf_33 hlocks
  have hF : f_X5_faultOf qn qd qb qdf qof pl pf = f_X5_faultOf_lp12 pl pf ((pl.toInt - (0 : Int32).toInt).toNat + 1) 0 0 0 qn qd qb qdf qof := by
    rw [f_X5_faultOf]
  refine W.widen (k := 0) (n := 0) (Nat.le_of_ble_eq_true rfl) (Nat.le_of_ble_eq_true rfl) ?_
  exact hl12_ ((pl.toInt - (0 : Int32).toInt).toNat + 1) 0 0 0 qn qd qb qdf qof (hF.symm.trans ho) (⟨by decide, by decide⟩) (Nat.lt_succ_self _) _ _ _ hW (lv_sub hl [1, 2, 0] rfl)

def f_X5_durationOf (a0 : Int32) (qdf : Nat → Int32) : Int32 :=
  if (f_X9_within a0 0 19) = true then
    qdf a0.toNatClampNeg
  else
    0
set_option maxHeartbeats 4000000 in
set_option maxRecDepth 100000 in
theorem c_X5_durationOf (l : Launch) (D : va_G) (cI cJ cZ cB : ClassId) (sz : Nat) (aQ : Nat) (aQd : Nat) (a0 : Int32) (aQo : Nat) (ql : Int32) (qs : Int32) (qn : Int32) (qd : Int32) (qb : Bool) (qdf : Nat → Int32) (o : Int32) (ho : f_X5_durationOf a0 qdf = o) : Met l yX5_durationOf wsX5_durationOf ({ frames := 1, cells := 0, slots := 0, locals := 22 } : Room) (xPre D (xT cI cJ cZ cB) [.ref aQ, .int a0] [(aQ, .inr (5, [.ref aQd, .ref aQo, .int ql, .int qs, .int qn, .int qd, .int (bi qb)])), (aQd, .inl (cI, 20, .inl qdf))] sz) (vp_Si (fun r => r = o)) 0 0 (fun _ => False) := by
  refine xofW (Qc := fun _ => vp_Si (fun r => r = o)) (fr := fun _ _ => False) (cc := cX5_durationOf) (maxL := 2) (ret := (some .int)) (by decide) rfl (Nat.le_of_ble_eq_true rfl) ?_
  intro p e s m below meth c A ⟨hx, hb, hml, hown, hts⟩ hrt hlocks hnm hsz hK hW hA hG ls hl
  have hown : s.vm.findClass RX5 = some m.cls := hown
  have hl : lv_has ls 2 [(0, .ref aQ), (1, .int a0)] := hl
  obtain ⟨H, hH⟩ : ∃ H, H = s.heap := ⟨_, rfl⟩
  have hW : xW D A s.heap ([(aQ, .inr (5, [.ref aQd, .ref aQo, .int ql, .int qs, .int qn, .int qd, .int (bi qb)])), (aQd, .inl (cI, 20, .inl qdf))] ++ []) H [] := by rw [hH]; exact hW
  have w1 := hts (.initialized RX9) (by decide +kernel)
  have w2 := hts (.static yX9_within) (by decide +kernel)
  have w3 := hts (.fieldLink RX5 11 "DryIceLane$RouteReader" "durations" "[I") (by decide +kernel)
  have hin5 : ∀ w ∈ u_ws RX5 TX5 7, w ∈ wsX5_durationOf := by decide +kernel
  rw [← hH]
  refine lv_iload_n hx hb dX5_durationOf_0 rfl (lv_at hl 1 rfl) ?_
  refine lv_iconst (v := 0) hx hb dX5_durationOf_1 (by decide) ?_
  refine lv_bipush (v := 19) hx hb dX5_durationOf_2 (by decide) ?_
  refine vp_callSi (va_Run.run (xrunSN (As := [.int a0, .int 0, .int 19]) (rest := []) ⟨hx, hb, hml, hown, hts⟩ (c_X9_within l D cI cJ cZ cB H.size a0 0 19 _ rfl) ⟨va_cnB (host := "DryIceLane") 3 hts gX5_durationOf_X9_within_n42 rfl rfl rfl (hG.1.1 (.methodLinkNest RX5 42 yX9_within "DryIceLane") (by decide +kernel)) w1 (by decide +kernel) ⟨Nat.le_of_ble_eq_true rfl, Nat.le_of_ble_eq_true rfl⟩, w2, trivial⟩ hK hG hW.2.2 (xsubQ hW hA [] rfl (by decide)) rfl hl.1 rfl (Nat.le_of_ble_eq_true rfl) dX5_durationOf_4 ⟨Nat.le_of_ble_eq_true rfl, Nat.le_of_ble_eq_true rfl⟩)) (fun r1 hq => ?_)
  subst hq
  refine xb_eq (tgt := 19) hx hb dX5_durationOf_7 (by decide) (fun c1 => ?_) (fun c1 => ?_)
  · skip
    refine lv_iconst (v := 0) hx hb dX5_durationOf_19 (by decide) ?_
    have hF : f_X5_durationOf a0 qdf = 0 := by
      rw [f_X5_durationOf, if_neg c1]
    obtain rfl : 0 = o := hF.symm.trans ho
    exact W.iret (v := 0) hx hb hrt (fun t ht hM => ⟨_, rfl, rfl, ht.trans hH⟩) (fun q h => by cases h) dX5_durationOf_20 hlocks
  · skip
    refine lv_aload_n hx hb dX5_durationOf_10 rfl (lv_at hl 0 rfl) ?_
    refine xget (ci := 5) (C := RX5) (T := TX5) (N := 7) hx hb hts hin5 hown hK hW.1 0 rfl rfl 0 (by decide) w3 rfl dX5_durationOf_11 ?_
    refine lv_iload_n hx hb dX5_durationOf_14 rfl (lv_at hl 1 rfl) ?_
    refine xiald hx hb hK hW.1 1 0 rfl rfl (vp_w c1 (by decide)) a0.toNatClampNeg rfl (v := qdf a0.toNatClampNeg) rfl dX5_durationOf_15 ?_
    refine lv_goto (tgt := 20) hx hb dX5_durationOf_16 (by decide) ?_
    have hF : f_X5_durationOf a0 qdf = qdf a0.toNatClampNeg := by
      rw [f_X5_durationOf, if_pos c1]
    obtain rfl : qdf a0.toNatClampNeg = o := hF.symm.trans ho
    exact W.iret (v := qdf a0.toNatClampNeg) hx hb hrt (fun t ht hM => ⟨_, rfl, rfl, ht.trans hH⟩) (fun q h => by cases h) dX5_durationOf_20 hlocks

def f_X5_outsideOf (a0 : Int32) (qof : Nat → Int32) : Int32 :=
  if (f_X9_within a0 0 19) = true then
    qof a0.toNatClampNeg
  else
    0
set_option maxHeartbeats 4000000 in
set_option maxRecDepth 100000 in
theorem c_X5_outsideOf (l : Launch) (D : va_G) (cI cJ cZ cB : ClassId) (sz : Nat) (aQ : Nat) (aQo : Nat) (a0 : Int32) (aQd : Nat) (ql : Int32) (qs : Int32) (qn : Int32) (qd : Int32) (qb : Bool) (qof : Nat → Int32) (o : Int32) (ho : f_X5_outsideOf a0 qof = o) : Met l yX5_outsideOf wsX5_outsideOf ({ frames := 1, cells := 0, slots := 0, locals := 22 } : Room) (xPre D (xT cI cJ cZ cB) [.ref aQ, .int a0] [(aQ, .inr (5, [.ref aQd, .ref aQo, .int ql, .int qs, .int qn, .int qd, .int (bi qb)])), (aQo, .inl (cI, 20, .inl qof))] sz) (vp_Si (fun r => r = o)) 0 0 (fun _ => False) := by
  refine xofW (Qc := fun _ => vp_Si (fun r => r = o)) (fr := fun _ _ => False) (cc := cX5_outsideOf) (maxL := 2) (ret := (some .int)) (by decide) rfl (Nat.le_of_ble_eq_true rfl) ?_
  intro p e s m below meth c A ⟨hx, hb, hml, hown, hts⟩ hrt hlocks hnm hsz hK hW hA hG ls hl
  have hown : s.vm.findClass RX5 = some m.cls := hown
  have hl : lv_has ls 2 [(0, .ref aQ), (1, .int a0)] := hl
  obtain ⟨H, hH⟩ : ∃ H, H = s.heap := ⟨_, rfl⟩
  have hW : xW D A s.heap ([(aQ, .inr (5, [.ref aQd, .ref aQo, .int ql, .int qs, .int qn, .int qd, .int (bi qb)])), (aQo, .inl (cI, 20, .inl qof))] ++ []) H [] := by rw [hH]; exact hW
  have w1 := hts (.initialized RX9) (by decide +kernel)
  have w2 := hts (.static yX9_within) (by decide +kernel)
  have w3 := hts (.fieldLink RX5 15 "DryIceLane$RouteReader" "outsides" "[I") (by decide +kernel)
  have hin5 : ∀ w ∈ u_ws RX5 TX5 7, w ∈ wsX5_outsideOf := by decide +kernel
  rw [← hH]
  refine lv_iload_n hx hb dX5_outsideOf_0 rfl (lv_at hl 1 rfl) ?_
  refine lv_iconst (v := 0) hx hb dX5_outsideOf_1 (by decide) ?_
  refine lv_bipush (v := 19) hx hb dX5_outsideOf_2 (by decide) ?_
  refine vp_callSi (va_Run.run (xrunSN (As := [.int a0, .int 0, .int 19]) (rest := []) ⟨hx, hb, hml, hown, hts⟩ (c_X9_within l D cI cJ cZ cB H.size a0 0 19 _ rfl) ⟨va_cnB (host := "DryIceLane") 3 hts gX5_outsideOf_X9_within_n42 rfl rfl rfl (hG.1.1 (.methodLinkNest RX5 42 yX9_within "DryIceLane") (by decide +kernel)) w1 (by decide +kernel) ⟨Nat.le_of_ble_eq_true rfl, Nat.le_of_ble_eq_true rfl⟩, w2, trivial⟩ hK hG hW.2.2 (xsubQ hW hA [] rfl (by decide)) rfl hl.1 rfl (Nat.le_of_ble_eq_true rfl) dX5_outsideOf_4 ⟨Nat.le_of_ble_eq_true rfl, Nat.le_of_ble_eq_true rfl⟩)) (fun r1 hq => ?_)
  subst hq
  refine xb_eq (tgt := 19) hx hb dX5_outsideOf_7 (by decide) (fun c1 => ?_) (fun c1 => ?_)
  · skip
    refine lv_iconst (v := 0) hx hb dX5_outsideOf_19 (by decide) ?_
    have hF : f_X5_outsideOf a0 qof = 0 := by
      rw [f_X5_outsideOf, if_neg c1]
    obtain rfl : 0 = o := hF.symm.trans ho
    exact W.iret (v := 0) hx hb hrt (fun t ht hM => ⟨_, rfl, rfl, ht.trans hH⟩) (fun q h => by cases h) dX5_outsideOf_20 hlocks
  · skip
    refine lv_aload_n hx hb dX5_outsideOf_10 rfl (lv_at hl 0 rfl) ?_
    refine xget (ci := 5) (C := RX5) (T := TX5) (N := 7) hx hb hts hin5 hown hK hW.1 0 rfl rfl 1 (by decide) w3 rfl dX5_outsideOf_11 ?_
    refine lv_iload_n hx hb dX5_outsideOf_14 rfl (lv_at hl 1 rfl) ?_
    refine xiald hx hb hK hW.1 1 0 rfl rfl (vp_w c1 (by decide)) a0.toNatClampNeg rfl (v := qof a0.toNatClampNeg) rfl dX5_outsideOf_15 ?_
    refine lv_goto (tgt := 20) hx hb dX5_outsideOf_16 (by decide) ?_
    have hF : f_X5_outsideOf a0 qof = qof a0.toNatClampNeg := by
      rw [f_X5_outsideOf, if_pos c1]
    obtain rfl : qof a0.toNatClampNeg = o := hF.symm.trans ho
    exact W.iret (v := qof a0.toNatClampNeg) hx hb hrt (fun t ht hM => ⟨_, rfl, rfl, ht.trans hH⟩) (fun q h => by cases h) dX5_outsideOf_20 hlocks
