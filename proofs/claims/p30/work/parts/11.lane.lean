def f_X2_iceOfAll_lp4 (lc : Int32) (lr : Nat → Option Nat) (qc : Nat → Int32) : Nat → Int32 → Int32 → Int32
  | 0, _, _ => 0
  | n + 1, xs, xi =>
    if lc ≤ xi then
      xs
    else
      f_X2_iceOfAll_lp4 lc lr qc n (xs + (qc (bxa lr xi.toNatClampNeg))) (xi + 1)
def f_X2_iceOfAll (lc : Int32) (lr : Nat → Option Nat) (qc : Nat → Int32) : Int32 :=
  f_X2_iceOfAll_lp4 lc lr qc ((lc.toInt - (0 : Int32).toInt).toNat + 1) 0 0
set_option maxHeartbeats 4000000 in
set_option maxRecDepth 100000 in
theorem c_X2_iceOfAll (l : Launch) (D : va_G) (cI cJ cZ cB : ClassId) (sz : Nat) (aL : Nat) (aLr : Nat) (lc : Int32) (lr : Nat → Option Nat) (L : List Nat) (qi : Nat → Int32) (qt : Nat → Int32) (qc : Nat → Int32) (qp : Nat → Int32) (hr : okR L lr) (hc : okC lc 10) (o : Int32) (ho : f_X2_iceOfAll lc lr qc = o) : Met l yX2_iceOfAll wsX2_iceOfAll ({ frames := 0, cells := 0, slots := 0, locals := 0 } : Room) (xPre D (xT cI cJ cZ cB) [.ref aL] ([(aL, .inr (2, [.ref aLr, .int lc])), (aLr, .inl (cB, 10, .inr (.inr (.inr (.inr lr)))))] ++ bxP L qi qt qc qp) sz) (vp_Si (fun r => r = o)) 0 0 (fun _ => False) := by
  refine xofW (Qc := fun _ => vp_Si (fun r => r = o)) (fr := fun _ _ => False) (cc := cX2_iceOfAll) (maxL := 3) (ret := (some .int)) (by decide) rfl (Nat.le_of_ble_eq_true rfl) ?_
  intro p e s m below meth c A ⟨hx, hb, hml, hown, hts⟩ hrt hlocks hnm hsz hK hW hA hG ls hl
  have hown : s.vm.findClass RX2 = some m.cls := hown
  have hl : lv_has ls 3 [(0, .ref aL)] := hl
  obtain ⟨H, hH⟩ : ∃ H, H = s.heap := ⟨_, rfl⟩
  have hW : xW D A s.heap ([(aL, .inr (2, [.ref aLr, .int lc])), (aLr, .inl (cB, 10, .inr (.inr (.inr (.inr lr)))))] ++ bxP L qi qt qc qp) H [] := by rw [hH]; exact hW
  have w1 := hts (.fieldLink RX2 18 "DryIceLane$Lane" "count" "I") (by decide +kernel)
  have hin2 : ∀ w ∈ u_ws RX2 TX2 2, w ∈ wsX2_iceOfAll := by decide +kernel
  have w3 := hts (.fieldLink RX2 11 "DryIceLane$Lane" "boxes" "[LDryIceLane$Box;") (by decide +kernel)
  have w4 := hts (.fieldLink RX2 36 "DryIceLane$Box" "ice" "I") (by decide +kernel)
  have hin0 : ∀ w ∈ u_ws RX0 TX0 4, w ∈ wsX2_iceOfAll := by decide +kernel
  rw [← hH]
  refine lv_iconst (v := 0) hx hb dX2_iceOfAll_0 (by decide) ?_
  refine lv_istore_n (lv' := [(1, .int 0), (0, .ref aL)]) hx hb dX2_iceOfAll_1 rfl hl (by decide) rfl (fun ls hl => ?_)
  refine lv_iconst (v := 0) hx hb dX2_iceOfAll_2 (by decide) ?_
  refine lv_istore_n (lv' := [(2, .int 0), (1, .int 0), (0, .ref aL)]) hx hb dX2_iceOfAll_3 rfl hl (by decide) rfl (fun ls hl => ?_)
  have hl4_ : ∀ (n : Nat) (xs : Int32) (xi : Int32), f_X2_iceOfAll_lp4 lc lr qc n xs xi = o → (0 ≤ xi.toInt) → (lc.toInt - xi.toInt).toNat < n → ∀ (ls : Array Slot), lv_has ls 3 [(0, .ref aL), (1, .int xs), (2, .int xi)] → W p l e ({ frames := 0, cells := 0, slots := 0, locals := 0 } : Room) s m [.ref aL].toArray below meth c H [] 0 0 (MQ below (vp_Si (fun r => r = o)) [.ref aL].toArray s 0 0 (fun _ => False)) (F0 m 4 ls []) := by
    intro n
    induction n with
    | zero =>
      intro xs xi _ _ hm
      exact absurd hm (Nat.not_lt_zero _)
    | succ n ih4 =>
      intro xs xi hlp4 hi0 hm4 ls hl
      refine lv_iload_n hx hb dX2_iceOfAll_4 rfl (lv_at hl 2 rfl) ?_
      refine lv_aload_n hx hb dX2_iceOfAll_5 rfl (lv_at hl 0 rfl) ?_
      refine xget (ci := 2) (C := RX2) (T := TX2) (N := 2) hx hb hts hin2 hown hK hW.1 0 rfl rfl 1 (by decide) w1 rfl dX2_iceOfAll_6 ?_
      refine lv_icmp_ge (tgt := 30) hx hb dX2_iceOfAll_9 (by decide) (fun c1 => ?_) (fun c1 => ?_)
      · skip
        refine lv_iload_n hx hb dX2_iceOfAll_30 rfl (lv_at hl 1 rfl) ?_
        have hF : f_X2_iceOfAll_lp4 lc lr qc (n + 1) xs xi = xs := by
          rw [f_X2_iceOfAll_lp4, if_pos c1]
        obtain rfl : xs = o := hF.symm.trans hlp4
        exact W.iret (v := xs) hx hb hrt (fun t ht hM => ⟨_, rfl, rfl, ht.trans hH⟩) (fun q h => by cases h) dX2_iceOfAll_31 hlocks
      · skip
        refine lv_iload_n hx hb dX2_iceOfAll_12 rfl (lv_at hl 1 rfl) ?_
        refine lv_aload_n hx hb dX2_iceOfAll_13 rfl (lv_at hl 0 rfl) ?_
        refine xget (ci := 2) (C := RX2) (T := TX2) (N := 2) hx hb hts hin2 hown hK hW.1 0 rfl rfl 0 (by decide) w3 rfl dX2_iceOfAll_14 ?_
        refine lv_iload_n hx hb dX2_iceOfAll_17 rfl (lv_at hl 2 rfl) ?_
        refine xaald hx hb hK hW.1 1 3 rfl rfl (in_lt hi0 c1 hc.2) xi.toNatClampNeg rfl (ok_some hr (in_lt hi0 c1 hc.2)) dX2_iceOfAll_18 ?_
        refine xbget2 hx hb hts hin0 hown hK hW (ok_mem hr (in_lt hi0 c1 hc.2)) w4 dX2_iceOfAll_19 ?_
        refine lv_iadd hx hb dX2_iceOfAll_22 ?_
        refine lv_istore_n (lv' := [(1, .int (xs + (qc (bxa lr xi.toNatClampNeg)))), (0, .ref aL), (2, .int xi)]) hx hb dX2_iceOfAll_23 rfl hl (by decide) rfl (fun ls hl => ?_)
        refine lv_iinc (v := xi + 1) (lv' := [(2, .int (xi + 1)), (1, .int (xs + (qc (bxa lr xi.toNatClampNeg)))), (0, .ref aL)]) hx hb dX2_iceOfAll_24 hl (k := 2) rfl rfl (by decide) rfl (fun ls hl => ?_)
        refine lv_goto (tgt := 4) hx hb dX2_iceOfAll_27 (by decide) ?_
        have hF : f_X2_iceOfAll_lp4 lc lr qc (n + 1) xs xi = f_X2_iceOfAll_lp4 lc lr qc n (xs + (qc (bxa lr xi.toNatClampNeg))) (xi + 1) := by
          rw [f_X2_iceOfAll_lp4, if_neg c1]
        refine W.widen (k := 0) (n := 0) (Nat.le_of_ble_eq_true rfl) (Nat.le_of_ble_eq_true rfl) ?_
        exact ih4 (xs + (qc (bxa lr xi.toNatClampNeg))) (xi + 1) (hF.symm.trans hlp4) (up_0 hi0 c1) (up_mu c1 hm4) _ (lv_sub hl [2, 1, 0] rfl)
  have hF : f_X2_iceOfAll lc lr qc = f_X2_iceOfAll_lp4 lc lr qc ((lc.toInt - (0 : Int32).toInt).toNat + 1) 0 0 := by
    rw [f_X2_iceOfAll]
  refine W.widen (k := 0) (n := 0) (Nat.le_of_ble_eq_true rfl) (Nat.le_of_ble_eq_true rfl) ?_
  exact hl4_ ((lc.toInt - (0 : Int32).toInt).toNat + 1) 0 0 (hF.symm.trans ho) (by decide) (Nat.lt_succ_self _) _ (lv_sub hl [2, 1, 0] rfl)

def f_X2_letGoOff_lp5 (a0 : Int32) (a1 : Int32) (lc : Int32) (lr : Nat → Option Nat) (qi : Nat → Int32) : Nat → Int32 → Int32 → (Nat → Int32) → (Nat → Int32) → Int32 × (Nat → Int32) × (Nat → Int32)
  | 0, _, _, _, _ => (0, (fun _ => 0), (fun _ => 0))
  | n + 1, xs, xi, yc, yp =>
    if lc ≤ xi then
      (xs, yc, yp)
    else
      f_X2_letGoOff_lp5 a0 a1 lc lr qi n (xs + (f_X0_goingOff (bxa lr xi.toNatClampNeg) a0 a1 qi yc)) (xi + 1) (f_X0_take (bxa lr xi.toNatClampNeg) (f_X0_goingOff (bxa lr xi.toNatClampNeg) a0 a1 qi yc) yc yp).1 (f_X0_take (bxa lr xi.toNatClampNeg) (f_X0_goingOff (bxa lr xi.toNatClampNeg) a0 a1 qi yc) yc yp).2
def f_X2_letGoOff (a0 : Int32) (a1 : Int32) (lc : Int32) (lr : Nat → Option Nat) (qi : Nat → Int32) (qc : Nat → Int32) (qp : Nat → Int32) : Int32 × (Nat → Int32) × (Nat → Int32) :=
  f_X2_letGoOff_lp5 a0 a1 lc lr qi ((lc.toInt - (0 : Int32).toInt).toNat + 1) 0 0 qc qp
set_option maxHeartbeats 4000000 in
set_option maxRecDepth 100000 in
theorem c_X2_letGoOff (l : Launch) (D : va_G) (cI cJ cZ cB : ClassId) (sz : Nat) (aL : Nat) (aLr : Nat) (a0 : Int32) (a1 : Int32) (lc : Int32) (lr : Nat → Option Nat) (L : List Nat) (qi : Nat → Int32) (qt : Nat → Int32) (qc : Nat → Int32) (qp : Nat → Int32) (hr : okR L lr) (hc : okC lc 10) (o : Int32 × (Nat → Int32) × (Nat → Int32)) (ho : f_X2_letGoOff a0 a1 lc lr qi qc qp = o) : Met l yX2_letGoOff wsX2_letGoOff ({ frames := 2, cells := 0, slots := 0, locals := 47 } : Room) (xPre D (xT cI cJ cZ cB) [.ref aL, .int a0, .int a1] ([(aL, .inr (2, [.ref aLr, .int lc])), (aLr, .inl (cB, 10, .inr (.inr (.inr (.inr lr)))))] ++ bxP L qi qt qc qp) sz) (va_Qi (fun r (_ : Unit) => r = o.1) (fun _ t => xB D (([(aL, .inr (2, [.ref aLr, .int lc])), (aLr, .inl (cB, 10, .inr (.inr (.inr (.inr lr)))))] : va_W) ++ bxP L qi qt o.2.1 o.2.2) (va_A ([(aL, .inr (2, [.ref aLr, .int lc])), (aLr, .inl (cB, 10, .inr (.inr (.inr (.inr lr)))))] ++ bxP L qi qt qc qp) sz) t) (va_A ([(aL, .inr (2, [.ref aLr, .int lc])), (aLr, .inl (cB, 10, .inr (.inr (.inr (.inr lr)))))] ++ bxP L qi qt qc qp) sz)) 0 0 (va_A ([(aL, .inr (2, [.ref aLr, .int lc])), (aLr, .inl (cB, 10, .inr (.inr (.inr (.inr lr)))))] ++ bxP L qi qt qc qp) sz) := by
  refine xofW (Qc := fun A0 => va_Qi (fun r (_ : Unit) => r = o.1) (fun _ t => xB D (([(aL, .inr (2, [.ref aLr, .int lc])), (aLr, .inl (cB, 10, .inr (.inr (.inr (.inr lr)))))] : va_W) ++ bxP L qi qt o.2.1 o.2.2) A0 t) A0) (fr := fun A => A) (cc := cX2_letGoOff) (maxL := 6) (ret := (some .int)) (by decide) rfl (Nat.le_of_ble_eq_true rfl) ?_
  intro p e s m below meth c A ⟨hx, hb, hml, hown, hts⟩ hrt hlocks hnm hsz hK hW hA hG ls hl
  have hown : s.vm.findClass RX2 = some m.cls := hown
  have hl : lv_has ls 6 [(0, .ref aL), (1, .int a0), (2, .int a1)] := hl
  obtain ⟨H, hH⟩ : ∃ H, H = s.heap := ⟨_, rfl⟩
  have hW : xW D A s.heap ([(aL, .inr (2, [.ref aLr, .int lc])), (aLr, .inl (cB, 10, .inr (.inr (.inr (.inr lr)))))] ++ bxP L qi qt qc qp) H [] := by rw [hH]; exact hW
  have w1 := hts (.fieldLink RX2 18 "DryIceLane$Lane" "count" "I") (by decide +kernel)
  have hin2 : ∀ w ∈ u_ws RX2 TX2 2, w ∈ wsX2_letGoOff := by decide +kernel
  have w3 := hts (.fieldLink RX2 11 "DryIceLane$Lane" "boxes" "[LDryIceLane$Box;") (by decide +kernel)
  rw [← hH]
  refine lv_iconst (v := 0) hx hb dX2_letGoOff_0 (by decide) ?_
  refine lv_istore_n (lv' := [(3, .int 0), (0, .ref aL), (1, .int a0), (2, .int a1)]) hx hb dX2_letGoOff_1 rfl hl (by decide) rfl (fun ls hl => ?_)
  refine lv_iconst (v := 0) hx hb dX2_letGoOff_2 (by decide) ?_
  refine lv_istore (lv' := [(4, .int 0), (3, .int 0), (0, .ref aL), (1, .int a0), (2, .int a1)]) hx hb dX2_letGoOff_3 hl (by decide) rfl (fun ls hl => ?_)
  have hl5_ : ∀ (n : Nat) (xs : Int32) (xi : Int32) (yc : Nat → Int32) (yp : Nat → Int32), f_X2_letGoOff_lp5 a0 a1 lc lr qi n xs xi yc yp = o → (0 ≤ xi.toInt) → (lc.toInt - xi.toInt).toNat < n → ∀ (H : Heap) (locs : List Loc) (ls : Array Slot), xW D A s.heap ([(aL, .inr (2, [.ref aLr, .int lc])), (aLr, .inl (cB, 10, .inr (.inr (.inr (.inr lr)))))] ++ bxP L qi qt yc yp) H locs → lv_has ls 6 [(0, .ref aL), (1, .int a0), (2, .int a1), (3, .int xs), (4, .int xi)] → W p l e ({ frames := 2, cells := 0, slots := 0, locals := 47 } : Room) s m [.ref aL, .int a0, .int a1].toArray below meth c H locs 0 0 (MQ below (va_Qi (fun r (_ : Unit) => r = o.1) (fun _ t => xB D (([(aL, .inr (2, [.ref aLr, .int lc])), (aLr, .inl (cB, 10, .inr (.inr (.inr (.inr lr)))))] : va_W) ++ bxP L qi qt o.2.1 o.2.2) A t) A) [.ref aL, .int a0, .int a1].toArray s 0 0 A) (F0 m 5 ls []) := by
    intro n
    induction n with
    | zero =>
      intro xs xi yc yp _ _ hm
      exact absurd hm (Nat.not_lt_zero _)
    | succ n ih5 =>
      intro xs xi yc yp hlp5 hi0 hm5 H locs ls hW hl
      refine lv_iload hx hb dX2_letGoOff_5 (lv_at hl 4 rfl) ?_
      refine lv_aload_n hx hb dX2_letGoOff_7 rfl (lv_at hl 0 rfl) ?_
      refine xget (ci := 2) (C := RX2) (T := TX2) (N := 2) hx hb hts hin2 hown hK hW.1 0 rfl rfl 1 (by decide) w1 rfl dX2_letGoOff_8 ?_
      refine lv_icmp_ge (tgt := 51) hx hb dX2_letGoOff_11 (by decide) (fun c1 => ?_) (fun c1 => ?_)
      · skip
        refine lv_iload_n hx hb dX2_letGoOff_51 rfl (lv_at hl 3 rfl) ?_
        have hF : f_X2_letGoOff_lp5 a0 a1 lc lr qi (n + 1) xs xi yc yp = (xs, yc, yp) := by
          rw [f_X2_letGoOff_lp5, if_pos c1]
        obtain rfl : (xs, yc, yp) = o := hF.symm.trans hlp5
        exact W.iret (v := xs) hx hb hrt (fun t ht hM => ⟨⟨_, (), rfl, rfl, ⟨by rw [ht]; exact hW.1, hW.2.1⟩⟩, hW.2.2.F ht⟩) hW.2.2.2.2 dX2_letGoOff_52 hlocks
      · skip
        refine lv_aload_n hx hb dX2_letGoOff_14 rfl (lv_at hl 0 rfl) ?_
        refine xget (ci := 2) (C := RX2) (T := TX2) (N := 2) hx hb hts hin2 hown hK hW.1 0 rfl rfl 0 (by decide) w3 rfl dX2_letGoOff_15 ?_
        refine lv_iload hx hb dX2_letGoOff_18 (lv_at hl 4 rfl) ?_
        refine xaald hx hb hK hW.1 1 3 rfl rfl (in_lt hi0 c1 hc.2) xi.toNatClampNeg rfl (ok_some hr (in_lt hi0 c1 hc.2)) dX2_letGoOff_20 ?_
        refine lv_iload_n hx hb dX2_letGoOff_21 rfl (lv_at hl 1 rfl) ?_
        refine lv_iload_n hx hb dX2_letGoOff_22 rfl (lv_at hl 2 rfl) ?_
        refine vp_callSi (va_Run.run (xrunV (As := [.int a0, .int a1]) (rest := []) ⟨hx, hb, hml, hown, hts⟩ (c_X0_goingOff l D cI cJ cZ cB H.size (bxa lr xi.toNatClampNeg) a0 a1 L qi qt yc yp (ok_mem hr (in_lt hi0 c1 hc.2)) _ rfl) (cwV 2 hts gX2_letGoOff_X0_goingOff rfl rfl rfl (by decide +kernel) ⟨Nat.le_of_ble_eq_true rfl, Nat.le_of_ble_eq_true rfl⟩) hK hG hW.2.2 (xsubP hW hA [] rfl (by decide)) (xbrecv hK hW.1 (ok_mem hr (in_lt hi0 c1 hc.2))) rfl hl.1 rfl (Nat.le_of_ble_eq_true rfl) dX2_letGoOff_23 ⟨Nat.le_of_ble_eq_true rfl, Nat.le_of_ble_eq_true rfl⟩)) (fun r1 hq => ?_)
        subst hq
        refine lv_istore (lv' := [(5, .int (f_X0_goingOff (bxa lr xi.toNatClampNeg) a0 a1 qi yc)), (0, .ref aL), (1, .int a0), (2, .int a1), (3, .int xs), (4, .int xi)]) hx hb dX2_letGoOff_26 hl (by decide) rfl (fun ls hl => ?_)
        refine lv_aload_n hx hb dX2_letGoOff_28 rfl (lv_at hl 1 rfl) ?_
        refine xget (ci := 2) (C := RX2) (T := TX2) (N := 2) hx hb hts hin2 hown hK hW.1 0 rfl rfl 0 (by decide) w3 rfl dX2_letGoOff_29 ?_
        refine lv_iload hx hb dX2_letGoOff_32 (lv_at hl 5 rfl) ?_
        refine xaald hx hb hK hW.1 1 3 rfl rfl (in_lt hi0 c1 hc.2) xi.toNatClampNeg rfl (ok_some hr (in_lt hi0 c1 hc.2)) dX2_letGoOff_34 ?_
        refine lv_iload hx hb dX2_letGoOff_35 (lv_at hl 0 rfl) ?_
        refine xPv (wr := [(aL, .inr (2, [.ref aLr, .int lc])), (aLr, .inl (cB, 10, .inr (.inr (.inr (.inr lr)))))]) hW hA [] [0, 1] rfl rfl (by decide) (by decide) (by decide) (xrunV (As := [.int (f_X0_goingOff (bxa lr xi.toNatClampNeg) a0 a1 qi yc)]) (rest := []) ⟨hx, hb, hml, hown, hts⟩ (c_X0_take l D cI cJ cZ cB H.size (bxa lr xi.toNatClampNeg) (f_X0_goingOff (bxa lr xi.toNatClampNeg) a0 a1 qi yc) L qi qt yc yp (ok_mem hr (in_lt hi0 c1 hc.2)) _ rfl) (cwV 1 hts gX2_letGoOff_X0_take rfl rfl rfl (by decide +kernel) ⟨Nat.le_of_ble_eq_true rfl, Nat.le_of_ble_eq_true rfl⟩) hK hG hW.2.2 (xsubP hW hA [] rfl (by decide)) (xbrecv hK hW.1 (ok_mem hr (in_lt hi0 c1 hc.2))) rfl hl.1 rfl (Nat.le_of_ble_eq_true rfl) dX2_letGoOff_37 ⟨Nat.le_of_ble_eq_true rfl, Nat.le_of_ble_eq_true rfl⟩) (fun _ H locs _ hW => ?_)
        have hW : xW D A s.heap ([(aL, .inr (2, [.ref aLr, .int lc])), (aLr, .inl (cB, 10, .inr (.inr (.inr (.inr lr)))))] ++ bxP L qi qt (f_X0_take (bxa lr xi.toNatClampNeg) (f_X0_goingOff (bxa lr xi.toNatClampNeg) a0 a1 qi yc) yc yp).1 (f_X0_take (bxa lr xi.toNatClampNeg) (f_X0_goingOff (bxa lr xi.toNatClampNeg) a0 a1 qi yc) yc yp).2) H _ := hW
        refine lv_iload_n hx hb dX2_letGoOff_40 rfl (lv_at hl 4 rfl) ?_
        refine lv_iload hx hb dX2_letGoOff_41 (lv_at hl 0 rfl) ?_
        refine lv_iadd hx hb dX2_letGoOff_43 ?_
        refine lv_istore_n (lv' := [(3, .int (xs + (f_X0_goingOff (bxa lr xi.toNatClampNeg) a0 a1 qi yc))), (5, .int (f_X0_goingOff (bxa lr xi.toNatClampNeg) a0 a1 qi yc)), (0, .ref aL), (1, .int a0), (2, .int a1), (4, .int xi)]) hx hb dX2_letGoOff_44 rfl hl (by decide) rfl (fun ls hl => ?_)
        refine lv_iinc (v := xi + 1) (lv' := [(4, .int (xi + 1)), (3, .int (xs + (f_X0_goingOff (bxa lr xi.toNatClampNeg) a0 a1 qi yc))), (5, .int (f_X0_goingOff (bxa lr xi.toNatClampNeg) a0 a1 qi yc)), (0, .ref aL), (1, .int a0), (2, .int a1)]) hx hb dX2_letGoOff_45 hl (k := 5) rfl rfl (by decide) rfl (fun ls hl => ?_)
        refine lv_goto (tgt := 5) hx hb dX2_letGoOff_48 (by decide) ?_
        have hF : f_X2_letGoOff_lp5 a0 a1 lc lr qi (n + 1) xs xi yc yp = f_X2_letGoOff_lp5 a0 a1 lc lr qi n (xs + (f_X0_goingOff (bxa lr xi.toNatClampNeg) a0 a1 qi yc)) (xi + 1) (f_X0_take (bxa lr xi.toNatClampNeg) (f_X0_goingOff (bxa lr xi.toNatClampNeg) a0 a1 qi yc) yc yp).1 (f_X0_take (bxa lr xi.toNatClampNeg) (f_X0_goingOff (bxa lr xi.toNatClampNeg) a0 a1 qi yc) yc yp).2 := by
          rw [f_X2_letGoOff_lp5, if_neg c1]
        refine W.widen (k := 0) (n := 0) (Nat.le_of_ble_eq_true rfl) (Nat.le_of_ble_eq_true rfl) ?_
        exact ih5 (xs + (f_X0_goingOff (bxa lr xi.toNatClampNeg) a0 a1 qi yc)) (xi + 1) (f_X0_take (bxa lr xi.toNatClampNeg) (f_X0_goingOff (bxa lr xi.toNatClampNeg) a0 a1 qi yc) yc yp).1 (f_X0_take (bxa lr xi.toNatClampNeg) (f_X0_goingOff (bxa lr xi.toNatClampNeg) a0 a1 qi yc) yc yp).2 (hF.symm.trans hlp5) (up_0 hi0 c1) (up_mu c1 hm5) _ _ _ hW (lv_sub hl [3, 4, 5, 1, 0] rfl)
  have hF : f_X2_letGoOff a0 a1 lc lr qi qc qp = f_X2_letGoOff_lp5 a0 a1 lc lr qi ((lc.toInt - (0 : Int32).toInt).toNat + 1) 0 0 qc qp := by
    rw [f_X2_letGoOff]
  refine W.widen (k := 0) (n := 0) (Nat.le_of_ble_eq_true rfl) (Nat.le_of_ble_eq_true rfl) ?_
  exact hl5_ ((lc.toInt - (0 : Int32).toInt).toNat + 1) 0 0 qc qp (hF.symm.trans ho) (by decide) (Nat.lt_succ_self _) _ _ _ hW (lv_sub hl [2, 3, 4, 1, 0] rfl)

def f_X2_takeFromFront_lp7 (lc : Int32) (lr : Nat → Option Nat) : Nat → Int32 → Int32 → Int32 → (Nat → Int32) → (Nat → Int32) → Int32 × (Nat → Int32) × (Nat → Int32)
  | 0, _, _, _, _, _ => (0, (fun _ => 0), (fun _ => 0))
  | n + 1, xm, xt, xi, yc, yp =>
    if lc ≤ xi then
      (xt, yc, yp)
    else
      if xm ≤ 0 then
        (xt, yc, yp)
      else
        if (if xm < (yc (bxa lr xi.toNatClampNeg)) then xm else (yc (bxa lr xi.toNatClampNeg))) ≤ 0 then
          f_X2_takeFromFront_lp7 lc lr n (xm - (if xm < (yc (bxa lr xi.toNatClampNeg)) then xm else (yc (bxa lr xi.toNatClampNeg)))) (xt + 0) (xi + 1) (f_X0_take (bxa lr xi.toNatClampNeg) (if xm < (yc (bxa lr xi.toNatClampNeg)) then xm else (yc (bxa lr xi.toNatClampNeg))) yc yp).1 (f_X0_take (bxa lr xi.toNatClampNeg) (if xm < (yc (bxa lr xi.toNatClampNeg)) then xm else (yc (bxa lr xi.toNatClampNeg))) yc yp).2
        else
          f_X2_takeFromFront_lp7 lc lr n (xm - (if xm < (yc (bxa lr xi.toNatClampNeg)) then xm else (yc (bxa lr xi.toNatClampNeg)))) (xt + 1) (xi + 1) (f_X0_take (bxa lr xi.toNatClampNeg) (if xm < (yc (bxa lr xi.toNatClampNeg)) then xm else (yc (bxa lr xi.toNatClampNeg))) yc yp).1 (f_X0_take (bxa lr xi.toNatClampNeg) (if xm < (yc (bxa lr xi.toNatClampNeg)) then xm else (yc (bxa lr xi.toNatClampNeg))) yc yp).2
def f_X2_takeFromFront (a0 : Int32) (lc : Int32) (lr : Nat → Option Nat) (qc : Nat → Int32) (qp : Nat → Int32) : Int32 × (Nat → Int32) × (Nat → Int32) :=
  f_X2_takeFromFront_lp7 lc lr ((lc.toInt - (0 : Int32).toInt).toNat + 1) a0 0 0 qc qp
set_option maxHeartbeats 4000000 in
set_option maxRecDepth 100000 in
theorem c_X2_takeFromFront (l : Launch) (D : va_G) (cI cJ cZ cB : ClassId) (sz : Nat) (aL : Nat) (aLr : Nat) (a0 : Int32) (lc : Int32) (lr : Nat → Option Nat) (L : List Nat) (qi : Nat → Int32) (qt : Nat → Int32) (qc : Nat → Int32) (qp : Nat → Int32) (hr : okR L lr) (hc : okC lc 10) (o : Int32 × (Nat → Int32) × (Nat → Int32)) (ho : f_X2_takeFromFront a0 lc lr qc qp = o) : Met l yX2_takeFromFront wsX2_takeFromFront ({ frames := 2, cells := 0, slots := 0, locals := 35 } : Room) (xPre D (xT cI cJ cZ cB) [.ref aL, .int a0] ([(aL, .inr (2, [.ref aLr, .int lc])), (aLr, .inl (cB, 10, .inr (.inr (.inr (.inr lr)))))] ++ bxP L qi qt qc qp) sz) (va_Qi (fun r (_ : Unit) => r = o.1) (fun _ t => xB D (([(aL, .inr (2, [.ref aLr, .int lc])), (aLr, .inl (cB, 10, .inr (.inr (.inr (.inr lr)))))] : va_W) ++ bxP L qi qt o.2.1 o.2.2) (va_A ([(aL, .inr (2, [.ref aLr, .int lc])), (aLr, .inl (cB, 10, .inr (.inr (.inr (.inr lr)))))] ++ bxP L qi qt qc qp) sz) t) (va_A ([(aL, .inr (2, [.ref aLr, .int lc])), (aLr, .inl (cB, 10, .inr (.inr (.inr (.inr lr)))))] ++ bxP L qi qt qc qp) sz)) 0 0 (va_A ([(aL, .inr (2, [.ref aLr, .int lc])), (aLr, .inl (cB, 10, .inr (.inr (.inr (.inr lr)))))] ++ bxP L qi qt qc qp) sz) := by
  refine xofW (Qc := fun A0 => va_Qi (fun r (_ : Unit) => r = o.1) (fun _ t => xB D (([(aL, .inr (2, [.ref aLr, .int lc])), (aLr, .inl (cB, 10, .inr (.inr (.inr (.inr lr)))))] : va_W) ++ bxP L qi qt o.2.1 o.2.2) A0 t) A0) (fr := fun A => A) (cc := cX2_takeFromFront) (maxL := 6) (ret := (some .int)) (by decide) rfl (Nat.le_of_ble_eq_true rfl) ?_
  intro p e s m below meth c A ⟨hx, hb, hml, hown, hts⟩ hrt hlocks hnm hsz hK hW hA hG ls hl
  have hown : s.vm.findClass RX2 = some m.cls := hown
  have hl : lv_has ls 6 [(0, .ref aL), (1, .int a0)] := hl
  obtain ⟨H, hH⟩ : ∃ H, H = s.heap := ⟨_, rfl⟩
  have hW : xW D A s.heap ([(aL, .inr (2, [.ref aLr, .int lc])), (aLr, .inl (cB, 10, .inr (.inr (.inr (.inr lr)))))] ++ bxP L qi qt qc qp) H [] := by rw [hH]; exact hW
  have w1 := hts (.fieldLink RX2 18 "DryIceLane$Lane" "count" "I") (by decide +kernel)
  have hin2 : ∀ w ∈ u_ws RX2 TX2 2, w ∈ wsX2_takeFromFront := by decide +kernel
  have w3 := hts (.fieldLink RX2 11 "DryIceLane$Lane" "boxes" "[LDryIceLane$Box;") (by decide +kernel)
  have w4 := hts (.fieldLink RX2 36 "DryIceLane$Box" "ice" "I") (by decide +kernel)
  have hin0 : ∀ w ∈ u_ws RX0 TX0 4, w ∈ wsX2_takeFromFront := by decide +kernel
  have w6 := hts (.methodLink RX2 46 Lib.Math.min.name) (by decide +kernel)
  have w7 := hts (.static Lib.Math.min.name) (by decide +kernel)
  have w8 := hts (.initialized "java/lang/Math") (by decide +kernel)
  have w9 := hts (.code Lib.Math.min.name Lib.Math.min.code 2 (some .int)) (by decide +kernel)
  rw [← hH]
  refine lv_iload_n hx hb dX2_takeFromFront_0 rfl (lv_at hl 1 rfl) ?_
  refine lv_istore_n (lv' := [(2, .int a0), (0, .ref aL), (1, .int a0)]) hx hb dX2_takeFromFront_1 rfl hl (by decide) rfl (fun ls hl => ?_)
  refine lv_iconst (v := 0) hx hb dX2_takeFromFront_2 (by decide) ?_
  refine lv_istore_n (lv' := [(3, .int 0), (2, .int a0), (0, .ref aL), (1, .int a0)]) hx hb dX2_takeFromFront_3 rfl hl (by decide) rfl (fun ls hl => ?_)
  refine lv_iconst (v := 0) hx hb dX2_takeFromFront_4 (by decide) ?_
  refine lv_istore (lv' := [(4, .int 0), (3, .int 0), (2, .int a0), (0, .ref aL), (1, .int a0)]) hx hb dX2_takeFromFront_5 hl (by decide) rfl (fun ls hl => ?_)
  have hl7_ : ∀ (n : Nat) (xm : Int32) (xt : Int32) (xi : Int32) (yc : Nat → Int32) (yp : Nat → Int32), f_X2_takeFromFront_lp7 lc lr n xm xt xi yc yp = o → (0 ≤ xi.toInt) → (lc.toInt - xi.toInt).toNat < n → ∀ (H : Heap) (locs : List Loc) (ls : Array Slot), xW D A s.heap ([(aL, .inr (2, [.ref aLr, .int lc])), (aLr, .inl (cB, 10, .inr (.inr (.inr (.inr lr)))))] ++ bxP L qi qt yc yp) H locs → lv_has ls 6 [(0, .ref aL), (1, .int a0), (2, .int xm), (3, .int xt), (4, .int xi)] → W p l e ({ frames := 2, cells := 0, slots := 0, locals := 35 } : Room) s m [.ref aL, .int a0].toArray below meth c H locs 0 0 (MQ below (va_Qi (fun r (_ : Unit) => r = o.1) (fun _ t => xB D (([(aL, .inr (2, [.ref aLr, .int lc])), (aLr, .inl (cB, 10, .inr (.inr (.inr (.inr lr)))))] : va_W) ++ bxP L qi qt o.2.1 o.2.2) A t) A) [.ref aL, .int a0].toArray s 0 0 A) (F0 m 7 ls []) := by
    intro n
    induction n with
    | zero =>
      intro xm xt xi yc yp _ _ hm
      exact absurd hm (Nat.not_lt_zero _)
    | succ n ih7 =>
      intro xm xt xi yc yp hlp7 hi0 hm7 H locs ls hW hl
      refine lv_iload hx hb dX2_takeFromFront_7 (lv_at hl 4 rfl) ?_
      refine lv_aload_n hx hb dX2_takeFromFront_9 rfl (lv_at hl 0 rfl) ?_
      refine xget (ci := 2) (C := RX2) (T := TX2) (N := 2) hx hb hts hin2 hown hK hW.1 0 rfl rfl 1 (by decide) w1 rfl dX2_takeFromFront_10 ?_
      refine lv_icmp_ge (tgt := 72) hx hb dX2_takeFromFront_13 (by decide) (fun c1 => ?_) (fun c1 => ?_)
      · skip
        refine lv_iload_n hx hb dX2_takeFromFront_72 rfl (lv_at hl 3 rfl) ?_
        have hF : f_X2_takeFromFront_lp7 lc lr (n + 1) xm xt xi yc yp = (xt, yc, yp) := by
          rw [f_X2_takeFromFront_lp7, if_pos c1]
        obtain rfl : (xt, yc, yp) = o := hF.symm.trans hlp7
        exact W.iret (v := xt) hx hb hrt (fun t ht hM => ⟨⟨_, (), rfl, rfl, ⟨by rw [ht]; exact hW.1, hW.2.1⟩⟩, hW.2.2.F ht⟩) hW.2.2.2.2 dX2_takeFromFront_73 hlocks
      · skip
        refine lv_iload_n hx hb dX2_takeFromFront_16 rfl (lv_at hl 2 rfl) ?_
        refine lv_if_le (tgt := 72) hx hb dX2_takeFromFront_17 (by decide) (fun c2 => ?_) (fun c2 => ?_)
        · skip
          refine lv_iload_n hx hb dX2_takeFromFront_72 rfl (lv_at hl 3 rfl) ?_
          have hF : f_X2_takeFromFront_lp7 lc lr (n + 1) xm xt xi yc yp = (xt, yc, yp) := by
            rw [f_X2_takeFromFront_lp7, if_neg c1, if_pos c2]
          obtain rfl : (xt, yc, yp) = o := hF.symm.trans hlp7
          exact W.iret (v := xt) hx hb hrt (fun t ht hM => ⟨⟨_, (), rfl, rfl, ⟨by rw [ht]; exact hW.1, hW.2.1⟩⟩, hW.2.2.F ht⟩) hW.2.2.2.2 dX2_takeFromFront_73 hlocks
        · skip
          refine lv_aload_n hx hb dX2_takeFromFront_20 rfl (lv_at hl 0 rfl) ?_
          refine xget (ci := 2) (C := RX2) (T := TX2) (N := 2) hx hb hts hin2 hown hK hW.1 0 rfl rfl 0 (by decide) w3 rfl dX2_takeFromFront_21 ?_
          refine lv_iload hx hb dX2_takeFromFront_24 (lv_at hl 4 rfl) ?_
          refine xaald hx hb hK hW.1 1 3 rfl rfl (in_lt hi0 c1 hc.2) xi.toNatClampNeg rfl (ok_some hr (in_lt hi0 c1 hc.2)) dX2_takeFromFront_26 ?_
          refine xbget2 hx hb hts hin0 hown hK hW (ok_mem hr (in_lt hi0 c1 hc.2)) w4 dX2_takeFromFront_27 ?_
          refine lv_iload_n hx hb dX2_takeFromFront_30 rfl (lv_at hl 2 rfl) ?_
          refine va_mmin hx hb (by rw [hml]; exact hl.1.symm) hown w6 w7 w8 w9 (Nat.le_of_ble_eq_true rfl) (Nat.le_of_ble_eq_true rfl) (by omega) (by omega) dX2_takeFromFront_31 ?_
          refine lv_istore (lv' := [(5, .int (if xm < (yc (bxa lr xi.toNatClampNeg)) then xm else (yc (bxa lr xi.toNatClampNeg)))), (0, .ref aL), (1, .int a0), (2, .int xm), (3, .int xt), (4, .int xi)]) hx hb dX2_takeFromFront_34 hl (by decide) rfl (fun ls hl => ?_)
          refine lv_aload_n hx hb dX2_takeFromFront_36 rfl (lv_at hl 1 rfl) ?_
          refine xget (ci := 2) (C := RX2) (T := TX2) (N := 2) hx hb hts hin2 hown hK hW.1 0 rfl rfl 0 (by decide) w3 rfl dX2_takeFromFront_37 ?_
          refine lv_iload hx hb dX2_takeFromFront_40 (lv_at hl 5 rfl) ?_
          refine xaald hx hb hK hW.1 1 3 rfl rfl (in_lt hi0 c1 hc.2) xi.toNatClampNeg rfl (ok_some hr (in_lt hi0 c1 hc.2)) dX2_takeFromFront_42 ?_
          refine lv_iload hx hb dX2_takeFromFront_43 (lv_at hl 0 rfl) ?_
          refine xPv (wr := [(aL, .inr (2, [.ref aLr, .int lc])), (aLr, .inl (cB, 10, .inr (.inr (.inr (.inr lr)))))]) hW hA [] [0, 1] rfl rfl (by decide) (by decide) (by decide) (xrunV (As := [.int (if xm < (yc (bxa lr xi.toNatClampNeg)) then xm else (yc (bxa lr xi.toNatClampNeg)))]) (rest := []) ⟨hx, hb, hml, hown, hts⟩ (c_X0_take l D cI cJ cZ cB H.size (bxa lr xi.toNatClampNeg) (if xm < (yc (bxa lr xi.toNatClampNeg)) then xm else (yc (bxa lr xi.toNatClampNeg))) L qi qt yc yp (ok_mem hr (in_lt hi0 c1 hc.2)) _ rfl) (cwV 1 hts gX2_takeFromFront_X0_take rfl rfl rfl (by decide +kernel) ⟨Nat.le_of_ble_eq_true rfl, Nat.le_of_ble_eq_true rfl⟩) hK hG hW.2.2 (xsubP hW hA [] rfl (by decide)) (xbrecv hK hW.1 (ok_mem hr (in_lt hi0 c1 hc.2))) rfl hl.1 rfl (Nat.le_of_ble_eq_true rfl) dX2_takeFromFront_45 ⟨Nat.le_of_ble_eq_true rfl, Nat.le_of_ble_eq_true rfl⟩) (fun _ H locs _ hW => ?_)
          have hW : xW D A s.heap ([(aL, .inr (2, [.ref aLr, .int lc])), (aLr, .inl (cB, 10, .inr (.inr (.inr (.inr lr)))))] ++ bxP L qi qt (f_X0_take (bxa lr xi.toNatClampNeg) (if xm < (yc (bxa lr xi.toNatClampNeg)) then xm else (yc (bxa lr xi.toNatClampNeg))) yc yp).1 (f_X0_take (bxa lr xi.toNatClampNeg) (if xm < (yc (bxa lr xi.toNatClampNeg)) then xm else (yc (bxa lr xi.toNatClampNeg))) yc yp).2) H _ := hW
          refine lv_iload_n hx hb dX2_takeFromFront_48 rfl (lv_at hl 3 rfl) ?_
          refine lv_iload hx hb dX2_takeFromFront_49 (lv_at hl 0 rfl) ?_
          refine lv_isub hx hb dX2_takeFromFront_51 ?_
          refine lv_istore_n (lv' := [(2, .int (xm - (if xm < (yc (bxa lr xi.toNatClampNeg)) then xm else (yc (bxa lr xi.toNatClampNeg))))), (5, .int (if xm < (yc (bxa lr xi.toNatClampNeg)) then xm else (yc (bxa lr xi.toNatClampNeg)))), (0, .ref aL), (1, .int a0), (3, .int xt), (4, .int xi)]) hx hb dX2_takeFromFront_52 rfl hl (by decide) rfl (fun ls hl => ?_)
          refine lv_iload_n hx hb dX2_takeFromFront_53 rfl (lv_at hl 4 rfl) ?_
          refine lv_iload hx hb dX2_takeFromFront_54 (lv_at hl 1 rfl) ?_
          refine lv_if_le (tgt := 63) hx hb dX2_takeFromFront_56 (by decide) (fun c3 => ?_) (fun c3 => ?_)
          · skip
            refine lv_iconst (v := 0) hx hb dX2_takeFromFront_63 (by decide) ?_
            refine lv_iadd hx hb dX2_takeFromFront_64 ?_
            refine lv_istore_n (lv' := [(3, .int (xt + 0)), (2, .int (xm - (if xm < (yc (bxa lr xi.toNatClampNeg)) then xm else (yc (bxa lr xi.toNatClampNeg))))), (5, .int (if xm < (yc (bxa lr xi.toNatClampNeg)) then xm else (yc (bxa lr xi.toNatClampNeg)))), (0, .ref aL), (1, .int a0), (4, .int xi)]) hx hb dX2_takeFromFront_65 rfl hl (by decide) rfl (fun ls hl => ?_)
            refine lv_iinc (v := xi + 1) (lv' := [(4, .int (xi + 1)), (3, .int (xt + 0)), (2, .int (xm - (if xm < (yc (bxa lr xi.toNatClampNeg)) then xm else (yc (bxa lr xi.toNatClampNeg))))), (5, .int (if xm < (yc (bxa lr xi.toNatClampNeg)) then xm else (yc (bxa lr xi.toNatClampNeg)))), (0, .ref aL), (1, .int a0)]) hx hb dX2_takeFromFront_66 hl (k := 5) rfl rfl (by decide) rfl (fun ls hl => ?_)
            refine lv_goto (tgt := 7) hx hb dX2_takeFromFront_69 (by decide) ?_
            have hF : f_X2_takeFromFront_lp7 lc lr (n + 1) xm xt xi yc yp = f_X2_takeFromFront_lp7 lc lr n (xm - (if xm < (yc (bxa lr xi.toNatClampNeg)) then xm else (yc (bxa lr xi.toNatClampNeg)))) (xt + 0) (xi + 1) (f_X0_take (bxa lr xi.toNatClampNeg) (if xm < (yc (bxa lr xi.toNatClampNeg)) then xm else (yc (bxa lr xi.toNatClampNeg))) yc yp).1 (f_X0_take (bxa lr xi.toNatClampNeg) (if xm < (yc (bxa lr xi.toNatClampNeg)) then xm else (yc (bxa lr xi.toNatClampNeg))) yc yp).2 := by
              rw [f_X2_takeFromFront_lp7, if_neg c1, if_neg c2, if_pos c3]
            refine W.widen (k := 0) (n := 0) (Nat.le_of_ble_eq_true rfl) (Nat.le_of_ble_eq_true rfl) ?_
            exact ih7 (xm - (if xm < (yc (bxa lr xi.toNatClampNeg)) then xm else (yc (bxa lr xi.toNatClampNeg)))) (xt + 0) (xi + 1) (f_X0_take (bxa lr xi.toNatClampNeg) (if xm < (yc (bxa lr xi.toNatClampNeg)) then xm else (yc (bxa lr xi.toNatClampNeg))) yc yp).1 (f_X0_take (bxa lr xi.toNatClampNeg) (if xm < (yc (bxa lr xi.toNatClampNeg)) then xm else (yc (bxa lr xi.toNatClampNeg))) yc yp).2 (hF.symm.trans hlp7) (up_0 hi0 c1) (up_mu c1 hm7) _ _ _ hW (lv_sub hl [4, 5, 2, 1, 0] rfl)
          · skip
            refine lv_iconst (v := 1) hx hb dX2_takeFromFront_59 (by decide) ?_
            refine lv_goto (tgt := 64) hx hb dX2_takeFromFront_60 (by decide) ?_
            refine lv_iadd hx hb dX2_takeFromFront_64 ?_
            refine lv_istore_n (lv' := [(3, .int (xt + 1)), (2, .int (xm - (if xm < (yc (bxa lr xi.toNatClampNeg)) then xm else (yc (bxa lr xi.toNatClampNeg))))), (5, .int (if xm < (yc (bxa lr xi.toNatClampNeg)) then xm else (yc (bxa lr xi.toNatClampNeg)))), (0, .ref aL), (1, .int a0), (4, .int xi)]) hx hb dX2_takeFromFront_65 rfl hl (by decide) rfl (fun ls hl => ?_)
            refine lv_iinc (v := xi + 1) (lv' := [(4, .int (xi + 1)), (3, .int (xt + 1)), (2, .int (xm - (if xm < (yc (bxa lr xi.toNatClampNeg)) then xm else (yc (bxa lr xi.toNatClampNeg))))), (5, .int (if xm < (yc (bxa lr xi.toNatClampNeg)) then xm else (yc (bxa lr xi.toNatClampNeg)))), (0, .ref aL), (1, .int a0)]) hx hb dX2_takeFromFront_66 hl (k := 5) rfl rfl (by decide) rfl (fun ls hl => ?_)
            refine lv_goto (tgt := 7) hx hb dX2_takeFromFront_69 (by decide) ?_
            have hF : f_X2_takeFromFront_lp7 lc lr (n + 1) xm xt xi yc yp = f_X2_takeFromFront_lp7 lc lr n (xm - (if xm < (yc (bxa lr xi.toNatClampNeg)) then xm else (yc (bxa lr xi.toNatClampNeg)))) (xt + 1) (xi + 1) (f_X0_take (bxa lr xi.toNatClampNeg) (if xm < (yc (bxa lr xi.toNatClampNeg)) then xm else (yc (bxa lr xi.toNatClampNeg))) yc yp).1 (f_X0_take (bxa lr xi.toNatClampNeg) (if xm < (yc (bxa lr xi.toNatClampNeg)) then xm else (yc (bxa lr xi.toNatClampNeg))) yc yp).2 := by
              rw [f_X2_takeFromFront_lp7, if_neg c1, if_neg c2, if_neg c3]
            refine W.widen (k := 0) (n := 0) (Nat.le_of_ble_eq_true rfl) (Nat.le_of_ble_eq_true rfl) ?_
            exact ih7 (xm - (if xm < (yc (bxa lr xi.toNatClampNeg)) then xm else (yc (bxa lr xi.toNatClampNeg)))) (xt + 1) (xi + 1) (f_X0_take (bxa lr xi.toNatClampNeg) (if xm < (yc (bxa lr xi.toNatClampNeg)) then xm else (yc (bxa lr xi.toNatClampNeg))) yc yp).1 (f_X0_take (bxa lr xi.toNatClampNeg) (if xm < (yc (bxa lr xi.toNatClampNeg)) then xm else (yc (bxa lr xi.toNatClampNeg))) yc yp).2 (hF.symm.trans hlp7) (up_0 hi0 c1) (up_mu c1 hm7) _ _ _ hW (lv_sub hl [4, 5, 2, 1, 0] rfl)
  have hF : f_X2_takeFromFront a0 lc lr qc qp = f_X2_takeFromFront_lp7 lc lr ((lc.toInt - (0 : Int32).toInt).toNat + 1) a0 0 0 qc qp := by
    rw [f_X2_takeFromFront]
  refine W.widen (k := 0) (n := 0) (Nat.le_of_ble_eq_true rfl) (Nat.le_of_ble_eq_true rfl) ?_
  exact hl7_ ((lc.toInt - (0 : Int32).toInt).toNat + 1) a0 0 0 qc qp (hF.symm.trans ho) (by decide) (Nat.lt_succ_self _) _ _ _ hW (lv_sub hl [3, 4, 2, 1, 0] rfl)

def f_X2_boxAt (a0 : Int32) (lc : Int32) (lr : Nat → Option Nat) : Option Nat :=
  if (f_X9_within a0 0 (lc - 1)) = true then
    some (bxa lr a0.toNatClampNeg)
  else
    none
set_option maxHeartbeats 4000000 in
set_option maxRecDepth 100000 in
theorem c_X2_boxAt (l : Launch) (D : va_G) (cI cJ cZ cB : ClassId) (sz : Nat) (aL : Nat) (aLr : Nat) (a0 : Int32) (lc : Int32) (lr : Nat → Option Nat) (L : List Nat) (qi : Nat → Int32) (qt : Nat → Int32) (qc : Nat → Int32) (qp : Nat → Int32) (hr : okR L lr) (hc : okC lc 10) (o : Option Nat) (ho : f_X2_boxAt a0 lc lr = o) : Met l yX2_boxAt wsX2_boxAt ({ frames := 1, cells := 0, slots := 0, locals := 22 } : Room) (xPre D (xT cI cJ cZ cB) [.ref aL, .int a0] ([(aL, .inr (2, [.ref aLr, .int lc])), (aLr, .inl (cB, 10, .inr (.inr (.inr (.inr lr)))))] ++ bxP L qi qt qc qp) sz) (va_Sq (fun r => r = o)) 0 0 (fun _ => False) := by
  refine xofW (Qc := fun _ => va_Sq (fun r => r = o)) (fr := fun _ _ => False) (cc := cX2_boxAt) (maxL := 2) (ret := (some (.object "DryIceLane$Box"))) (by decide) rfl (Nat.le_of_ble_eq_true rfl) ?_
  intro p e s m below meth c A ⟨hx, hb, hml, hown, hts⟩ hrt hlocks hnm hsz hK hW hA hG ls hl
  have hown : s.vm.findClass RX2 = some m.cls := hown
  have hl : lv_has ls 2 [(0, .ref aL), (1, .int a0)] := hl
  obtain ⟨H, hH⟩ : ∃ H, H = s.heap := ⟨_, rfl⟩
  have hW : xW D A s.heap ([(aL, .inr (2, [.ref aLr, .int lc])), (aLr, .inl (cB, 10, .inr (.inr (.inr (.inr lr)))))] ++ bxP L qi qt qc qp) H [] := by rw [hH]; exact hW
  have w1 := hts (.fieldLink RX2 18 "DryIceLane$Lane" "count" "I") (by decide +kernel)
  have hin2 : ∀ w ∈ u_ws RX2 TX2 2, w ∈ wsX2_boxAt := by decide +kernel
  have w3 := hts (.initialized RX9) (by decide +kernel)
  have w4 := hts (.static yX9_within) (by decide +kernel)
  have w5 := hts (.fieldLink RX2 11 "DryIceLane$Lane" "boxes" "[LDryIceLane$Box;") (by decide +kernel)
  rw [← hH]
  refine lv_iload_n hx hb dX2_boxAt_0 rfl (lv_at hl 1 rfl) ?_
  refine lv_iconst (v := 0) hx hb dX2_boxAt_1 (by decide) ?_
  refine lv_aload_n hx hb dX2_boxAt_2 rfl (lv_at hl 0 rfl) ?_
  refine xget (ci := 2) (C := RX2) (T := TX2) (N := 2) hx hb hts hin2 hown hK hW.1 0 rfl rfl 1 (by decide) w1 rfl dX2_boxAt_3 ?_
  refine lv_iconst (v := 1) hx hb dX2_boxAt_6 (by decide) ?_
  refine lv_isub hx hb dX2_boxAt_7 ?_
  refine vp_callSi (va_Run.run (xrunSN (As := [.int a0, .int 0, .int (lc - 1)]) (rest := []) ⟨hx, hb, hml, hown, hts⟩ (c_X9_within l D cI cJ cZ cB H.size a0 0 (lc - 1) _ rfl) ⟨va_cnB (host := "DryIceLane") 3 hts gX2_boxAt_X9_within_n26 rfl rfl rfl (hG.1.1 (.methodLinkNest RX2 26 yX9_within "DryIceLane") (by decide +kernel)) w3 (by decide +kernel) ⟨Nat.le_of_ble_eq_true rfl, Nat.le_of_ble_eq_true rfl⟩, w4, trivial⟩ hK hG hW.2.2 (xsubQ hW hA [] rfl (by decide)) rfl hl.1 rfl (Nat.le_of_ble_eq_true rfl) dX2_boxAt_8 ⟨Nat.le_of_ble_eq_true rfl, Nat.le_of_ble_eq_true rfl⟩)) (fun r1 hq => ?_)
  subst hq
  refine xb_eq (tgt := 23) hx hb dX2_boxAt_11 (by decide) (fun c1 => ?_) (fun c1 => ?_)
  · skip
    refine lv_null hx hb dX2_boxAt_23 ?_
    have hF : f_X2_boxAt a0 lc lr = none := by
      rw [f_X2_boxAt, if_neg c1]
    obtain rfl : none = o := hF.symm.trans ho
    exact W.aret (v := .null) hx hb hrt (Or.inl ⟨_, rfl⟩) (Or.inl rfl) (fun t ht hM => ⟨none, rfl, rfl, ht.trans hH⟩) (fun q h => by cases h) dX2_boxAt_24 hlocks
  · skip
    refine lv_aload_n hx hb dX2_boxAt_14 rfl (lv_at hl 0 rfl) ?_
    refine xget (ci := 2) (C := RX2) (T := TX2) (N := 2) hx hb hts hin2 hown hK hW.1 0 rfl rfl 0 (by decide) w5 rfl dX2_boxAt_15 ?_
    refine lv_iload_n hx hb dX2_boxAt_18 rfl (lv_at hl 1 rfl) ?_
    refine xaald hx hb hK hW.1 1 3 rfl rfl (vp_w c1 (by have h1 := m1_i hc; have h2 := hc.2; omega)) a0.toNatClampNeg rfl (ok_some hr (vp_w c1 (by have h1 := m1_i hc; have h2 := hc.2; omega))) dX2_boxAt_19 ?_
    refine lv_goto (tgt := 24) hx hb dX2_boxAt_20 (by decide) ?_
    have hF : f_X2_boxAt a0 lc lr = some (bxa lr a0.toNatClampNeg) := by
      rw [f_X2_boxAt, if_pos c1]
    obtain rfl : some (bxa lr a0.toNatClampNeg) = o := hF.symm.trans ho
    exact W.aret (v := .ref (bxa lr a0.toNatClampNeg)) hx hb hrt (Or.inl ⟨_, rfl⟩) (Or.inr ⟨_, rfl⟩) (fun t ht hM => ⟨some (bxa lr a0.toNatClampNeg), rfl, rfl, ht.trans hH⟩) (fun q h => by cases h) dX2_boxAt_24 hlocks

def f_X2_append (a0 : Int32) (a1 : Int32) (a2 : Int32) (lc : Int32) (lr : Nat → Option Nat) (qi : Nat → Int32) (qt : Nat → Int32) (qc : Nat → Int32) (qp : Nat → Int32) : Int32 × (Nat → Int32) × (Nat → Int32) × (Nat → Int32) × (Nat → Int32) :=
  if lc < 10 then
    (lc + 1, va_up qi (bxa lr lc.toNatClampNeg) a0, va_up qt (bxa lr lc.toNatClampNeg) a1, va_up qc (bxa lr lc.toNatClampNeg) a2, va_up qp (bxa lr lc.toNatClampNeg) a2)
  else
    (lc, qi, qt, qc, qp)
set_option maxHeartbeats 4000000 in
set_option maxRecDepth 100000 in
theorem c_X2_append (l : Launch) (D : va_G) (cI cJ cZ cB : ClassId) (sz : Nat) (aL : Nat) (aLr : Nat) (a0 : Int32) (a1 : Int32) (a2 : Int32) (lc : Int32) (lr : Nat → Option Nat) (L : List Nat) (qi : Nat → Int32) (qt : Nat → Int32) (qc : Nat → Int32) (qp : Nat → Int32) (hr : okR L lr) (hc : okC lc 10) (o : Int32 × (Nat → Int32) × (Nat → Int32) × (Nat → Int32) × (Nat → Int32)) (ho : f_X2_append a0 a1 a2 lc lr qi qt qc qp = o) : Met l yX2_append wsX2_append ({ frames := 0, cells := 0, slots := 0, locals := 0 } : Room) (xPre D (xT cI cJ cZ cB) [.ref aL, .int a0, .int a1, .int a2] ([(aL, .inr (2, [.ref aLr, .int lc])), (aLr, .inl (cB, 10, .inr (.inr (.inr (.inr lr)))))] ++ bxP L qi qt qc qp) sz) (va_Qv (fun _ : Unit => True) (fun _ t => xB D (([(aL, .inr (2, [.ref aLr, .int o.1])), (aLr, .inl (cB, 10, .inr (.inr (.inr (.inr lr)))))] : va_W) ++ bxP L o.2.1 o.2.2.1 o.2.2.2.1 o.2.2.2.2) (va_A ([(aL, .inr (2, [.ref aLr, .int lc])), (aLr, .inl (cB, 10, .inr (.inr (.inr (.inr lr)))))] ++ bxP L qi qt qc qp) sz) t) (va_A ([(aL, .inr (2, [.ref aLr, .int lc])), (aLr, .inl (cB, 10, .inr (.inr (.inr (.inr lr)))))] ++ bxP L qi qt qc qp) sz)) 0 0 (va_A ([(aL, .inr (2, [.ref aLr, .int lc])), (aLr, .inl (cB, 10, .inr (.inr (.inr (.inr lr)))))] ++ bxP L qi qt qc qp) sz) := by
  refine xofW (Qc := fun A0 => va_Qv (fun _ : Unit => True) (fun _ t => xB D (([(aL, .inr (2, [.ref aLr, .int o.1])), (aLr, .inl (cB, 10, .inr (.inr (.inr (.inr lr)))))] : va_W) ++ bxP L o.2.1 o.2.2.1 o.2.2.2.1 o.2.2.2.2) A0 t) A0) (fr := fun A => A) (cc := cX2_append) (maxL := 5) (ret := none) (by decide) rfl (Nat.le_of_ble_eq_true rfl) ?_
  intro p e s m below meth c A ⟨hx, hb, hml, hown, hts⟩ hrt hlocks hnm hsz hK hW hA hG ls hl
  have hown : s.vm.findClass RX2 = some m.cls := hown
  have hl : lv_has ls 5 [(0, .ref aL), (1, .int a0), (2, .int a1), (3, .int a2)] := hl
  obtain ⟨H, hH⟩ : ∃ H, H = s.heap := ⟨_, rfl⟩
  have hW : xW D A s.heap ([(aL, .inr (2, [.ref aLr, .int lc])), (aLr, .inl (cB, 10, .inr (.inr (.inr (.inr lr)))))] ++ bxP L qi qt qc qp) H [] := by rw [hH]; exact hW
  have w1 := hts (.fieldLink RX2 18 "DryIceLane$Lane" "count" "I") (by decide +kernel)
  have hin2 : ∀ w ∈ u_ws RX2 TX2 2, w ∈ wsX2_append := by decide +kernel
  have w3 := hts (.fieldLink RX2 11 "DryIceLane$Lane" "boxes" "[LDryIceLane$Box;") (by decide +kernel)
  have w4 := hts (.fieldLink RX2 30 "DryIceLane$Box" "insulation" "I") (by decide +kernel)
  have hin0 : ∀ w ∈ u_ws RX0 TX0 4, w ∈ wsX2_append := by decide +kernel
  have w6 := hts (.fieldLink RX2 33 "DryIceLane$Box" "tare" "I") (by decide +kernel)
  have w7 := hts (.fieldLink RX2 36 "DryIceLane$Box" "ice" "I") (by decide +kernel)
  have w8 := hts (.fieldLink RX2 39 "DryIceLane$Box" "paper" "I") (by decide +kernel)
  rw [← hH]
  refine lv_aload_n hx hb dX2_append_0 rfl (lv_at hl 0 rfl) ?_
  refine xget (ci := 2) (C := RX2) (T := TX2) (N := 2) hx hb hts hin2 hown hK hW.1 0 rfl rfl 1 (by decide) w1 rfl dX2_append_1 ?_
  refine lv_bipush (v := 10) hx hb dX2_append_4 (by decide) ?_
  refine lv_icmp_lt (tgt := 10) hx hb dX2_append_6 (by decide) (fun c1 => ?_) (fun c1 => ?_)
  · skip
    refine lv_aload_n hx hb dX2_append_10 rfl (lv_at hl 0 rfl) ?_
    refine xget (ci := 2) (C := RX2) (T := TX2) (N := 2) hx hb hts hin2 hown hK hW.1 0 rfl rfl 0 (by decide) w3 rfl dX2_append_11 ?_
    refine lv_aload_n hx hb dX2_append_14 rfl (lv_at hl 0 rfl) ?_
    refine xget (ci := 2) (C := RX2) (T := TX2) (N := 2) hx hb hts hin2 hown hK hW.1 0 rfl rfl 1 (by decide) w1 rfl dX2_append_15 ?_
    refine xaald hx hb hK hW.1 1 3 rfl rfl (vp_in_iff.mpr ⟨hc.1, xlt.mp c1⟩) lc.toNatClampNeg rfl (ok_some hr (vp_in_iff.mpr ⟨hc.1, xlt.mp c1⟩)) dX2_append_18 ?_
    refine lv_astore (lv' := [(4, .ref (bxa lr lc.toNatClampNeg)), (0, .ref aL), (1, .int a0), (2, .int a1), (3, .int a2)]) hx hb dX2_append_19 hl (by decide) rfl (fun ls hl => ?_)
    refine lv_aload hx hb dX2_append_21 (lv_at hl 0 rfl) ?_
    refine lv_iload_n hx hb dX2_append_23 rfl (lv_at hl 2 rfl) ?_
    refine xbput0 hx hb hts hin0 hown hK hW (ok_mem hr (vp_in_iff.mpr ⟨hc.1, xlt.mp c1⟩)) w4 dX2_append_24 (fun H locs hW => ?_)
    have hW : xW D A s.heap ([(aL, .inr (2, [.ref aLr, .int lc])), (aLr, .inl (cB, 10, .inr (.inr (.inr (.inr lr)))))] ++ bxP L (va_up qi (bxa lr lc.toNatClampNeg) a0) qt qc qp) H _ := hW
    refine lv_aload hx hb dX2_append_27 (lv_at hl 0 rfl) ?_
    refine lv_iload_n hx hb dX2_append_29 rfl (lv_at hl 3 rfl) ?_
    refine xbput1 hx hb hts hin0 hown hK hW (ok_mem hr (vp_in_iff.mpr ⟨hc.1, xlt.mp c1⟩)) w6 dX2_append_30 (fun H locs hW => ?_)
    have hW : xW D A s.heap ([(aL, .inr (2, [.ref aLr, .int lc])), (aLr, .inl (cB, 10, .inr (.inr (.inr (.inr lr)))))] ++ bxP L (va_up qi (bxa lr lc.toNatClampNeg) a0) (va_up qt (bxa lr lc.toNatClampNeg) a1) qc qp) H _ := hW
    refine lv_aload hx hb dX2_append_33 (lv_at hl 0 rfl) ?_
    refine lv_iload_n hx hb dX2_append_35 rfl (lv_at hl 4 rfl) ?_
    refine xbput2 hx hb hts hin0 hown hK hW (ok_mem hr (vp_in_iff.mpr ⟨hc.1, xlt.mp c1⟩)) w7 dX2_append_36 (fun H locs hW => ?_)
    have hW : xW D A s.heap ([(aL, .inr (2, [.ref aLr, .int lc])), (aLr, .inl (cB, 10, .inr (.inr (.inr (.inr lr)))))] ++ bxP L (va_up qi (bxa lr lc.toNatClampNeg) a0) (va_up qt (bxa lr lc.toNatClampNeg) a1) (va_up qc (bxa lr lc.toNatClampNeg) a2) qp) H _ := hW
    refine lv_aload hx hb dX2_append_39 (lv_at hl 0 rfl) ?_
    refine lv_iload_n hx hb dX2_append_41 rfl (lv_at hl 4 rfl) ?_
    refine xbput3 hx hb hts hin0 hown hK hW (ok_mem hr (vp_in_iff.mpr ⟨hc.1, xlt.mp c1⟩)) w8 dX2_append_42 (fun H locs hW => ?_)
    have hW : xW D A s.heap ([(aL, .inr (2, [.ref aLr, .int lc])), (aLr, .inl (cB, 10, .inr (.inr (.inr (.inr lr)))))] ++ bxP L (va_up qi (bxa lr lc.toNatClampNeg) a0) (va_up qt (bxa lr lc.toNatClampNeg) a1) (va_up qc (bxa lr lc.toNatClampNeg) a2) (va_up qp (bxa lr lc.toNatClampNeg) a2)) H _ := hW
    refine lv_aload_n hx hb dX2_append_45 rfl (lv_at hl 1 rfl) ?_
    refine lv_dup hx hb dX2_append_46 rfl ?_
    refine xget (ci := 2) (C := RX2) (T := TX2) (N := 2) hx hb hts hin2 hown hK hW.1 0 rfl rfl 1 (by decide) w1 rfl dX2_append_47 ?_
    refine lv_iconst (v := 1) hx hb dX2_append_50 (by decide) ?_
    refine lv_iadd hx hb dX2_append_51 ?_
    refine xput (ci := 2) (v := .int (lc + 1)) (ty := .int) (C := RX2) (T := TX2) (N := 2) hx hb hts hin2 tyX2 tyX2_ok nmX2 hown hK hW 0 rfl (Nat.le_of_ble_eq_true rfl) rfl 1 (by decide) w1 rfl (by decide +kernel) rfl rfl (Nat.le_of_ble_eq_true rfl) dX2_append_52 (fun H locs hW => ?_)
    have hW : xW D A s.heap ([(aL, .inr (2, [.ref aLr, .int (lc + 1)])), (aLr, .inl (cB, 10, .inr (.inr (.inr (.inr lr)))))] ++ bxP L (va_up qi (bxa lr lc.toNatClampNeg) a0) (va_up qt (bxa lr lc.toNatClampNeg) a1) (va_up qc (bxa lr lc.toNatClampNeg) a2) (va_up qp (bxa lr lc.toNatClampNeg) a2)) H _ := hW
    have hF : f_X2_append a0 a1 a2 lc lr qi qt qc qp = (lc + 1, va_up qi (bxa lr lc.toNatClampNeg) a0, va_up qt (bxa lr lc.toNatClampNeg) a1, va_up qc (bxa lr lc.toNatClampNeg) a2, va_up qp (bxa lr lc.toNatClampNeg) a2) := by
      rw [f_X2_append, if_pos c1]
    obtain rfl : (lc + 1, va_up qi (bxa lr lc.toNatClampNeg) a0, va_up qt (bxa lr lc.toNatClampNeg) a1, va_up qc (bxa lr lc.toNatClampNeg) a2, va_up qp (bxa lr lc.toNatClampNeg) a2) = o := hF.symm.trans ho
    exact W.vret hx hb hrt (fun t ht hM => ⟨⟨(), rfl, trivial, ⟨by rw [ht]; exact hW.1, hW.2.1⟩⟩, hW.2.2.F ht⟩) hW.2.2.2.2 dX2_append_55 hlocks
  · skip
    have hF : f_X2_append a0 a1 a2 lc lr qi qt qc qp = (lc, qi, qt, qc, qp) := by
      rw [f_X2_append, if_neg c1]
    obtain rfl : (lc, qi, qt, qc, qp) = o := hF.symm.trans ho
    exact W.vret hx hb hrt (fun t ht hM => ⟨⟨(), rfl, trivial, ⟨by rw [ht]; exact hW.1, hW.2.1⟩⟩, hW.2.2.F ht⟩) hW.2.2.2.2 dX2_append_9 hlocks

theorem up_in {i n : Int32} {N : Nat} (h : vp_in i N) (c : ¬ n ≤ i) (hn : vp_in n N) : vp_in (i + 1) N := by
  obtain ⟨h1, h2⟩ := vp_in_iff.mp h
  obtain ⟨h3, h4⟩ := vp_in_iff.mp hn
  have h5 := xnle.mp c
  exact vp_in_iff.mpr ⟨by rw [up_i c]; omega, by rw [up_i c]; omega⟩
theorem dn_in {i n : Int32} {N : Nat} (h : vp_in i N) (c : ¬ i ≤ n) (hn : vp_in n N) : vp_in (i + (-1)) N := by
  obtain ⟨h1, h2⟩ := vp_in_iff.mp h
  obtain ⟨h3, h4⟩ := vp_in_iff.mp hn
  have h5 := xnle.mp c
  exact vp_in_iff.mpr ⟨by rw [dn_i c]; omega, by rw [dn_i c]; omega⟩
theorem dn_ins {i n : Int32} {N : Nat} (h : vp_in i N) (c : ¬ i ≤ n) (hn : vp_in n N) : vp_in (i - 1) N := by
  obtain ⟨h1, h2⟩ := vp_in_iff.mp h
  obtain ⟨h3, h4⟩ := vp_in_iff.mp hn
  have h5 := xnle.mp c
  exact vp_in_iff.mpr ⟨by rw [dn_s c]; omega, by rw [dn_s c]; omega⟩
theorem w_in {x n : Int32} {N : Nat} (h : f_X9_within x 0 (n - 1) = true) (hc : okC n N) : vp_in x N :=
  vp_w h (by have h1 := m1_i hc; have h2 := hc.2; omega)

def f_X2_move_lp70 (a0 : Int32) (a1 : Int32) (lr : Nat → Option Nat) : Nat → Int32 → (Nat → Option Nat) → (Nat → Option Nat)
  | 0, _, _ => (fun _ => none)
  | n + 1, xj, yq =>
    if xj ≤ a1 then
      va_up yq a1.toNatClampNeg (some (bxa lr a0.toNatClampNeg))
    else
      f_X2_move_lp70 a0 a1 lr n (xj + (-1)) (va_up yq xj.toNatClampNeg (some (bxa yq (xj - 1).toNatClampNeg)))
def f_X2_move_lp39 (a0 : Int32) (a1 : Int32) (lr : Nat → Option Nat) : Nat → Int32 → (Nat → Option Nat) → (Nat → Option Nat)
  | 0, _, _ => (fun _ => none)
  | n + 1, xi, yr =>
    if a1 ≤ xi then
      f_X2_move_lp70 a0 a1 lr ((a0.toInt - a1.toInt).toNat + 1) a0 yr
    else
      f_X2_move_lp39 a0 a1 lr n (xi + 1) (va_up yr xi.toNatClampNeg (some (bxa yr (xi + 1).toNatClampNeg)))
def f_X2_move (a0 : Int32) (a1 : Int32) (lc : Int32) (lr : Nat → Option Nat) : (Nat → Option Nat) :=
  if (f_X9_within a0 0 (lc - 1)) = true then
    if (f_X9_within a1 0 (lc - 1)) = true then
      f_X2_move_lp39 a0 a1 lr ((a1.toInt - a0.toInt).toNat + 1) a0 lr
    else
      lr
  else
    lr
set_option maxHeartbeats 4000000 in
set_option maxRecDepth 100000 in
theorem c_X2_move (l : Launch) (D : va_G) (cI cJ cZ cB : ClassId) (sz : Nat) (aL : Nat) (aLr : Nat) (a0 : Int32) (a1 : Int32) (lc : Int32) (lr : Nat → Option Nat) (L : List Nat) (qi : Nat → Int32) (qt : Nat → Int32) (qc : Nat → Int32) (qp : Nat → Int32) (hr : okR L lr) (hc : okC lc 10) (o : (Nat → Option Nat)) (ho : f_X2_move a0 a1 lc lr = o) : Met l yX2_move wsX2_move ({ frames := 1, cells := 0, slots := 0, locals := 22 } : Room) (xPre D (xT cI cJ cZ cB) [.ref aL, .int a0, .int a1] ([(aL, .inr (2, [.ref aLr, .int lc])), (aLr, .inl (cB, 10, .inr (.inr (.inr (.inr lr)))))] ++ bxP L qi qt qc qp) sz) (va_Qv (fun _ : Unit => True) (fun _ t => xB D (([(aL, .inr (2, [.ref aLr, .int lc])), (aLr, .inl (cB, 10, .inr (.inr (.inr (.inr o)))))] : va_W) ++ bxP L qi qt qc qp) (va_A ([(aL, .inr (2, [.ref aLr, .int lc])), (aLr, .inl (cB, 10, .inr (.inr (.inr (.inr lr)))))] ++ bxP L qi qt qc qp) sz) t) (va_A ([(aL, .inr (2, [.ref aLr, .int lc])), (aLr, .inl (cB, 10, .inr (.inr (.inr (.inr lr)))))] ++ bxP L qi qt qc qp) sz)) 0 0 (va_A ([(aL, .inr (2, [.ref aLr, .int lc])), (aLr, .inl (cB, 10, .inr (.inr (.inr (.inr lr)))))] ++ bxP L qi qt qc qp) sz) := by
  refine xofW (Qc := fun A0 => va_Qv (fun _ : Unit => True) (fun _ t => xB D (([(aL, .inr (2, [.ref aLr, .int lc])), (aLr, .inl (cB, 10, .inr (.inr (.inr (.inr o)))))] : va_W) ++ bxP L qi qt qc qp) A0 t) A0) (fr := fun A => A) (cc := cX2_move) (maxL := 5) (ret := none) (by decide) rfl (Nat.le_of_ble_eq_true rfl) ?_
  intro p e s m below meth c A ⟨hx, hb, hml, hown, hts⟩ hrt hlocks hnm hsz hK hW hA hG ls hl
  have hown : s.vm.findClass RX2 = some m.cls := hown
  have hl : lv_has ls 5 [(0, .ref aL), (1, .int a0), (2, .int a1)] := hl
  obtain ⟨H, hH⟩ : ∃ H, H = s.heap := ⟨_, rfl⟩
  have hW : xW D A s.heap ([(aL, .inr (2, [.ref aLr, .int lc])), (aLr, .inl (cB, 10, .inr (.inr (.inr (.inr lr)))))] ++ bxP L qi qt qc qp) H [] := by rw [hH]; exact hW
  have w1 := hts (.fieldLink RX2 18 "DryIceLane$Lane" "count" "I") (by decide +kernel)
  have hin2 : ∀ w ∈ u_ws RX2 TX2 2, w ∈ wsX2_move := by decide +kernel
  have w3 := hts (.initialized RX9) (by decide +kernel)
  have w4 := hts (.static yX9_within) (by decide +kernel)
  have w5 := hts (.fieldLink RX2 11 "DryIceLane$Lane" "boxes" "[LDryIceLane$Box;") (by decide +kernel)
  rw [← hH]
  refine lv_iload_n hx hb dX2_move_0 rfl (lv_at hl 1 rfl) ?_
  refine lv_iconst (v := 0) hx hb dX2_move_1 (by decide) ?_
  refine lv_aload_n hx hb dX2_move_2 rfl (lv_at hl 0 rfl) ?_
  refine xget (ci := 2) (C := RX2) (T := TX2) (N := 2) hx hb hts hin2 hown hK hW.1 0 rfl rfl 1 (by decide) w1 rfl dX2_move_3 ?_
  refine lv_iconst (v := 1) hx hb dX2_move_6 (by decide) ?_
  refine lv_isub hx hb dX2_move_7 ?_
  refine vp_callSi (va_Run.run (xrunSN (As := [.int a0, .int 0, .int (lc - 1)]) (rest := []) ⟨hx, hb, hml, hown, hts⟩ (c_X9_within l D cI cJ cZ cB H.size a0 0 (lc - 1) _ rfl) ⟨va_cnB (host := "DryIceLane") 3 hts gX2_move_X9_within_n26 rfl rfl rfl (hG.1.1 (.methodLinkNest RX2 26 yX9_within "DryIceLane") (by decide +kernel)) w3 (by decide +kernel) ⟨Nat.le_of_ble_eq_true rfl, Nat.le_of_ble_eq_true rfl⟩, w4, trivial⟩ hK hG hW.2.2 (xsubQ hW hA [] rfl (by decide)) rfl hl.1 rfl (Nat.le_of_ble_eq_true rfl) dX2_move_8 ⟨Nat.le_of_ble_eq_true rfl, Nat.le_of_ble_eq_true rfl⟩)) (fun r1 hq => ?_)
  subst hq
  refine xb_eq (tgt := 28) hx hb dX2_move_11 (by decide) (fun c1 => ?_) (fun c1 => ?_)
  · skip
    have hF : f_X2_move a0 a1 lc lr = lr := by
      rw [f_X2_move, if_neg c1]
    obtain rfl : lr = o := hF.symm.trans ho
    exact W.vret hx hb hrt (fun t ht hM => ⟨⟨(), rfl, trivial, ⟨by rw [ht]; exact hW.1, hW.2.1⟩⟩, hW.2.2.F ht⟩) hW.2.2.2.2 dX2_move_28 hlocks
  · skip
    refine lv_iload_n hx hb dX2_move_14 rfl (lv_at hl 2 rfl) ?_
    refine lv_iconst (v := 0) hx hb dX2_move_15 (by decide) ?_
    refine lv_aload_n hx hb dX2_move_16 rfl (lv_at hl 0 rfl) ?_
    refine xget (ci := 2) (C := RX2) (T := TX2) (N := 2) hx hb hts hin2 hown hK hW.1 0 rfl rfl 1 (by decide) w1 rfl dX2_move_17 ?_
    refine lv_iconst (v := 1) hx hb dX2_move_20 (by decide) ?_
    refine lv_isub hx hb dX2_move_21 ?_
    refine vp_callSi (va_Run.run (xrunSN (As := [.int a1, .int 0, .int (lc - 1)]) (rest := []) ⟨hx, hb, hml, hown, hts⟩ (c_X9_within l D cI cJ cZ cB H.size a1 0 (lc - 1) _ rfl) ⟨va_cnB (host := "DryIceLane") 3 hts gX2_move_X9_within_n26 rfl rfl rfl (hG.1.1 (.methodLinkNest RX2 26 yX9_within "DryIceLane") (by decide +kernel)) w3 (by decide +kernel) ⟨Nat.le_of_ble_eq_true rfl, Nat.le_of_ble_eq_true rfl⟩, w4, trivial⟩ hK hG hW.2.2 (xsubQ hW hA [] rfl (by decide)) rfl hl.1 rfl (Nat.le_of_ble_eq_true rfl) dX2_move_22 ⟨Nat.le_of_ble_eq_true rfl, Nat.le_of_ble_eq_true rfl⟩)) (fun r2 hq => ?_)
    subst hq
    refine xb_ne (tgt := 29) hx hb dX2_move_25 (by decide) (fun c2 => ?_) (fun c2 => ?_)
    · skip
      refine lv_aload_n hx hb dX2_move_29 rfl (lv_at hl 0 rfl) ?_
      refine xget (ci := 2) (C := RX2) (T := TX2) (N := 2) hx hb hts hin2 hown hK hW.1 0 rfl rfl 0 (by decide) w5 rfl dX2_move_30 ?_
      refine lv_iload_n hx hb dX2_move_33 rfl (lv_at hl 1 rfl) ?_
      refine xaald hx hb hK hW.1 1 3 rfl rfl (w_in c1 hc) a0.toNatClampNeg rfl (ok_some hr (w_in c1 hc)) dX2_move_34 ?_
      refine lv_astore_n (lv' := [(3, .ref (bxa lr a0.toNatClampNeg)), (0, .ref aL), (1, .int a0), (2, .int a1)]) hx hb dX2_move_35 rfl hl (by decide) rfl (fun ls hl => ?_)
      refine lv_iload_n hx hb dX2_move_36 rfl (lv_at hl 2 rfl) ?_
      refine lv_istore (lv' := [(4, .int a0), (3, .ref (bxa lr a0.toNatClampNeg)), (0, .ref aL), (1, .int a0), (2, .int a1)]) hx hb dX2_move_37 hl (by decide) rfl (fun ls hl => ?_)
      have hl39_ : ∀ (n : Nat) (xi : Int32) (yr : Nat → Option Nat), f_X2_move_lp39 a0 a1 lr n xi yr = o → (vp_in xi 10) → (okR L yr) → (a1.toInt - xi.toInt).toNat < n → ∀ (H : Heap) (locs : List Loc) (ls : Array Slot), xW D A s.heap ([(aL, .inr (2, [.ref aLr, .int lc])), (aLr, .inl (cB, 10, .inr (.inr (.inr (.inr yr)))))] ++ bxP L qi qt qc qp) H locs → lv_has ls 5 [(0, .ref aL), (1, .int a0), (2, .int a1), (3, .ref (bxa lr a0.toNatClampNeg)), (4, .int xi)] → W p l e ({ frames := 1, cells := 0, slots := 0, locals := 22 } : Room) s m [.ref aL, .int a0, .int a1].toArray below meth c H locs 0 0 (MQ below (va_Qv (fun _ : Unit => True) (fun _ t => xB D (([(aL, .inr (2, [.ref aLr, .int lc])), (aLr, .inl (cB, 10, .inr (.inr (.inr (.inr o)))))] : va_W) ++ bxP L qi qt qc qp) A t) A) [.ref aL, .int a0, .int a1].toArray s 0 0 A) (F0 m 39 ls []) := by
        intro n
        induction n with
        | zero =>
          intro xi yr _ _ _ hm
          exact absurd hm (Nat.not_lt_zero _)
        | succ n ih39 =>
          intro xi yr hlp39 hxi hyr hm39 H locs ls hW hl
          refine lv_iload hx hb dX2_move_39 (lv_at hl 4 rfl) ?_
          refine lv_iload_n hx hb dX2_move_41 rfl (lv_at hl 2 rfl) ?_
          refine lv_icmp_ge (tgt := 67) hx hb dX2_move_42 (by decide) (fun c3 => ?_) (fun c3 => ?_)
          · skip
            refine lv_iload_n hx hb dX2_move_67 rfl (lv_at hl 1 rfl) ?_
            refine lv_istore (lv' := [(4, .int a0), (0, .ref aL), (1, .int a0), (2, .int a1), (3, .ref (bxa lr a0.toNatClampNeg))]) hx hb dX2_move_68 hl (by decide) rfl (fun ls hl => ?_)
            have hl70_ : ∀ (n : Nat) (xj : Int32) (yq : Nat → Option Nat), f_X2_move_lp70 a0 a1 lr n xj yq = o → (vp_in xj 10) → (okR L yq) → (xj.toInt - a1.toInt).toNat < n → ∀ (H : Heap) (locs : List Loc) (ls : Array Slot), xW D A s.heap ([(aL, .inr (2, [.ref aLr, .int lc])), (aLr, .inl (cB, 10, .inr (.inr (.inr (.inr yq)))))] ++ bxP L qi qt qc qp) H locs → lv_has ls 5 [(0, .ref aL), (1, .int a0), (2, .int a1), (3, .ref (bxa lr a0.toNatClampNeg)), (4, .int xj)] → W p l e ({ frames := 1, cells := 0, slots := 0, locals := 22 } : Room) s m [.ref aL, .int a0, .int a1].toArray below meth c H locs 0 0 (MQ below (va_Qv (fun _ : Unit => True) (fun _ t => xB D (([(aL, .inr (2, [.ref aLr, .int lc])), (aLr, .inl (cB, 10, .inr (.inr (.inr (.inr o)))))] : va_W) ++ bxP L qi qt qc qp) A t) A) [.ref aL, .int a0, .int a1].toArray s 0 0 A) (F0 m 70 ls []) := by
              intro n
              induction n with
              | zero =>
                intro xj yq _ _ _ hm
                exact absurd hm (Nat.not_lt_zero _)
              | succ n ih70 =>
                intro xj yq hlp70 hxj hyq hm70 H locs ls hW hl
                refine lv_iload hx hb dX2_move_70 (lv_at hl 4 rfl) ?_
                refine lv_iload_n hx hb dX2_move_72 rfl (lv_at hl 2 rfl) ?_
                refine lv_icmp_le (tgt := 98) hx hb dX2_move_73 (by decide) (fun c4 => ?_) (fun c4 => ?_)
                · skip
                  refine lv_aload_n hx hb dX2_move_98 rfl (lv_at hl 0 rfl) ?_
                  refine xget (ci := 2) (C := RX2) (T := TX2) (N := 2) hx hb hts hin2 hown hK hW.1 0 rfl rfl 0 (by decide) w5 rfl dX2_move_99 ?_
                  refine lv_iload_n hx hb dX2_move_102 rfl (lv_at hl 2 rfl) ?_
                  refine lv_aload_n hx hb dX2_move_103 rfl (lv_at hl 3 rfl) ?_
                  refine xaast (v := bxa lr a0.toNatClampNeg) (i := a1) hx hb hK hW 1 3 (ok_mem hr (w_in c1 hc)) rfl (Nat.le_of_ble_eq_true rfl) rfl (w_in c2 hc) a1.toNatClampNeg rfl dX2_move_104 (fun H locs hW => ?_)
                  have hW : xW D A s.heap ([(aL, .inr (2, [.ref aLr, .int lc])), (aLr, .inl (cB, 10, .inr (.inr (.inr (.inr (va_up yq a1.toNatClampNeg (some (bxa lr a0.toNatClampNeg))))))))] ++ bxP L qi qt qc qp) H _ := hW
                  have hF : f_X2_move_lp70 a0 a1 lr (n + 1) xj yq = va_up yq a1.toNatClampNeg (some (bxa lr a0.toNatClampNeg)) := by
                    rw [f_X2_move_lp70, if_pos c4]
                  obtain rfl : va_up yq a1.toNatClampNeg (some (bxa lr a0.toNatClampNeg)) = o := hF.symm.trans hlp70
                  exact W.vret hx hb hrt (fun t ht hM => ⟨⟨(), rfl, trivial, ⟨by rw [ht]; exact hW.1, hW.2.1⟩⟩, hW.2.2.F ht⟩) hW.2.2.2.2 dX2_move_105 hlocks
                · skip
                  refine lv_aload_n hx hb dX2_move_76 rfl (lv_at hl 0 rfl) ?_
                  refine xget (ci := 2) (C := RX2) (T := TX2) (N := 2) hx hb hts hin2 hown hK hW.1 0 rfl rfl 0 (by decide) w5 rfl dX2_move_77 ?_
                  refine lv_iload hx hb dX2_move_80 (lv_at hl 4 rfl) ?_
                  refine lv_aload_n hx hb dX2_move_82 rfl (lv_at hl 0 rfl) ?_
                  refine xget (ci := 2) (C := RX2) (T := TX2) (N := 2) hx hb hts hin2 hown hK hW.1 0 rfl rfl 0 (by decide) w5 rfl dX2_move_83 ?_
                  refine lv_iload hx hb dX2_move_86 (lv_at hl 4 rfl) ?_
                  refine lv_iconst (v := 1) hx hb dX2_move_88 (by decide) ?_
                  refine lv_isub hx hb dX2_move_89 ?_
                  refine xaald hx hb hK hW.1 1 3 rfl rfl (dn_ins hxj c4 (w_in c2 hc)) (xj - 1).toNatClampNeg rfl (ok_some hyq (dn_ins hxj c4 (w_in c2 hc))) dX2_move_90 ?_
                  refine xaast (v := bxa yq (xj - 1).toNatClampNeg) (i := xj) hx hb hK hW 1 3 (ok_mem hyq (dn_ins hxj c4 (w_in c2 hc))) rfl (Nat.le_of_ble_eq_true rfl) rfl (hxj) xj.toNatClampNeg rfl dX2_move_91 (fun H locs hW => ?_)
                  have hW : xW D A s.heap ([(aL, .inr (2, [.ref aLr, .int lc])), (aLr, .inl (cB, 10, .inr (.inr (.inr (.inr (va_up yq xj.toNatClampNeg (some (bxa yq (xj - 1).toNatClampNeg))))))))] ++ bxP L qi qt qc qp) H _ := hW
                  refine lv_iinc (v := xj + (-1)) (lv' := [(4, .int (xj + (-1))), (0, .ref aL), (1, .int a0), (2, .int a1), (3, .ref (bxa lr a0.toNatClampNeg))]) hx hb dX2_move_92 hl (k := 4) rfl rfl (by decide) rfl (fun ls hl => ?_)
                  refine lv_goto (tgt := 70) hx hb dX2_move_95 (by decide) ?_
                  have hF : f_X2_move_lp70 a0 a1 lr (n + 1) xj yq = f_X2_move_lp70 a0 a1 lr n (xj + (-1)) (va_up yq xj.toNatClampNeg (some (bxa yq (xj - 1).toNatClampNeg))) := by
                    rw [f_X2_move_lp70, if_neg c4]
                  refine W.widen (k := 0) (n := 0) (Nat.le_of_ble_eq_true rfl) (Nat.le_of_ble_eq_true rfl) ?_
                  exact ih70 (xj + (-1)) (va_up yq xj.toNatClampNeg (some (bxa yq (xj - 1).toNatClampNeg))) (hF.symm.trans hlp70) (dn_in hxj c4 (w_in c2 hc)) (ok_up hyq (ok_mem hyq (dn_ins hxj c4 (w_in c2 hc)))) (dn_mu c4 hm70) _ _ _ hW (lv_sub hl [1, 2, 3, 4, 0] rfl)
            have hF : f_X2_move_lp39 a0 a1 lr (n + 1) xi yr = f_X2_move_lp70 a0 a1 lr ((a0.toInt - a1.toInt).toNat + 1) a0 yr := by
              rw [f_X2_move_lp39, if_pos c3]
            refine W.widen (k := 0) (n := 0) (Nat.le_of_ble_eq_true rfl) (Nat.le_of_ble_eq_true rfl) ?_
            exact hl70_ ((a0.toInt - a1.toInt).toNat + 1) a0 yr (hF.symm.trans hlp39) (w_in c1 hc) (hyr) (Nat.lt_succ_self _) _ _ _ hW (lv_sub hl [1, 2, 3, 4, 0] rfl)
          · skip
            refine lv_aload_n hx hb dX2_move_45 rfl (lv_at hl 0 rfl) ?_
            refine xget (ci := 2) (C := RX2) (T := TX2) (N := 2) hx hb hts hin2 hown hK hW.1 0 rfl rfl 0 (by decide) w5 rfl dX2_move_46 ?_
            refine lv_iload hx hb dX2_move_49 (lv_at hl 4 rfl) ?_
            refine lv_aload_n hx hb dX2_move_51 rfl (lv_at hl 0 rfl) ?_
            refine xget (ci := 2) (C := RX2) (T := TX2) (N := 2) hx hb hts hin2 hown hK hW.1 0 rfl rfl 0 (by decide) w5 rfl dX2_move_52 ?_
            refine lv_iload hx hb dX2_move_55 (lv_at hl 4 rfl) ?_
            refine lv_iconst (v := 1) hx hb dX2_move_57 (by decide) ?_
            refine lv_iadd hx hb dX2_move_58 ?_
            refine xaald hx hb hK hW.1 1 3 rfl rfl (up_in hxi c3 (w_in c2 hc)) (xi + 1).toNatClampNeg rfl (ok_some hyr (up_in hxi c3 (w_in c2 hc))) dX2_move_59 ?_
            refine xaast (v := bxa yr (xi + 1).toNatClampNeg) (i := xi) hx hb hK hW 1 3 (ok_mem hyr (up_in hxi c3 (w_in c2 hc))) rfl (Nat.le_of_ble_eq_true rfl) rfl (hxi) xi.toNatClampNeg rfl dX2_move_60 (fun H locs hW => ?_)
            have hW : xW D A s.heap ([(aL, .inr (2, [.ref aLr, .int lc])), (aLr, .inl (cB, 10, .inr (.inr (.inr (.inr (va_up yr xi.toNatClampNeg (some (bxa yr (xi + 1).toNatClampNeg))))))))] ++ bxP L qi qt qc qp) H _ := hW
            refine lv_iinc (v := xi + 1) (lv' := [(4, .int (xi + 1)), (0, .ref aL), (1, .int a0), (2, .int a1), (3, .ref (bxa lr a0.toNatClampNeg))]) hx hb dX2_move_61 hl (k := 4) rfl rfl (by decide) rfl (fun ls hl => ?_)
            refine lv_goto (tgt := 39) hx hb dX2_move_64 (by decide) ?_
            have hF : f_X2_move_lp39 a0 a1 lr (n + 1) xi yr = f_X2_move_lp39 a0 a1 lr n (xi + 1) (va_up yr xi.toNatClampNeg (some (bxa yr (xi + 1).toNatClampNeg))) := by
              rw [f_X2_move_lp39, if_neg c3]
            refine W.widen (k := 0) (n := 0) (Nat.le_of_ble_eq_true rfl) (Nat.le_of_ble_eq_true rfl) ?_
            exact ih39 (xi + 1) (va_up yr xi.toNatClampNeg (some (bxa yr (xi + 1).toNatClampNeg))) (hF.symm.trans hlp39) (up_in hxi c3 (w_in c2 hc)) (ok_up hyr (ok_mem hyr (up_in hxi c3 (w_in c2 hc)))) (up_mu c3 hm39) _ _ _ hW (lv_sub hl [1, 2, 3, 4, 0] rfl)
      have hF : f_X2_move a0 a1 lc lr = f_X2_move_lp39 a0 a1 lr ((a1.toInt - a0.toInt).toNat + 1) a0 lr := by
        rw [f_X2_move, if_pos c1, if_pos c2]
      refine W.widen (k := 0) (n := 0) (Nat.le_of_ble_eq_true rfl) (Nat.le_of_ble_eq_true rfl) ?_
      exact hl39_ ((a1.toInt - a0.toInt).toNat + 1) a0 lr (hF.symm.trans ho) (w_in c1 hc) (hr) (Nat.lt_succ_self _) _ _ _ hW (lv_sub hl [2, 3, 4, 1, 0] rfl)
    · skip
      have hF : f_X2_move a0 a1 lc lr = lr := by
        rw [f_X2_move, if_pos c1, if_neg c2]
      obtain rfl : lr = o := hF.symm.trans ho
      exact W.vret hx hb hrt (fun t ht hM => ⟨⟨(), rfl, trivial, ⟨by rw [ht]; exact hW.1, hW.2.1⟩⟩, hW.2.2.F ht⟩) hW.2.2.2.2 dX2_move_28 hlocks

def f_X2_takeOut (a0 : Int32) (lc : Int32) (lr : Nat → Option Nat) : Int32 × (Nat → Option Nat) :=
  if (f_X9_within a0 0 (lc - 1)) = true then
    (lc - 1, f_X2_move a0 (lc - 1) lc lr)
  else
    (lc, lr)
set_option maxHeartbeats 4000000 in
set_option maxRecDepth 100000 in
theorem c_X2_takeOut (l : Launch) (D : va_G) (cI cJ cZ cB : ClassId) (sz : Nat) (aL : Nat) (aLr : Nat) (a0 : Int32) (lc : Int32) (lr : Nat → Option Nat) (L : List Nat) (qi : Nat → Int32) (qt : Nat → Int32) (qc : Nat → Int32) (qp : Nat → Int32) (hr : okR L lr) (hc : okC lc 10) (o : Int32 × (Nat → Option Nat)) (ho : f_X2_takeOut a0 lc lr = o) : Met l yX2_takeOut wsX2_takeOut ({ frames := 2, cells := 0, slots := 0, locals := 46 } : Room) (xPre D (xT cI cJ cZ cB) [.ref aL, .int a0] ([(aL, .inr (2, [.ref aLr, .int lc])), (aLr, .inl (cB, 10, .inr (.inr (.inr (.inr lr)))))] ++ bxP L qi qt qc qp) sz) (va_Qv (fun _ : Unit => True) (fun _ t => xB D (([(aL, .inr (2, [.ref aLr, .int o.1])), (aLr, .inl (cB, 10, .inr (.inr (.inr (.inr o.2)))))] : va_W) ++ bxP L qi qt qc qp) (va_A ([(aL, .inr (2, [.ref aLr, .int lc])), (aLr, .inl (cB, 10, .inr (.inr (.inr (.inr lr)))))] ++ bxP L qi qt qc qp) sz) t) (va_A ([(aL, .inr (2, [.ref aLr, .int lc])), (aLr, .inl (cB, 10, .inr (.inr (.inr (.inr lr)))))] ++ bxP L qi qt qc qp) sz)) 0 0 (va_A ([(aL, .inr (2, [.ref aLr, .int lc])), (aLr, .inl (cB, 10, .inr (.inr (.inr (.inr lr)))))] ++ bxP L qi qt qc qp) sz) := by
  refine xofW (Qc := fun A0 => va_Qv (fun _ : Unit => True) (fun _ t => xB D (([(aL, .inr (2, [.ref aLr, .int o.1])), (aLr, .inl (cB, 10, .inr (.inr (.inr (.inr o.2)))))] : va_W) ++ bxP L qi qt qc qp) A0 t) A0) (fr := fun A => A) (cc := cX2_takeOut) (maxL := 2) (ret := none) (by decide) rfl (Nat.le_of_ble_eq_true rfl) ?_
  intro p e s m below meth c A ⟨hx, hb, hml, hown, hts⟩ hrt hlocks hnm hsz hK hW hA hG ls hl
  have hown : s.vm.findClass RX2 = some m.cls := hown
  have hl : lv_has ls 2 [(0, .ref aL), (1, .int a0)] := hl
  obtain ⟨H, hH⟩ : ∃ H, H = s.heap := ⟨_, rfl⟩
  have hW : xW D A s.heap ([(aL, .inr (2, [.ref aLr, .int lc])), (aLr, .inl (cB, 10, .inr (.inr (.inr (.inr lr)))))] ++ bxP L qi qt qc qp) H [] := by rw [hH]; exact hW
  have w1 := hts (.fieldLink RX2 18 "DryIceLane$Lane" "count" "I") (by decide +kernel)
  have hin2 : ∀ w ∈ u_ws RX2 TX2 2, w ∈ wsX2_takeOut := by decide +kernel
  have w3 := hts (.initialized RX9) (by decide +kernel)
  have w4 := hts (.static yX9_within) (by decide +kernel)
  rw [← hH]
  refine lv_iload_n hx hb dX2_takeOut_0 rfl (lv_at hl 1 rfl) ?_
  refine lv_iconst (v := 0) hx hb dX2_takeOut_1 (by decide) ?_
  refine lv_aload_n hx hb dX2_takeOut_2 rfl (lv_at hl 0 rfl) ?_
  refine xget (ci := 2) (C := RX2) (T := TX2) (N := 2) hx hb hts hin2 hown hK hW.1 0 rfl rfl 1 (by decide) w1 rfl dX2_takeOut_3 ?_
  refine lv_iconst (v := 1) hx hb dX2_takeOut_6 (by decide) ?_
  refine lv_isub hx hb dX2_takeOut_7 ?_
  refine vp_callSi (va_Run.run (xrunSN (As := [.int a0, .int 0, .int (lc - 1)]) (rest := []) ⟨hx, hb, hml, hown, hts⟩ (c_X9_within l D cI cJ cZ cB H.size a0 0 (lc - 1) _ rfl) ⟨va_cnB (host := "DryIceLane") 3 hts gX2_takeOut_X9_within_n26 rfl rfl rfl (hG.1.1 (.methodLinkNest RX2 26 yX9_within "DryIceLane") (by decide +kernel)) w3 (by decide +kernel) ⟨Nat.le_of_ble_eq_true rfl, Nat.le_of_ble_eq_true rfl⟩, w4, trivial⟩ hK hG hW.2.2 (xsubQ hW hA [] rfl (by decide)) rfl hl.1 rfl (Nat.le_of_ble_eq_true rfl) dX2_takeOut_8 ⟨Nat.le_of_ble_eq_true rfl, Nat.le_of_ble_eq_true rfl⟩)) (fun r1 hq => ?_)
  subst hq
  refine xb_eq (tgt := 35) hx hb dX2_takeOut_11 (by decide) (fun c1 => ?_) (fun c1 => ?_)
  · skip
    have hF : f_X2_takeOut a0 lc lr = (lc, lr) := by
      rw [f_X2_takeOut, if_neg c1]
    obtain rfl : (lc, lr) = o := hF.symm.trans ho
    exact W.vret hx hb hrt (fun t ht hM => ⟨⟨(), rfl, trivial, ⟨by rw [ht]; exact hW.1, hW.2.1⟩⟩, hW.2.2.F ht⟩) hW.2.2.2.2 dX2_takeOut_35 hlocks
  · skip
    refine lv_aload_n hx hb dX2_takeOut_14 rfl (lv_at hl 0 rfl) ?_
    refine lv_iload_n hx hb dX2_takeOut_15 rfl (lv_at hl 1 rfl) ?_
    refine lv_aload_n hx hb dX2_takeOut_16 rfl (lv_at hl 0 rfl) ?_
    refine xget (ci := 2) (C := RX2) (T := TX2) (N := 2) hx hb hts hin2 hown hK hW.1 0 rfl rfl 1 (by decide) w1 rfl dX2_takeOut_17 ?_
    refine lv_iconst (v := 1) hx hb dX2_takeOut_20 (by decide) ?_
    refine lv_isub hx hb dX2_takeOut_21 ?_
    refine xPv (wr := []) hW hA [0, 1] [] rfl rfl (by decide) (by decide) (by decide) (xrunV (As := [.int a0, .int (lc - 1)]) (rest := []) ⟨hx, hb, hml, hown, hts⟩ (c_X2_move l D cI cJ cZ cB H.size aL aLr a0 (lc - 1) lc lr L qi qt qc qp (by assumption) (by assumption) _ rfl) (cwV 2 hts gX2_takeOut_X2_move rfl rfl rfl (by decide +kernel) ⟨Nat.le_of_ble_eq_true rfl, Nat.le_of_ble_eq_true rfl⟩) hK hG hW.2.2 (xsubP hW hA [0, 1] rfl (by decide)) (va_recv hK hW.1 (ci := 2) (q0 := 0) rfl rfl) rfl hl.1 rfl (Nat.le_of_ble_eq_true rfl) dX2_takeOut_22 ⟨Nat.le_of_ble_eq_true rfl, Nat.le_of_ble_eq_true rfl⟩) (fun _ H locs _ hW => ?_)
    have hW : xW D A s.heap ([(aL, .inr (2, [.ref aLr, .int lc])), (aLr, .inl (cB, 10, .inr (.inr (.inr (.inr (f_X2_move a0 (lc - 1) lc lr))))))] ++ bxP L qi qt qc qp) H _ := hW
    refine lv_aload_n hx hb dX2_takeOut_25 rfl (lv_at hl 0 rfl) ?_
    refine lv_dup hx hb dX2_takeOut_26 rfl ?_
    refine xget (ci := 2) (C := RX2) (T := TX2) (N := 2) hx hb hts hin2 hown hK hW.1 0 rfl rfl 1 (by decide) w1 rfl dX2_takeOut_27 ?_
    refine lv_iconst (v := 1) hx hb dX2_takeOut_30 (by decide) ?_
    refine lv_isub hx hb dX2_takeOut_31 ?_
    refine xput (ci := 2) (v := .int (lc - 1)) (ty := .int) (C := RX2) (T := TX2) (N := 2) hx hb hts hin2 tyX2 tyX2_ok nmX2 hown hK hW 0 rfl (Nat.le_of_ble_eq_true rfl) rfl 1 (by decide) w1 rfl (by decide +kernel) rfl rfl (Nat.le_of_ble_eq_true rfl) dX2_takeOut_32 (fun H locs hW => ?_)
    have hW : xW D A s.heap ([(aL, .inr (2, [.ref aLr, .int (lc - 1)])), (aLr, .inl (cB, 10, .inr (.inr (.inr (.inr (f_X2_move a0 (lc - 1) lc lr))))))] ++ bxP L qi qt qc qp) H _ := hW
    have hF : f_X2_takeOut a0 lc lr = (lc - 1, f_X2_move a0 (lc - 1) lc lr) := by
      rw [f_X2_takeOut, if_pos c1]
    obtain rfl : (lc - 1, f_X2_move a0 (lc - 1) lc lr) = o := hF.symm.trans ho
    exact W.vret hx hb hrt (fun t ht hM => ⟨⟨(), rfl, trivial, ⟨by rw [ht]; exact hW.1, hW.2.1⟩⟩, hW.2.2.F ht⟩) hW.2.2.2.2 dX2_takeOut_35 hlocks

def f_X2_becomeLike_k1 (xi : Int32) (g9 : Int32 → (Nat → Int32) → (Nat → Int32) → (Nat → Int32) → (Nat → Int32) → (Int32 × (Nat → Int32) × (Nat → Int32) × (Nat → Int32) × (Nat → Int32))) (o1_ : (Nat → Int32) × (Nat → Int32) × (Nat → Int32) × (Nat → Int32)) : Int32 × (Nat → Int32) × (Nat → Int32) × (Nat → Int32) × (Nat → Int32) :=
  g9 (xi + 1) o1_.1 o1_.2.1 o1_.2.2.1 o1_.2.2.2
def f_X2_becomeLike_lp10 (lr : Nat → Option Nat) (lcb : Int32) (lrb : Nat → Option Nat) : Nat → Int32 → (Nat → Int32) → (Nat → Int32) → (Nat → Int32) → (Nat → Int32) → Int32 × (Nat → Int32) × (Nat → Int32) × (Nat → Int32) × (Nat → Int32)
  | 0, _, _, _, _, _ => (0, (fun _ => 0), (fun _ => 0), (fun _ => 0), (fun _ => 0))
  | n + 1, xi, yi, yt, yc, yp =>
    if lcb ≤ xi then
      (lcb, yi, yt, yc, yp)
    else
      f_X2_becomeLike_k1 xi (f_X2_becomeLike_lp10 lr lcb lrb n) (f_X0_becomeLike (bxa lr xi.toNatClampNeg) (bxa lrb xi.toNatClampNeg) yi yt yc yp)
def f_X2_becomeLike (lr : Nat → Option Nat) (lcb : Int32) (lrb : Nat → Option Nat) (qi : Nat → Int32) (qt : Nat → Int32) (qc : Nat → Int32) (qp : Nat → Int32) : Int32 × (Nat → Int32) × (Nat → Int32) × (Nat → Int32) × (Nat → Int32) :=
  f_X2_becomeLike_lp10 lr lcb lrb ((lcb.toInt - (0 : Int32).toInt).toNat + 1) 0 qi qt qc qp
set_option maxHeartbeats 4000000 in
set_option maxRecDepth 100000 in
theorem c_X2_becomeLike (l : Launch) (D : va_G) (cI cJ cZ cB : ClassId) (sz : Nat) (aL : Nat) (aLr : Nat) (aLb : Nat) (aLrb : Nat) (lc : Int32) (lr : Nat → Option Nat) (lcb : Int32) (lrb : Nat → Option Nat) (L : List Nat) (qi : Nat → Int32) (qt : Nat → Int32) (qc : Nat → Int32) (qp : Nat → Int32) (hr : okR L lr) (hrb : okR L lrb) (hcb : okC lcb 10) (o : Int32 × (Nat → Int32) × (Nat → Int32) × (Nat → Int32) × (Nat → Int32)) (ho : f_X2_becomeLike lr lcb lrb qi qt qc qp = o) : Met l yX2_becomeLike wsX2_becomeLike ({ frames := 1, cells := 0, slots := 0, locals := 21 } : Room) (xPre D (xT cI cJ cZ cB) [.ref aL, .ref aLb] ([(aL, .inr (2, [.ref aLr, .int lc])), (aLr, .inl (cB, 10, .inr (.inr (.inr (.inr lr))))), (aLb, .inr (2, [.ref aLrb, .int lcb])), (aLrb, .inl (cB, 10, .inr (.inr (.inr (.inr lrb)))))] ++ bxP L qi qt qc qp) sz) (va_Qv (fun _ : Unit => True) (fun _ t => xB D (([(aL, .inr (2, [.ref aLr, .int o.1])), (aLr, .inl (cB, 10, .inr (.inr (.inr (.inr lr))))), (aLb, .inr (2, [.ref aLrb, .int lcb])), (aLrb, .inl (cB, 10, .inr (.inr (.inr (.inr lrb)))))] : va_W) ++ bxP L o.2.1 o.2.2.1 o.2.2.2.1 o.2.2.2.2) (va_A ([(aL, .inr (2, [.ref aLr, .int lc])), (aLr, .inl (cB, 10, .inr (.inr (.inr (.inr lr))))), (aLb, .inr (2, [.ref aLrb, .int lcb])), (aLrb, .inl (cB, 10, .inr (.inr (.inr (.inr lrb)))))] ++ bxP L qi qt qc qp) sz) t) (va_A ([(aL, .inr (2, [.ref aLr, .int lc])), (aLr, .inl (cB, 10, .inr (.inr (.inr (.inr lr))))), (aLb, .inr (2, [.ref aLrb, .int lcb])), (aLrb, .inl (cB, 10, .inr (.inr (.inr (.inr lrb)))))] ++ bxP L qi qt qc qp) sz)) 0 0 (va_A ([(aL, .inr (2, [.ref aLr, .int lc])), (aLr, .inl (cB, 10, .inr (.inr (.inr (.inr lr))))), (aLb, .inr (2, [.ref aLrb, .int lcb])), (aLrb, .inl (cB, 10, .inr (.inr (.inr (.inr lrb)))))] ++ bxP L qi qt qc qp) sz) := by
  refine xofW (Qc := fun A0 => va_Qv (fun _ : Unit => True) (fun _ t => xB D (([(aL, .inr (2, [.ref aLr, .int o.1])), (aLr, .inl (cB, 10, .inr (.inr (.inr (.inr lr))))), (aLb, .inr (2, [.ref aLrb, .int lcb])), (aLrb, .inl (cB, 10, .inr (.inr (.inr (.inr lrb)))))] : va_W) ++ bxP L o.2.1 o.2.2.1 o.2.2.2.1 o.2.2.2.2) A0 t) A0) (fr := fun A => A) (cc := cX2_becomeLike) (maxL := 3) (ret := none) (by decide) rfl (Nat.le_of_ble_eq_true rfl) ?_
  intro p e s m below meth c A ⟨hx, hb, hml, hown, hts⟩ hrt hlocks hnm hsz hK hW hA hG ls hl
  have hown : s.vm.findClass RX2 = some m.cls := hown
  have hl : lv_has ls 3 [(0, .ref aL), (1, .ref aLb)] := hl
  obtain ⟨H, hH⟩ : ∃ H, H = s.heap := ⟨_, rfl⟩
  have hW : xW D A s.heap ([(aL, .inr (2, [.ref aLr, .int lc])), (aLr, .inl (cB, 10, .inr (.inr (.inr (.inr lr))))), (aLb, .inr (2, [.ref aLrb, .int lcb])), (aLrb, .inl (cB, 10, .inr (.inr (.inr (.inr lrb)))))] ++ bxP L qi qt qc qp) H [] := by rw [hH]; exact hW
  have w1 := hts (.fieldLink RX2 18 "DryIceLane$Lane" "count" "I") (by decide +kernel)
  have hin2 : ∀ w ∈ u_ws RX2 TX2 2, w ∈ wsX2_becomeLike := by decide +kernel
  have w3 := hts (.fieldLink RX2 11 "DryIceLane$Lane" "boxes" "[LDryIceLane$Box;") (by decide +kernel)
  rw [← hH]
  refine lv_aload_n hx hb dX2_becomeLike_0 rfl (lv_at hl 0 rfl) ?_
  refine lv_aload_n hx hb dX2_becomeLike_1 rfl (lv_at hl 1 rfl) ?_
  refine xget (ci := 2) (C := RX2) (T := TX2) (N := 2) hx hb hts hin2 hown hK hW.1 2 rfl rfl 1 (by decide) w1 rfl dX2_becomeLike_2 ?_
  refine xput (ci := 2) (v := .int lcb) (ty := .int) (C := RX2) (T := TX2) (N := 2) hx hb hts hin2 tyX2 tyX2_ok nmX2 hown hK hW 0 rfl (Nat.le_of_ble_eq_true rfl) rfl 1 (by decide) w1 rfl (by decide +kernel) rfl rfl (Nat.le_of_ble_eq_true rfl) dX2_becomeLike_5 (fun H locs hW => ?_)
  have hW : xW D A s.heap ([(aL, .inr (2, [.ref aLr, .int lcb])), (aLr, .inl (cB, 10, .inr (.inr (.inr (.inr lr))))), (aLb, .inr (2, [.ref aLrb, .int lcb])), (aLrb, .inl (cB, 10, .inr (.inr (.inr (.inr lrb)))))] ++ bxP L qi qt qc qp) H _ := hW
  refine lv_iconst (v := 0) hx hb dX2_becomeLike_8 (by decide) ?_
  refine lv_istore_n (lv' := [(2, .int 0), (0, .ref aL), (1, .ref aLb)]) hx hb dX2_becomeLike_9 rfl hl (by decide) rfl (fun ls hl => ?_)
  have hl10_ : ∀ (n : Nat) (xi : Int32) (yi : Nat → Int32) (yt : Nat → Int32) (yc : Nat → Int32) (yp : Nat → Int32), f_X2_becomeLike_lp10 lr lcb lrb n xi yi yt yc yp = o → (0 ≤ xi.toInt) → (lcb.toInt - xi.toInt).toNat < n → ∀ (H : Heap) (locs : List Loc) (ls : Array Slot), xW D A s.heap ([(aL, .inr (2, [.ref aLr, .int lcb])), (aLr, .inl (cB, 10, .inr (.inr (.inr (.inr lr))))), (aLb, .inr (2, [.ref aLrb, .int lcb])), (aLrb, .inl (cB, 10, .inr (.inr (.inr (.inr lrb)))))] ++ bxP L yi yt yc yp) H locs → lv_has ls 3 [(0, .ref aL), (1, .ref aLb), (2, .int xi)] → W p l e ({ frames := 1, cells := 0, slots := 0, locals := 21 } : Room) s m [.ref aL, .ref aLb].toArray below meth c H locs 0 0 (MQ below (va_Qv (fun _ : Unit => True) (fun _ t => xB D (([(aL, .inr (2, [.ref aLr, .int o.1])), (aLr, .inl (cB, 10, .inr (.inr (.inr (.inr lr))))), (aLb, .inr (2, [.ref aLrb, .int lcb])), (aLrb, .inl (cB, 10, .inr (.inr (.inr (.inr lrb)))))] : va_W) ++ bxP L o.2.1 o.2.2.1 o.2.2.2.1 o.2.2.2.2) A t) A) [.ref aL, .ref aLb].toArray s 0 0 A) (F0 m 10 ls []) := by
    intro n
    induction n with
    | zero =>
      intro xi yi yt yc yp _ _ hm
      exact absurd hm (Nat.not_lt_zero _)
    | succ n ih10 =>
      intro xi yi yt yc yp hlp10 hi0 hm10 H locs ls hW hl
      refine lv_iload_n hx hb dX2_becomeLike_10 rfl (lv_at hl 2 rfl) ?_
      refine lv_aload_n hx hb dX2_becomeLike_11 rfl (lv_at hl 0 rfl) ?_
      refine xget (ci := 2) (C := RX2) (T := TX2) (N := 2) hx hb hts hin2 hown hK hW.1 0 rfl rfl 1 (by decide) w1 rfl dX2_becomeLike_12 ?_
      refine lv_icmp_ge (tgt := 39) hx hb dX2_becomeLike_15 (by decide) (fun c1 => ?_) (fun c1 => ?_)
      · skip
        have hF : f_X2_becomeLike_lp10 lr lcb lrb (n + 1) xi yi yt yc yp = (lcb, yi, yt, yc, yp) := by
          rw [f_X2_becomeLike_lp10, if_pos c1]
        obtain rfl : (lcb, yi, yt, yc, yp) = o := hF.symm.trans hlp10
        exact W.vret hx hb hrt (fun t ht hM => ⟨⟨(), rfl, trivial, ⟨by rw [ht]; exact hW.1, hW.2.1⟩⟩, hW.2.2.F ht⟩) hW.2.2.2.2 dX2_becomeLike_39 hlocks
      · skip
        refine lv_aload_n hx hb dX2_becomeLike_18 rfl (lv_at hl 0 rfl) ?_
        refine xget (ci := 2) (C := RX2) (T := TX2) (N := 2) hx hb hts hin2 hown hK hW.1 0 rfl rfl 0 (by decide) w3 rfl dX2_becomeLike_19 ?_
        refine lv_iload_n hx hb dX2_becomeLike_22 rfl (lv_at hl 2 rfl) ?_
        refine xaald hx hb hK hW.1 1 3 rfl rfl (in_lt hi0 c1 hcb.2) xi.toNatClampNeg rfl (ok_some hr (in_lt hi0 c1 hcb.2)) dX2_becomeLike_23 ?_
        refine lv_aload_n hx hb dX2_becomeLike_24 rfl (lv_at hl 1 rfl) ?_
        refine xget (ci := 2) (C := RX2) (T := TX2) (N := 2) hx hb hts hin2 hown hK hW.1 2 rfl rfl 0 (by decide) w3 rfl dX2_becomeLike_25 ?_
        refine lv_iload_n hx hb dX2_becomeLike_28 rfl (lv_at hl 2 rfl) ?_
        refine xaald hx hb hK hW.1 3 3 rfl rfl (in_lt hi0 c1 hcb.2) xi.toNatClampNeg rfl (ok_some hrb (in_lt hi0 c1 hcb.2)) dX2_becomeLike_29 ?_
        obtain ⟨o1_, eo1_⟩ : ∃ z9, f_X0_becomeLike (bxa lr xi.toNatClampNeg) (bxa lrb xi.toNatClampNeg) yi yt yc yp = z9 := ⟨_, rfl⟩
        refine xPv (wr := [(aL, .inr (2, [.ref aLr, .int lcb])), (aLr, .inl (cB, 10, .inr (.inr (.inr (.inr lr))))), (aLb, .inr (2, [.ref aLrb, .int lcb])), (aLrb, .inl (cB, 10, .inr (.inr (.inr (.inr lrb)))))]) hW hA [] [0, 1, 2, 3] rfl rfl (by decide) (by decide) (by decide) (xrunV (As := [.ref (bxa lrb xi.toNatClampNeg)]) (rest := []) ⟨hx, hb, hml, hown, hts⟩ (c_X0_becomeLike l D cI cJ cZ cB H.size (bxa lr xi.toNatClampNeg) (bxa lrb xi.toNatClampNeg) L yi yt yc yp (ok_mem hr (in_lt hi0 c1 hcb.2)) (ok_mem hrb (in_lt hi0 c1 hcb.2)) o1_ eo1_) (cwV 1 hts gX2_becomeLike_X0_becomeLike rfl rfl rfl (by decide +kernel) ⟨Nat.le_of_ble_eq_true rfl, Nat.le_of_ble_eq_true rfl⟩) hK hG hW.2.2 (xsubP hW hA [] rfl (by decide)) (xbrecv hK hW.1 (ok_mem hr (in_lt hi0 c1 hcb.2))) rfl hl.1 rfl (Nat.le_of_ble_eq_true rfl) dX2_becomeLike_30 ⟨Nat.le_of_ble_eq_true rfl, Nat.le_of_ble_eq_true rfl⟩) (fun _ H locs _ hW => ?_)
        have hW : xW D A s.heap ([(aL, .inr (2, [.ref aLr, .int lcb])), (aLr, .inl (cB, 10, .inr (.inr (.inr (.inr lr))))), (aLb, .inr (2, [.ref aLrb, .int lcb])), (aLrb, .inl (cB, 10, .inr (.inr (.inr (.inr lrb)))))] ++ bxP L o1_.1 o1_.2.1 o1_.2.2.1 o1_.2.2.2) H _ := hW
        have hF : f_X2_becomeLike_lp10 lr lcb lrb (n + 1) xi yi yt yc yp = f_X2_becomeLike_k1 xi (f_X2_becomeLike_lp10 lr lcb lrb n) o1_ := by
          rw [f_X2_becomeLike_lp10, if_neg c1, eo1_]
        have hK1 := hF.symm.trans hlp10
        refine lv_iinc (v := xi + 1) (lv' := [(2, .int (xi + 1)), (0, .ref aL), (1, .ref aLb)]) hx hb dX2_becomeLike_33 hl (k := 2) rfl rfl (by decide) rfl (fun ls hl => ?_)
        refine lv_goto (tgt := 10) hx hb dX2_becomeLike_36 (by decide) ?_
        have hF : f_X2_becomeLike_k1 xi (f_X2_becomeLike_lp10 lr lcb lrb n) o1_ = f_X2_becomeLike_lp10 lr lcb lrb n (xi + 1) o1_.1 o1_.2.1 o1_.2.2.1 o1_.2.2.2 := by
          rw [f_X2_becomeLike_k1]
        refine W.widen (k := 0) (n := 0) (Nat.le_of_ble_eq_true rfl) (Nat.le_of_ble_eq_true rfl) ?_
        exact ih10 (xi + 1) o1_.1 o1_.2.1 o1_.2.2.1 o1_.2.2.2 (hF.symm.trans hK1) (up_0 hi0 c1) (up_mu c1 hm10) _ _ _ hW (lv_sub hl [1, 2, 0] rfl)
  have hF : f_X2_becomeLike lr lcb lrb qi qt qc qp = f_X2_becomeLike_lp10 lr lcb lrb ((lcb.toInt - (0 : Int32).toInt).toNat + 1) 0 qi qt qc qp := by
    rw [f_X2_becomeLike]
  refine W.widen (k := 0) (n := 0) (Nat.le_of_ble_eq_true rfl) (Nat.le_of_ble_eq_true rfl) ?_
  exact hl10_ ((lcb.toInt - (0 : Int32).toInt).toNat + 1) 0 qi qt qc qp (hF.symm.trans ho) (by decide) (Nat.lt_succ_self _) _ _ _ hW (lv_sub hl [1, 2, 0] rfl)
