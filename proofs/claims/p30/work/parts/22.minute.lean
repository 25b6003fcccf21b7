theorem of_ins {a : Int32} {f : Nat → Int64} (hok : okM f) (h : 0 ≤ a.toInt ∧ a.toInt < (f 75).toInt) : 1 ≤ (f_X10_of a 0 f).toInt ∧ (f_X10_of a 0 f).toInt ≤ 100 := by
  have h1 := hok.1
  have h2 := hok.2.2.2.2.2.2.2 a.toInt.toNat (by omega)
  unfold f_X10_of
  rw [ix_n (by omega) ⟨by decide, by decide⟩]
  exact h2
theorem bx_ten {a : Int32} {f : Nat → Int64} (hok : okM f) (h : 0 ≤ a.toInt ∧ a.toInt < (f 75).toInt) : 0 ≤ a.toInt ∧ a.toInt < 10 := by
  have h1 := hok.1
  omega
theorem bx_lt {x : Int32} {f : Nat → Int64} (hok : okB f) (h0 : 0 ≤ x.toInt) (c : ¬ f_X10_boxes f ≤ x) : 0 ≤ x.toInt ∧ x.toInt < (f 75).toInt := by
  have h1 := xnle.mp c
  rw [okB_n hok] at h1
  omega
theorem bx_tn {x : Int32} {f : Nat → Int64} (hok : okB f) (h0 : 0 ≤ x.toInt) (c : ¬ f_X10_boxes f ≤ x) : 0 ≤ x.toInt ∧ x.toInt < 10 := by
  have h1 := bx_lt hok h0 c
  have h2 := hok.2
  omega
theorem ten_up {x : Int32} (h : 0 ≤ x.toInt ∧ x.toInt < 10) : 0 ≤ (x + 1).toInt ∧ (x + 1).toInt = x.toInt + 1 := up40 (by omega)
theorem ten_mu {x : Int32} {k : Nat} (h : 0 ≤ x.toInt ∧ x.toInt < 10) (hm : (10 - x.toInt).toNat < k + 1) : (10 - (x + 1).toInt).toNat < k := by
  rw [(ten_up h).2]; omega
theorem isBox_b {a : Int32} {f : Nat → Int64} (hok : okM f) (h : f_X10_isBox a f = true) : 0 ≤ a.toInt ∧ a.toInt < (f 75).toInt := ⟨(isBox_in h hok).1, (isBox_in h hok).2.1⟩

def f_X10_goesOff (a0 : Int32) (mf : Nat → Int64) : Int64 :=
  if 0 ≤ ((((mf 78) + 8000) * (mf 64)) / (100 * (f_X10_of a0 0 mf))) then
    if (f_X10_of a0 2 mf) ≤ ((((mf 78) + 8000) * (mf 64)) / (100 * (f_X10_of a0 0 mf))) then
      f_X10_of a0 2 mf
    else
      (((mf 78) + 8000) * (mf 64)) / (100 * (f_X10_of a0 0 mf))
  else
    0
set_option maxHeartbeats 4000000 in
set_option maxRecDepth 100000 in
theorem c_X10_goesOff (l : Launch) (D : va_G) (cI cJ cZ cB : ClassId) (sz : Nat) (aM : Nat) (mA : Nat) (a0 : Int32) (mB : Nat) (mC : Nat) (mD : Nat) (mE : Nat) (pm : Int32) (sp : Int32) (iw : Bool) (mF : Nat) (rn : Int32) (mf : Nat → Int64) (hok : okM mf) (hbx : 0 ≤ a0.toInt ∧ a0.toInt < (mf 75).toInt) (o : Int64) (ho : f_X10_goesOff a0 mf = o) : Met l yX10_goesOff wsX10_goesOff ({ frames := 1, cells := 0, slots := 0, locals := 22 } : Room) (xPre D (xT cI cJ cZ cB) [.ref aM, .int a0] [(aM, .inr (10, [.ref mA, .ref mB, .ref mC, .ref mD, .ref mE, .int pm, .int sp, .int (bi iw), .ref mF, .int rn])), (mA, .inl (cJ, 93, .inr (.inl mf)))] sz) (vp_Sl (fun r => r = o)) 0 0 (fun _ => False) := by
  refine xofW (Qc := fun _ => vp_Sl (fun r => r = o)) (fr := fun _ _ => False) (cc := cX10_goesOff) (maxL := 4) (ret := (some .long)) (by decide) rfl (Nat.le_of_ble_eq_true rfl) ?_
  intro p e s m below meth c A ⟨hx, hb, hml, hown, hts⟩ hrt hlocks hnm hsz hK hW hA hG ls hl
  have hown : s.vm.findClass RX10 = some m.cls := hown
  have hl : lv_has ls 4 [(0, .ref aM), (1, .int a0)] := hl
  obtain ⟨H, hH⟩ : ∃ H, H = s.heap := ⟨_, rfl⟩
  have hW : xW D A s.heap ([(aM, .inr (10, [.ref mA, .ref mB, .ref mC, .ref mD, .ref mE, .int pm, .int sp, .int (bi iw), .ref mF, .int rn])), (mA, .inl (cJ, 93, .inr (.inl mf)))] ++ []) H [] := by rw [hH]; exact hW
  have w1 := hts (.fieldLink RX10 7 "DryIceLaneModel" "at" "[J") (by decide +kernel)
  have hin10 : ∀ w ∈ u_ws RX10 TX10 10, w ∈ wsX10_goesOff := by decide +kernel
  have w3 := hts (.constantLong RX10 115 (8000)) (by decide +kernel)
  have w4 := hts (.constantLong RX10 34 (100)) (by decide +kernel)
  rw [← hH]
  refine lv_aload_n hx hb dX10_goesOff_0 rfl (lv_at hl 0 rfl) ?_
  refine xget (ci := 10) (C := RX10) (T := TX10) (N := 10) hx hb hts hin10 hown hK hW.1 0 rfl rfl 0 (by decide) w1 rfl dX10_goesOff_1 ?_
  refine lv_bipush (v := 78) hx hb dX10_goesOff_4 (by decide) ?_
  refine xlald hx hb hK hW.1 1 1 rfl rfl (vp_in_iff.mpr ⟨by decide, by decide⟩) 78 rfl (v := mf 78) rfl dX10_goesOff_6 ?_
  refine lv_ldc2 hx hb hown w3 dX10_goesOff_7 ?_
  refine lv_ladd hx hb dX10_goesOff_10 ?_
  refine lv_aload_n hx hb dX10_goesOff_11 rfl (lv_at hl 0 rfl) ?_
  refine xget (ci := 10) (C := RX10) (T := TX10) (N := 10) hx hb hts hin10 hown hK hW.1 0 rfl rfl 0 (by decide) w1 rfl dX10_goesOff_12 ?_
  refine lv_bipush (v := 64) hx hb dX10_goesOff_15 (by decide) ?_
  refine xlald hx hb hK hW.1 1 1 rfl rfl (vp_in_iff.mpr ⟨by decide, by decide⟩) 64 rfl (v := mf 64) rfl dX10_goesOff_17 ?_
  refine lv_lmul hx hb dX10_goesOff_18 ?_
  refine lv_ldc2 hx hb hown w4 dX10_goesOff_19 ?_
  refine lv_aload_n hx hb dX10_goesOff_22 rfl (lv_at hl 0 rfl) ?_
  refine lv_iload_n hx hb dX10_goesOff_23 rfl (lv_at hl 1 rfl) ?_
  refine lv_iconst (v := 0) hx hb dX10_goesOff_24 (by decide) ?_
  refine vp_callSl (va_Run.run (xrunV (As := [.int a0, .int 0]) (rest := [.long 100, .long (((mf 78) + 8000) * (mf 64))]) ⟨hx, hb, hml, hown, hts⟩ (c_X10_of l D cI cJ cZ cB H.size aM mA a0 0 mB mC mD mE pm sp iw mF rn mf (ix_in (bx_ten hok hbx) ⟨by decide, by decide⟩) _ rfl) (cwV 2 hts gX10_goesOff_X10_of rfl rfl rfl (by decide +kernel) ⟨Nat.le_of_ble_eq_true rfl, Nat.le_of_ble_eq_true rfl⟩) hK hG hW.2.2 (xsubQ hW hA [0, 1] rfl (by decide)) (va_recv hK hW.1 (ci := 10) (q0 := 0) rfl rfl) rfl hl.1 rfl (Nat.le_of_ble_eq_true rfl) dX10_goesOff_25 ⟨Nat.le_of_ble_eq_true rfl, Nat.le_of_ble_eq_true rfl⟩)) (fun r1 hq => ?_)
  subst hq
  refine lv_lmul hx hb dX10_goesOff_28 ?_
  refine lv_ldiv hx hb dX10_goesOff_29 (d100v (of_ins hok hbx)) ?_
  refine lv_lstore_n (lv' := [(2, .long ((((mf 78) + 8000) * (mf 64)) / (100 * (f_X10_of a0 0 mf)))), (0, .ref aM), (1, .int a0)]) hx hb dX10_goesOff_30 rfl hl (by decide) rfl (fun ls hl => ?_)
  refine lv_lload_n hx hb dX10_goesOff_31 rfl (lv_at hl 0 rfl) ?_
  refine lv_lconst (v := 0) hx hb dX10_goesOff_32 (by decide) ?_
  refine xlc_ge (tgt := 41) hx hb dX10_goesOff_33 dX10_goesOff_34 (by decide) (fun c1 => ?_) (fun c1 => ?_)
  · skip
    refine lv_lload_n hx hb dX10_goesOff_41 rfl (lv_at hl 0 rfl) ?_
    refine lv_aload_n hx hb dX10_goesOff_42 rfl (lv_at hl 1 rfl) ?_
    refine lv_iload_n hx hb dX10_goesOff_43 rfl (lv_at hl 2 rfl) ?_
    refine lv_iconst (v := 2) hx hb dX10_goesOff_44 (by decide) ?_
    refine vp_callSl (va_Run.run (xrunV (As := [.int a0, .int 2]) (rest := [.long ((((mf 78) + 8000) * (mf 64)) / (100 * (f_X10_of a0 0 mf)))]) ⟨hx, hb, hml, hown, hts⟩ (c_X10_of l D cI cJ cZ cB H.size aM mA a0 2 mB mC mD mE pm sp iw mF rn mf (ix_in (bx_ten hok hbx) ⟨by decide, by decide⟩) _ rfl) (cwV 2 hts gX10_goesOff_X10_of rfl rfl rfl (by decide +kernel) ⟨Nat.le_of_ble_eq_true rfl, Nat.le_of_ble_eq_true rfl⟩) hK hG hW.2.2 (xsubQ hW hA [0, 1] rfl (by decide)) (va_recv hK hW.1 (ci := 10) (q0 := 0) rfl rfl) rfl hl.1 rfl (Nat.le_of_ble_eq_true rfl) dX10_goesOff_45 ⟨Nat.le_of_ble_eq_true rfl, Nat.le_of_ble_eq_true rfl⟩)) (fun r2 hq => ?_)
    subst hq
    refine xlc_ge (tgt := 56) hx hb dX10_goesOff_48 dX10_goesOff_49 (by decide) (fun c2 => ?_) (fun c2 => ?_)
    · skip
      refine lv_aload_n hx hb dX10_goesOff_56 rfl (lv_at hl 1 rfl) ?_
      refine lv_iload_n hx hb dX10_goesOff_57 rfl (lv_at hl 2 rfl) ?_
      refine lv_iconst (v := 2) hx hb dX10_goesOff_58 (by decide) ?_
      refine vp_callSl (va_Run.run (xrunV (As := [.int a0, .int 2]) (rest := []) ⟨hx, hb, hml, hown, hts⟩ (c_X10_of l D cI cJ cZ cB H.size aM mA a0 2 mB mC mD mE pm sp iw mF rn mf (ix_in (bx_ten hok hbx) ⟨by decide, by decide⟩) _ rfl) (cwV 2 hts gX10_goesOff_X10_of rfl rfl rfl (by decide +kernel) ⟨Nat.le_of_ble_eq_true rfl, Nat.le_of_ble_eq_true rfl⟩) hK hG hW.2.2 (xsubQ hW hA [0, 1] rfl (by decide)) (va_recv hK hW.1 (ci := 10) (q0 := 0) rfl rfl) rfl hl.1 rfl (Nat.le_of_ble_eq_true rfl) dX10_goesOff_59 ⟨Nat.le_of_ble_eq_true rfl, Nat.le_of_ble_eq_true rfl⟩)) (fun r3 hq => ?_)
      subst hq
      have hF : f_X10_goesOff a0 mf = f_X10_of a0 2 mf := by
        rw [f_X10_goesOff, if_pos c1, if_pos c2]
      obtain rfl : f_X10_of a0 2 mf = o := hF.symm.trans ho
      exact W.lret (v := f_X10_of a0 2 mf) hx hb hrt (fun t ht hM => ⟨_, rfl, rfl, ht.trans hH⟩) (fun q h => by cases h) dX10_goesOff_62 hlocks
    · skip
      refine lv_lload_n hx hb dX10_goesOff_52 rfl (lv_at hl 0 rfl) ?_
      refine lv_goto (tgt := 62) hx hb dX10_goesOff_53 (by decide) ?_
      have hF : f_X10_goesOff a0 mf = (((mf 78) + 8000) * (mf 64)) / (100 * (f_X10_of a0 0 mf)) := by
        rw [f_X10_goesOff, if_pos c1, if_neg c2]
      obtain rfl : (((mf 78) + 8000) * (mf 64)) / (100 * (f_X10_of a0 0 mf)) = o := hF.symm.trans ho
      exact W.lret (v := (((mf 78) + 8000) * (mf 64)) / (100 * (f_X10_of a0 0 mf))) hx hb hrt (fun t ht hM => ⟨_, rfl, rfl, ht.trans hH⟩) (fun q h => by cases h) dX10_goesOff_62 hlocks
  · skip
    refine lv_lconst (v := 0) hx hb dX10_goesOff_37 (by decide) ?_
    refine lv_goto (tgt := 62) hx hb dX10_goesOff_38 (by decide) ?_
    have hF : f_X10_goesOff a0 mf = 0 := by
      rw [f_X10_goesOff, if_neg c1]
    obtain rfl : 0 = o := hF.symm.trans ho
    exact W.lret (v := 0) hx hb hrt (fun t ht hM => ⟨_, rfl, rfl, ht.trans hH⟩) (fun q h => by cases h) dX10_goesOff_62 hlocks

def f_X10_goOff_lp4 : Nat → Int64 → Int32 → (Nat → Int64) → Int64 × (Nat → Int64)
  | 0, _, _, _ => (0, (fun _ => 0))
  | n + 1, ya, xi, yf =>
    if (f_X10_boxes yf) ≤ xi then
      (ya, vp_updL (vp_updL yf 79 ((yf 79) + ya)) 90 ((yf 90) + ya))
    else
      if 0 ≤ ((f_X10_of xi 3 yf) - (f_X10_goesOff xi yf)) then
        f_X10_goOff_lp4 n (ya + (f_X10_goesOff xi yf)) (xi + 1) (f_X10_lay xi 3 ((f_X10_of xi 3 yf) - (f_X10_goesOff xi yf)) (f_X10_lay xi 2 ((f_X10_of xi 2 yf) - (f_X10_goesOff xi yf)) yf))
      else
        f_X10_goOff_lp4 n (ya + (f_X10_goesOff xi yf)) (xi + 1) (f_X10_lay xi 3 0 (f_X10_lay xi 2 ((f_X10_of xi 2 yf) - (f_X10_goesOff xi yf)) yf))
def f_X10_goOff (mf : Nat → Int64) : Int64 × (Nat → Int64) :=
  f_X10_goOff_lp4 ((10 - (0 : Int32).toInt).toNat + 1) 0 0 mf
set_option maxHeartbeats 4000000 in
set_option maxRecDepth 100000 in
theorem c_X10_goOff (l : Launch) (D : va_G) (cI cJ cZ cB : ClassId) (sz : Nat) (aM : Nat) (mA : Nat) (mB : Nat) (mC : Nat) (mD : Nat) (mE : Nat) (pm : Int32) (sp : Int32) (iw : Bool) (mF : Nat) (rn : Int32) (mf : Nat → Int64) (hok : okM mf) (o : Int64 × (Nat → Int64)) (ho : f_X10_goOff mf = o) : Met l yX10_goOff wsX10_goOff ({ frames := 2, cells := 0, slots := 0, locals := 45 } : Room) (xPre D (xT cI cJ cZ cB) [.ref aM] [(aM, .inr (10, [.ref mA, .ref mB, .ref mC, .ref mD, .ref mE, .int pm, .int sp, .int (bi iw), .ref mF, .int rn])), (mA, .inl (cJ, 93, .inr (.inl mf)))] sz) (va_Ql (fun r (_ : Unit) => r = o.1) (fun _ t => xB D ([(aM, .inr (10, [.ref mA, .ref mB, .ref mC, .ref mD, .ref mE, .int pm, .int sp, .int (bi iw), .ref mF, .int rn])), (mA, .inl (cJ, 93, .inr (.inl o.2)))]) (va_A [(aM, .inr (10, [.ref mA, .ref mB, .ref mC, .ref mD, .ref mE, .int pm, .int sp, .int (bi iw), .ref mF, .int rn])), (mA, .inl (cJ, 93, .inr (.inl mf)))] sz) t) (va_A [(aM, .inr (10, [.ref mA, .ref mB, .ref mC, .ref mD, .ref mE, .int pm, .int sp, .int (bi iw), .ref mF, .int rn])), (mA, .inl (cJ, 93, .inr (.inl mf)))] sz)) 0 0 (va_A [(aM, .inr (10, [.ref mA, .ref mB, .ref mC, .ref mD, .ref mE, .int pm, .int sp, .int (bi iw), .ref mF, .int rn])), (mA, .inl (cJ, 93, .inr (.inl mf)))] sz) := by
  refine xofW (Qc := fun A0 => va_Ql (fun r (_ : Unit) => r = o.1) (fun _ t => xB D ([(aM, .inr (10, [.ref mA, .ref mB, .ref mC, .ref mD, .ref mE, .int pm, .int sp, .int (bi iw), .ref mF, .int rn])), (mA, .inl (cJ, 93, .inr (.inl o.2)))]) A0 t) A0) (fr := fun A => A) (cc := cX10_goOff) (maxL := 8) (ret := (some .long)) (by decide) rfl (Nat.le_of_ble_eq_true rfl) ?_
  intro p e s m below meth c A ⟨hx, hb, hml, hown, hts⟩ hrt hlocks hnm hsz hK hW hA hG ls hl
  have hown : s.vm.findClass RX10 = some m.cls := hown
  have hl : lv_has ls 8 [(0, .ref aM)] := hl
  obtain ⟨H, hH⟩ : ∃ H, H = s.heap := ⟨_, rfl⟩
  have hW : xW D A s.heap ([(aM, .inr (10, [.ref mA, .ref mB, .ref mC, .ref mD, .ref mE, .int pm, .int sp, .int (bi iw), .ref mF, .int rn])), (mA, .inl (cJ, 93, .inr (.inl mf)))] ++ []) H [] := by rw [hH]; exact hW
  have w1 := hts (.fieldLink RX10 7 "DryIceLaneModel" "at" "[J") (by decide +kernel)
  have hin10 : ∀ w ∈ u_ws RX10 TX10 10, w ∈ wsX10_goOff := by decide +kernel
  rw [← hH]
  refine lv_lconst (v := 0) hx hb dX10_goOff_0 (by decide) ?_
  refine lv_lstore_n (lv' := [(1, .long 0), (0, .ref aM)]) hx hb dX10_goOff_1 rfl hl (by decide) rfl (fun ls hl => ?_)
  refine lv_iconst (v := 0) hx hb dX10_goOff_2 (by decide) ?_
  refine lv_istore_n (lv' := [(3, .int 0), (1, .long 0), (0, .ref aM)]) hx hb dX10_goOff_3 rfl hl (by decide) rfl (fun ls hl => ?_)
  have hl4_ : ∀ (n : Nat) (ya : Int64) (xi : Int32) (yf : Nat → Int64), f_X10_goOff_lp4 n ya xi yf = o → (0 ≤ xi.toInt) → (okM yf) → (10 - xi.toInt).toNat < n → ∀ (H : Heap) (locs : List Loc) (ls : Array Slot), xW D A s.heap ([(aM, .inr (10, [.ref mA, .ref mB, .ref mC, .ref mD, .ref mE, .int pm, .int sp, .int (bi iw), .ref mF, .int rn])), (mA, .inl (cJ, 93, .inr (.inl yf)))] ++ []) H locs → lv_has ls 8 [(0, .ref aM), (1, .long ya), (3, .int xi)] → W p l e ({ frames := 2, cells := 0, slots := 0, locals := 45 } : Room) s m [.ref aM].toArray below meth c H locs 0 0 (MQ below (va_Ql (fun r (_ : Unit) => r = o.1) (fun _ t => xB D ([(aM, .inr (10, [.ref mA, .ref mB, .ref mC, .ref mD, .ref mE, .int pm, .int sp, .int (bi iw), .ref mF, .int rn])), (mA, .inl (cJ, 93, .inr (.inl o.2)))]) A t) A) [.ref aM].toArray s 0 0 A) (F0 m 4 ls []) := by
    intro n
    induction n with
    | zero =>
      intro ya xi yf _ _ _ hm
      exact absurd hm (Nat.not_lt_zero _)
    | succ n ih4 =>
      intro ya xi yf hlp4 hi0 hoy hm4 H locs ls hW hl
      refine lv_iload_n hx hb dX10_goOff_4 rfl (lv_at hl 2 rfl) ?_
      refine lv_aload_n hx hb dX10_goOff_5 rfl (lv_at hl 0 rfl) ?_
      refine vp_callSi (va_Run.run (xrunV (As := []) (rest := [.int xi]) ⟨hx, hb, hml, hown, hts⟩ (c_X10_boxes l D cI cJ cZ cB H.size aM mA mB mC mD mE pm sp iw mF rn yf _ rfl) (cwV 0 hts gX10_goOff_X10_boxes rfl rfl rfl (by decide +kernel) ⟨Nat.le_of_ble_eq_true rfl, Nat.le_of_ble_eq_true rfl⟩) hK hG hW.2.2 (xsubQ hW hA [0, 1] rfl (by decide)) (va_recv hK hW.1 (ci := 10) (q0 := 0) rfl rfl) rfl hl.1 rfl (Nat.le_of_ble_eq_true rfl) dX10_goOff_6 ⟨Nat.le_of_ble_eq_true rfl, Nat.le_of_ble_eq_true rfl⟩)) (fun r1 hq => ?_)
      subst hq
      refine lv_icmp_ge (tgt := 75) hx hb dX10_goOff_9 (by decide) (fun c1 => ?_) (fun c1 => ?_)
      · skip
        refine lv_aload_n hx hb dX10_goOff_75 rfl (lv_at hl 0 rfl) ?_
        refine xget (ci := 10) (C := RX10) (T := TX10) (N := 10) hx hb hts hin10 hown hK hW.1 0 rfl rfl 0 (by decide) w1 rfl dX10_goOff_76 ?_
        refine lv_bipush (v := 79) hx hb dX10_goOff_79 (by decide) ?_
        refine lv_dup2_11 hx hb dX10_goOff_81 rfl rfl ?_
        refine xlald hx hb hK hW.1 1 1 rfl rfl (vp_in_iff.mpr ⟨by decide, by decide⟩) 79 rfl (v := yf 79) rfl dX10_goOff_82 ?_
        refine lv_lload_n hx hb dX10_goOff_83 rfl (lv_at hl 1 rfl) ?_
        refine lv_ladd hx hb dX10_goOff_84 ?_
        refine xlast hx hb hK hW 1 1 rfl (Nat.le_of_ble_eq_true rfl) rfl (vp_in_iff.mpr ⟨by decide, by decide⟩) 79 rfl dX10_goOff_85 (fun H locs hW => ?_)
        have hW : xW D A s.heap ([(aM, .inr (10, [.ref mA, .ref mB, .ref mC, .ref mD, .ref mE, .int pm, .int sp, .int (bi iw), .ref mF, .int rn])), (mA, .inl (cJ, 93, .inr (.inl (vp_updL yf 79 ((yf 79) + ya)))))] ++ []) H _ := hW
        refine lv_aload_n hx hb dX10_goOff_86 rfl (lv_at hl 0 rfl) ?_
        refine xget (ci := 10) (C := RX10) (T := TX10) (N := 10) hx hb hts hin10 hown hK hW.1 0 rfl rfl 0 (by decide) w1 rfl dX10_goOff_87 ?_
        refine lv_bipush (v := 90) hx hb dX10_goOff_90 (by decide) ?_
        refine lv_dup2_11 hx hb dX10_goOff_92 rfl rfl ?_
        refine xlald hx hb hK hW.1 1 1 rfl rfl (vp_in_iff.mpr ⟨by decide, by decide⟩) 90 rfl (v := yf 90) rfl dX10_goOff_93 ?_
        refine lv_lload_n hx hb dX10_goOff_94 rfl (lv_at hl 1 rfl) ?_
        refine lv_ladd hx hb dX10_goOff_95 ?_
        refine xlast hx hb hK hW 1 1 rfl (Nat.le_of_ble_eq_true rfl) rfl (vp_in_iff.mpr ⟨by decide, by decide⟩) 90 rfl dX10_goOff_96 (fun H locs hW => ?_)
        have hW : xW D A s.heap ([(aM, .inr (10, [.ref mA, .ref mB, .ref mC, .ref mD, .ref mE, .int pm, .int sp, .int (bi iw), .ref mF, .int rn])), (mA, .inl (cJ, 93, .inr (.inl (vp_updL (vp_updL yf 79 ((yf 79) + ya)) 90 ((yf 90) + ya)))))] ++ []) H _ := hW
        refine lv_lload_n hx hb dX10_goOff_97 rfl (lv_at hl 1 rfl) ?_
        have hF : f_X10_goOff_lp4 (n + 1) ya xi yf = (ya, vp_updL (vp_updL yf 79 ((yf 79) + ya)) 90 ((yf 90) + ya)) := by
          rw [f_X10_goOff_lp4, if_pos c1]
        obtain rfl : (ya, vp_updL (vp_updL yf 79 ((yf 79) + ya)) 90 ((yf 90) + ya)) = o := hF.symm.trans hlp4
        exact W.lret (v := ya) hx hb hrt (fun t ht hM => ⟨⟨_, (), rfl, rfl, ⟨by rw [ht]; exact hW.1, hW.2.1⟩⟩, hW.2.2.F ht⟩) hW.2.2.2.2 dX10_goOff_98 hlocks
      · skip
        refine lv_aload_n hx hb dX10_goOff_12 rfl (lv_at hl 0 rfl) ?_
        refine lv_iload_n hx hb dX10_goOff_13 rfl (lv_at hl 2 rfl) ?_
        refine vp_callSl (va_Run.run (xrunV (As := [.int xi]) (rest := []) ⟨hx, hb, hml, hown, hts⟩ (c_X10_goesOff l D cI cJ cZ cB H.size aM mA xi mB mC mD mE pm sp iw mF rn yf (hoy) (bx_lt (okM_B hoy) hi0 c1) _ rfl) (cwV 1 hts gX10_goOff_X10_goesOff rfl rfl rfl (by decide +kernel) ⟨Nat.le_of_ble_eq_true rfl, Nat.le_of_ble_eq_true rfl⟩) hK hG hW.2.2 (xsubQ hW hA [0, 1] rfl (by decide)) (va_recv hK hW.1 (ci := 10) (q0 := 0) rfl rfl) rfl hl.1 rfl (Nat.le_of_ble_eq_true rfl) dX10_goOff_14 ⟨Nat.le_of_ble_eq_true rfl, Nat.le_of_ble_eq_true rfl⟩)) (fun r2 hq => ?_)
        subst hq
        refine lv_lstore (lv' := [(4, .long (f_X10_goesOff xi yf)), (0, .ref aM), (1, .long ya), (3, .int xi)]) hx hb dX10_goOff_17 hl (by decide) rfl (fun ls hl => ?_)
        refine lv_aload_n hx hb dX10_goOff_19 rfl (lv_at hl 1 rfl) ?_
        refine lv_iload_n hx hb dX10_goOff_20 rfl (lv_at hl 3 rfl) ?_
        refine lv_iconst (v := 3) hx hb dX10_goOff_21 (by decide) ?_
        refine vp_callSl (va_Run.run (xrunV (As := [.int xi, .int 3]) (rest := []) ⟨hx, hb, hml, hown, hts⟩ (c_X10_of l D cI cJ cZ cB H.size aM mA xi 3 mB mC mD mE pm sp iw mF rn yf (ix_in (bx_tn (okM_B hoy) hi0 c1) ⟨by decide, by decide⟩) _ rfl) (cwV 2 hts gX10_goOff_X10_of rfl rfl rfl (by decide +kernel) ⟨Nat.le_of_ble_eq_true rfl, Nat.le_of_ble_eq_true rfl⟩) hK hG hW.2.2 (xsubQ hW hA [0, 1] rfl (by decide)) (va_recv hK hW.1 (ci := 10) (q0 := 0) rfl rfl) rfl hl.1 rfl (Nat.le_of_ble_eq_true rfl) dX10_goOff_22 ⟨Nat.le_of_ble_eq_true rfl, Nat.le_of_ble_eq_true rfl⟩)) (fun r3 hq => ?_)
        subst hq
        refine lv_lload hx hb dX10_goOff_25 (lv_at hl 0 rfl) ?_
        refine lv_lsub hx hb dX10_goOff_27 ?_
        refine lv_lstore (lv' := [(6, .long ((f_X10_of xi 3 yf) - (f_X10_goesOff xi yf))), (4, .long (f_X10_goesOff xi yf)), (0, .ref aM), (1, .long ya), (3, .int xi)]) hx hb dX10_goOff_28 hl (by decide) rfl (fun ls hl => ?_)
        refine lv_aload_n hx hb dX10_goOff_30 rfl (lv_at hl 2 rfl) ?_
        refine lv_iload_n hx hb dX10_goOff_31 rfl (lv_at hl 4 rfl) ?_
        refine lv_iconst (v := 2) hx hb dX10_goOff_32 (by decide) ?_
        refine lv_aload_n hx hb dX10_goOff_33 rfl (lv_at hl 2 rfl) ?_
        refine lv_iload_n hx hb dX10_goOff_34 rfl (lv_at hl 4 rfl) ?_
        refine lv_iconst (v := 2) hx hb dX10_goOff_35 (by decide) ?_
        refine vp_callSl (va_Run.run (xrunV (As := [.int xi, .int 2]) (rest := [.int 2, .int xi, .ref aM]) ⟨hx, hb, hml, hown, hts⟩ (c_X10_of l D cI cJ cZ cB H.size aM mA xi 2 mB mC mD mE pm sp iw mF rn yf (ix_in (bx_tn (okM_B hoy) hi0 c1) ⟨by decide, by decide⟩) _ rfl) (cwV 2 hts gX10_goOff_X10_of rfl rfl rfl (by decide +kernel) ⟨Nat.le_of_ble_eq_true rfl, Nat.le_of_ble_eq_true rfl⟩) hK hG hW.2.2 (xsubQ hW hA [0, 1] rfl (by decide)) (va_recv hK hW.1 (ci := 10) (q0 := 0) rfl rfl) rfl hl.1 rfl (Nat.le_of_ble_eq_true rfl) dX10_goOff_36 ⟨Nat.le_of_ble_eq_true rfl, Nat.le_of_ble_eq_true rfl⟩)) (fun r4 hq => ?_)
        subst hq
        refine lv_lload hx hb dX10_goOff_39 (lv_at hl 1 rfl) ?_
        refine lv_lsub hx hb dX10_goOff_41 ?_
        refine xQv (wr := []) hW hA [0, 1] [] rfl rfl (by decide) (by decide) (by decide) (xrunV (As := [.int xi, .int 2, .long ((f_X10_of xi 2 yf) - (f_X10_goesOff xi yf))]) (rest := []) ⟨hx, hb, hml, hown, hts⟩ (c_X10_lay l D cI cJ cZ cB H.size aM mA xi 2 ((f_X10_of xi 2 yf) - (f_X10_goesOff xi yf)) mB mC mD mE pm sp iw mF rn yf (ix_in (bx_tn (okM_B hoy) hi0 c1) ⟨by decide, by decide⟩) _ rfl) (cwV 3 hts gX10_goOff_X10_lay rfl rfl rfl (by decide +kernel) ⟨Nat.le_of_ble_eq_true rfl, Nat.le_of_ble_eq_true rfl⟩) hK hG hW.2.2 (xsubQ hW hA [0, 1] rfl (by decide)) (va_recv hK hW.1 (ci := 10) (q0 := 0) rfl rfl) rfl hl.1 rfl (Nat.le_of_ble_eq_true rfl) dX10_goOff_42 ⟨Nat.le_of_ble_eq_true rfl, Nat.le_of_ble_eq_true rfl⟩) (fun _ H locs _ hW => ?_)
        have hW : xW D A s.heap ([(aM, .inr (10, [.ref mA, .ref mB, .ref mC, .ref mD, .ref mE, .int pm, .int sp, .int (bi iw), .ref mF, .int rn])), (mA, .inl (cJ, 93, .inr (.inl (f_X10_lay xi 2 ((f_X10_of xi 2 yf) - (f_X10_goesOff xi yf)) yf))))] ++ []) H _ := hW
        refine lv_aload_n hx hb dX10_goOff_45 rfl (lv_at hl 2 rfl) ?_
        refine lv_iload_n hx hb dX10_goOff_46 rfl (lv_at hl 4 rfl) ?_
        refine lv_iconst (v := 3) hx hb dX10_goOff_47 (by decide) ?_
        refine lv_lload hx hb dX10_goOff_48 (lv_at hl 0 rfl) ?_
        refine lv_lconst (v := 0) hx hb dX10_goOff_50 (by decide) ?_
        refine xlc_ge (tgt := 59) hx hb dX10_goOff_51 dX10_goOff_52 (by decide) (fun c2 => ?_) (fun c2 => ?_)
        · skip
          refine lv_lload hx hb dX10_goOff_59 (lv_at hl 0 rfl) ?_
          refine xQv (wr := []) hW hA [0, 1] [] rfl rfl (by decide) (by decide) (by decide) (xrunV (As := [.int xi, .int 3, .long ((f_X10_of xi 3 yf) - (f_X10_goesOff xi yf))]) (rest := []) ⟨hx, hb, hml, hown, hts⟩ (c_X10_lay l D cI cJ cZ cB H.size aM mA xi 3 ((f_X10_of xi 3 yf) - (f_X10_goesOff xi yf)) mB mC mD mE pm sp iw mF rn (f_X10_lay xi 2 ((f_X10_of xi 2 yf) - (f_X10_goesOff xi yf)) yf) (ix_in (bx_tn (okM_B hoy) hi0 c1) ⟨by decide, by decide⟩) _ rfl) (cwV 3 hts gX10_goOff_X10_lay rfl rfl rfl (by decide +kernel) ⟨Nat.le_of_ble_eq_true rfl, Nat.le_of_ble_eq_true rfl⟩) hK hG hW.2.2 (xsubQ hW hA [0, 1] rfl (by decide)) (va_recv hK hW.1 (ci := 10) (q0 := 0) rfl rfl) rfl hl.1 rfl (Nat.le_of_ble_eq_true rfl) dX10_goOff_61 ⟨Nat.le_of_ble_eq_true rfl, Nat.le_of_ble_eq_true rfl⟩) (fun _ H locs _ hW => ?_)
          have hW : xW D A s.heap ([(aM, .inr (10, [.ref mA, .ref mB, .ref mC, .ref mD, .ref mE, .int pm, .int sp, .int (bi iw), .ref mF, .int rn])), (mA, .inl (cJ, 93, .inr (.inl (f_X10_lay xi 3 ((f_X10_of xi 3 yf) - (f_X10_goesOff xi yf)) (f_X10_lay xi 2 ((f_X10_of xi 2 yf) - (f_X10_goesOff xi yf)) yf)))))] ++ []) H _ := hW
          refine lv_lload_n hx hb dX10_goOff_64 rfl (lv_at hl 3 rfl) ?_
          refine lv_lload hx hb dX10_goOff_65 (lv_at hl 1 rfl) ?_
          refine lv_ladd hx hb dX10_goOff_67 ?_
          refine lv_lstore_n (lv' := [(1, .long (ya + (f_X10_goesOff xi yf))), (6, .long ((f_X10_of xi 3 yf) - (f_X10_goesOff xi yf))), (4, .long (f_X10_goesOff xi yf)), (0, .ref aM), (3, .int xi)]) hx hb dX10_goOff_68 rfl hl (by decide) rfl (fun ls hl => ?_)
          refine lv_iinc (v := xi + 1) (lv' := [(3, .int (xi + 1)), (1, .long (ya + (f_X10_goesOff xi yf))), (6, .long ((f_X10_of xi 3 yf) - (f_X10_goesOff xi yf))), (4, .long (f_X10_goesOff xi yf)), (0, .ref aM)]) hx hb dX10_goOff_69 hl (k := 4) rfl rfl (by decide) rfl (fun ls hl => ?_)
          refine lv_goto (tgt := 4) hx hb dX10_goOff_72 (by decide) ?_
          have hF : f_X10_goOff_lp4 (n + 1) ya xi yf = f_X10_goOff_lp4 n (ya + (f_X10_goesOff xi yf)) (xi + 1) (f_X10_lay xi 3 ((f_X10_of xi 3 yf) - (f_X10_goesOff xi yf)) (f_X10_lay xi 2 ((f_X10_of xi 2 yf) - (f_X10_goesOff xi yf)) yf)) := by
            rw [f_X10_goOff_lp4, if_neg c1, if_pos c2]
          refine W.widen (k := 0) (n := 0) (Nat.le_of_ble_eq_true rfl) (Nat.le_of_ble_eq_true rfl) ?_
          exact ih4 (ya + (f_X10_goesOff xi yf)) (xi + 1) (f_X10_lay xi 3 ((f_X10_of xi 3 yf) - (f_X10_goesOff xi yf)) (f_X10_lay xi 2 ((f_X10_of xi 2 yf) - (f_X10_goesOff xi yf)) yf)) (hF.symm.trans hlp4) ((ten_up (bx_tn (okM_B hoy) hi0 c1)).1) (okM_lay (bx_tn (okM_B hoy) hi0 c1) (Or.inr (Or.inr rfl)) (okM_lay (bx_tn (okM_B hoy) hi0 c1) (Or.inr (Or.inl rfl)) hoy)) (ten_mu (bx_tn (okM_B hoy) hi0 c1) hm4) _ _ _ hW (lv_sub hl [4, 1, 0] rfl)
        · skip
          refine lv_lconst (v := 0) hx hb dX10_goOff_55 (by decide) ?_
          refine lv_goto (tgt := 61) hx hb dX10_goOff_56 (by decide) ?_
          refine xQv (wr := []) hW hA [0, 1] [] rfl rfl (by decide) (by decide) (by decide) (xrunV (As := [.int xi, .int 3, .long 0]) (rest := []) ⟨hx, hb, hml, hown, hts⟩ (c_X10_lay l D cI cJ cZ cB H.size aM mA xi 3 0 mB mC mD mE pm sp iw mF rn (f_X10_lay xi 2 ((f_X10_of xi 2 yf) - (f_X10_goesOff xi yf)) yf) (ix_in (bx_tn (okM_B hoy) hi0 c1) ⟨by decide, by decide⟩) _ rfl) (cwV 3 hts gX10_goOff_X10_lay rfl rfl rfl (by decide +kernel) ⟨Nat.le_of_ble_eq_true rfl, Nat.le_of_ble_eq_true rfl⟩) hK hG hW.2.2 (xsubQ hW hA [0, 1] rfl (by decide)) (va_recv hK hW.1 (ci := 10) (q0 := 0) rfl rfl) rfl hl.1 rfl (Nat.le_of_ble_eq_true rfl) dX10_goOff_61 ⟨Nat.le_of_ble_eq_true rfl, Nat.le_of_ble_eq_true rfl⟩) (fun _ H locs _ hW => ?_)
          have hW : xW D A s.heap ([(aM, .inr (10, [.ref mA, .ref mB, .ref mC, .ref mD, .ref mE, .int pm, .int sp, .int (bi iw), .ref mF, .int rn])), (mA, .inl (cJ, 93, .inr (.inl (f_X10_lay xi 3 0 (f_X10_lay xi 2 ((f_X10_of xi 2 yf) - (f_X10_goesOff xi yf)) yf)))))] ++ []) H _ := hW
          refine lv_lload_n hx hb dX10_goOff_64 rfl (lv_at hl 3 rfl) ?_
          refine lv_lload hx hb dX10_goOff_65 (lv_at hl 1 rfl) ?_
          refine lv_ladd hx hb dX10_goOff_67 ?_
          refine lv_lstore_n (lv' := [(1, .long (ya + (f_X10_goesOff xi yf))), (6, .long ((f_X10_of xi 3 yf) - (f_X10_goesOff xi yf))), (4, .long (f_X10_goesOff xi yf)), (0, .ref aM), (3, .int xi)]) hx hb dX10_goOff_68 rfl hl (by decide) rfl (fun ls hl => ?_)
          refine lv_iinc (v := xi + 1) (lv' := [(3, .int (xi + 1)), (1, .long (ya + (f_X10_goesOff xi yf))), (6, .long ((f_X10_of xi 3 yf) - (f_X10_goesOff xi yf))), (4, .long (f_X10_goesOff xi yf)), (0, .ref aM)]) hx hb dX10_goOff_69 hl (k := 4) rfl rfl (by decide) rfl (fun ls hl => ?_)
          refine lv_goto (tgt := 4) hx hb dX10_goOff_72 (by decide) ?_
          have hF : f_X10_goOff_lp4 (n + 1) ya xi yf = f_X10_goOff_lp4 n (ya + (f_X10_goesOff xi yf)) (xi + 1) (f_X10_lay xi 3 0 (f_X10_lay xi 2 ((f_X10_of xi 2 yf) - (f_X10_goesOff xi yf)) yf)) := by
            rw [f_X10_goOff_lp4, if_neg c1, if_neg c2]
          refine W.widen (k := 0) (n := 0) (Nat.le_of_ble_eq_true rfl) (Nat.le_of_ble_eq_true rfl) ?_
          exact ih4 (ya + (f_X10_goesOff xi yf)) (xi + 1) (f_X10_lay xi 3 0 (f_X10_lay xi 2 ((f_X10_of xi 2 yf) - (f_X10_goesOff xi yf)) yf)) (hF.symm.trans hlp4) ((ten_up (bx_tn (okM_B hoy) hi0 c1)).1) (okM_lay (bx_tn (okM_B hoy) hi0 c1) (Or.inr (Or.inr rfl)) (okM_lay (bx_tn (okM_B hoy) hi0 c1) (Or.inr (Or.inl rfl)) hoy)) (ten_mu (bx_tn (okM_B hoy) hi0 c1) hm4) _ _ _ hW (lv_sub hl [4, 1, 0] rfl)
  have hF : f_X10_goOff mf = f_X10_goOff_lp4 ((10 - (0 : Int32).toInt).toNat + 1) 0 0 mf := by
    rw [f_X10_goOff]
  refine W.widen (k := 0) (n := 0) (Nat.le_of_ble_eq_true rfl) (Nat.le_of_ble_eq_true rfl) ?_
  exact hl4_ ((10 - (0 : Int32).toInt).toNat + 1) 0 0 mf (hF.symm.trans ho) (by decide) (hok) (Nat.lt_succ_self _) _ _ _ hW (lv_sub hl [2, 1, 0] rfl)

def f_X10_warm (a0 : Int64) (mf : Nat → Int64) : (Nat → Int64) :=
  if (mf 81) = 1 then
    if (f_X10_isDoorOpen (vp_updL (vp_updL mf 78 ((mf 78) + (((f_X10_outside mf) - (mf 78)) / (mf 73)))) 78 (((mf 78) + (((f_X10_outside mf) - (mf 78)) / (mf 73))) + (((f_X10_outside mf) - ((mf 78) + (((f_X10_outside mf) - (mf 78)) / (mf 73)))) / (mf 73))))) = true then
      if ((((mf 78) + (((f_X10_outside mf) - (mf 78)) / (mf 73))) + (((f_X10_outside mf) - ((mf 78) + (((f_X10_outside mf) - (mf 78)) / (mf 73)))) / (mf 73))) + (((f_X10_outside mf) - (((mf 78) + (((f_X10_outside mf) - (mf 78)) / (mf 73))) + (((f_X10_outside mf) - ((mf 78) + (((f_X10_outside mf) - (mf 78)) / (mf 73)))) / (mf 73)))) / 4)) ≤ (-7900) then
        vp_updL (vp_updL (vp_updL mf 78 ((mf 78) + (((f_X10_outside mf) - (mf 78)) / (mf 73)))) 78 (((mf 78) + (((f_X10_outside mf) - (mf 78)) / (mf 73))) + (((f_X10_outside mf) - ((mf 78) + (((f_X10_outside mf) - (mf 78)) / (mf 73)))) / (mf 73)))) 78 ((((mf 78) + (((f_X10_outside mf) - (mf 78)) / (mf 73))) + (((f_X10_outside mf) - ((mf 78) + (((f_X10_outside mf) - (mf 78)) / (mf 73)))) / (mf 73))) + (((f_X10_outside mf) - (((mf 78) + (((f_X10_outside mf) - (mf 78)) / (mf 73))) + (((f_X10_outside mf) - ((mf 78) + (((f_X10_outside mf) - (mf 78)) / (mf 73)))) / (mf 73)))) / 4))
      else
        if (-7900) ≤ (((((mf 78) + (((f_X10_outside mf) - (mf 78)) / (mf 73))) + (((f_X10_outside mf) - ((mf 78) + (((f_X10_outside mf) - (mf 78)) / (mf 73)))) / (mf 73))) + (((f_X10_outside mf) - (((mf 78) + (((f_X10_outside mf) - (mf 78)) / (mf 73))) + (((f_X10_outside mf) - ((mf 78) + (((f_X10_outside mf) - (mf 78)) / (mf 73)))) / (mf 73)))) / 4)) - (a0 / (mf 74))) then
          vp_updL (vp_updL (vp_updL (vp_updL mf 78 ((mf 78) + (((f_X10_outside mf) - (mf 78)) / (mf 73)))) 78 (((mf 78) + (((f_X10_outside mf) - (mf 78)) / (mf 73))) + (((f_X10_outside mf) - ((mf 78) + (((f_X10_outside mf) - (mf 78)) / (mf 73)))) / (mf 73)))) 78 ((((mf 78) + (((f_X10_outside mf) - (mf 78)) / (mf 73))) + (((f_X10_outside mf) - ((mf 78) + (((f_X10_outside mf) - (mf 78)) / (mf 73)))) / (mf 73))) + (((f_X10_outside mf) - (((mf 78) + (((f_X10_outside mf) - (mf 78)) / (mf 73))) + (((f_X10_outside mf) - ((mf 78) + (((f_X10_outside mf) - (mf 78)) / (mf 73)))) / (mf 73)))) / 4))) 78 (((((mf 78) + (((f_X10_outside mf) - (mf 78)) / (mf 73))) + (((f_X10_outside mf) - ((mf 78) + (((f_X10_outside mf) - (mf 78)) / (mf 73)))) / (mf 73))) + (((f_X10_outside mf) - (((mf 78) + (((f_X10_outside mf) - (mf 78)) / (mf 73))) + (((f_X10_outside mf) - ((mf 78) + (((f_X10_outside mf) - (mf 78)) / (mf 73)))) / (mf 73)))) / 4)) - (a0 / (mf 74)))
        else
          vp_updL (vp_updL (vp_updL (vp_updL mf 78 ((mf 78) + (((f_X10_outside mf) - (mf 78)) / (mf 73)))) 78 (((mf 78) + (((f_X10_outside mf) - (mf 78)) / (mf 73))) + (((f_X10_outside mf) - ((mf 78) + (((f_X10_outside mf) - (mf 78)) / (mf 73)))) / (mf 73)))) 78 ((((mf 78) + (((f_X10_outside mf) - (mf 78)) / (mf 73))) + (((f_X10_outside mf) - ((mf 78) + (((f_X10_outside mf) - (mf 78)) / (mf 73)))) / (mf 73))) + (((f_X10_outside mf) - (((mf 78) + (((f_X10_outside mf) - (mf 78)) / (mf 73))) + (((f_X10_outside mf) - ((mf 78) + (((f_X10_outside mf) - (mf 78)) / (mf 73)))) / (mf 73)))) / 4))) 78 (-7900)
    else
      if (((mf 78) + (((f_X10_outside mf) - (mf 78)) / (mf 73))) + (((f_X10_outside mf) - ((mf 78) + (((f_X10_outside mf) - (mf 78)) / (mf 73)))) / (mf 73))) ≤ (-7900) then
        vp_updL (vp_updL mf 78 ((mf 78) + (((f_X10_outside mf) - (mf 78)) / (mf 73)))) 78 (((mf 78) + (((f_X10_outside mf) - (mf 78)) / (mf 73))) + (((f_X10_outside mf) - ((mf 78) + (((f_X10_outside mf) - (mf 78)) / (mf 73)))) / (mf 73)))
      else
        if (-7900) ≤ ((((mf 78) + (((f_X10_outside mf) - (mf 78)) / (mf 73))) + (((f_X10_outside mf) - ((mf 78) + (((f_X10_outside mf) - (mf 78)) / (mf 73)))) / (mf 73))) - (a0 / (mf 74))) then
          vp_updL (vp_updL (vp_updL mf 78 ((mf 78) + (((f_X10_outside mf) - (mf 78)) / (mf 73)))) 78 (((mf 78) + (((f_X10_outside mf) - (mf 78)) / (mf 73))) + (((f_X10_outside mf) - ((mf 78) + (((f_X10_outside mf) - (mf 78)) / (mf 73)))) / (mf 73)))) 78 ((((mf 78) + (((f_X10_outside mf) - (mf 78)) / (mf 73))) + (((f_X10_outside mf) - ((mf 78) + (((f_X10_outside mf) - (mf 78)) / (mf 73)))) / (mf 73))) - (a0 / (mf 74)))
        else
          vp_updL (vp_updL (vp_updL mf 78 ((mf 78) + (((f_X10_outside mf) - (mf 78)) / (mf 73)))) 78 (((mf 78) + (((f_X10_outside mf) - (mf 78)) / (mf 73))) + (((f_X10_outside mf) - ((mf 78) + (((f_X10_outside mf) - (mf 78)) / (mf 73)))) / (mf 73)))) 78 (-7900)
  else
    if (f_X10_isDoorOpen (vp_updL mf 78 ((mf 78) + (((f_X10_outside mf) - (mf 78)) / (mf 73))))) = true then
      if (((mf 78) + (((f_X10_outside mf) - (mf 78)) / (mf 73))) + (((f_X10_outside mf) - ((mf 78) + (((f_X10_outside mf) - (mf 78)) / (mf 73)))) / 4)) ≤ (-7900) then
        vp_updL (vp_updL mf 78 ((mf 78) + (((f_X10_outside mf) - (mf 78)) / (mf 73)))) 78 (((mf 78) + (((f_X10_outside mf) - (mf 78)) / (mf 73))) + (((f_X10_outside mf) - ((mf 78) + (((f_X10_outside mf) - (mf 78)) / (mf 73)))) / 4))
      else
        if (-7900) ≤ ((((mf 78) + (((f_X10_outside mf) - (mf 78)) / (mf 73))) + (((f_X10_outside mf) - ((mf 78) + (((f_X10_outside mf) - (mf 78)) / (mf 73)))) / 4)) - (a0 / (mf 74))) then
          vp_updL (vp_updL (vp_updL mf 78 ((mf 78) + (((f_X10_outside mf) - (mf 78)) / (mf 73)))) 78 (((mf 78) + (((f_X10_outside mf) - (mf 78)) / (mf 73))) + (((f_X10_outside mf) - ((mf 78) + (((f_X10_outside mf) - (mf 78)) / (mf 73)))) / 4))) 78 ((((mf 78) + (((f_X10_outside mf) - (mf 78)) / (mf 73))) + (((f_X10_outside mf) - ((mf 78) + (((f_X10_outside mf) - (mf 78)) / (mf 73)))) / 4)) - (a0 / (mf 74)))
        else
          vp_updL (vp_updL (vp_updL mf 78 ((mf 78) + (((f_X10_outside mf) - (mf 78)) / (mf 73)))) 78 (((mf 78) + (((f_X10_outside mf) - (mf 78)) / (mf 73))) + (((f_X10_outside mf) - ((mf 78) + (((f_X10_outside mf) - (mf 78)) / (mf 73)))) / 4))) 78 (-7900)
    else
      if ((mf 78) + (((f_X10_outside mf) - (mf 78)) / (mf 73))) ≤ (-7900) then
        vp_updL mf 78 ((mf 78) + (((f_X10_outside mf) - (mf 78)) / (mf 73)))
      else
        if (-7900) ≤ (((mf 78) + (((f_X10_outside mf) - (mf 78)) / (mf 73))) - (a0 / (mf 74))) then
          vp_updL (vp_updL mf 78 ((mf 78) + (((f_X10_outside mf) - (mf 78)) / (mf 73)))) 78 (((mf 78) + (((f_X10_outside mf) - (mf 78)) / (mf 73))) - (a0 / (mf 74)))
        else
          vp_updL (vp_updL mf 78 ((mf 78) + (((f_X10_outside mf) - (mf 78)) / (mf 73)))) 78 (-7900)
set_option maxHeartbeats 4000000 in
set_option maxRecDepth 100000 in
theorem c_X10_warm (l : Launch) (D : va_G) (cI cJ cZ cB : ClassId) (sz : Nat) (aM : Nat) (mA : Nat) (a0 : Int64) (mB : Nat) (mC : Nat) (mD : Nat) (mE : Nat) (pm : Int32) (sp : Int32) (iw : Bool) (mF : Nat) (rn : Int32) (mf : Nat → Int64) (hok : okM mf) (o : (Nat → Int64)) (ho : f_X10_warm a0 mf = o) : Met l yX10_warm wsX10_warm ({ frames := 1, cells := 0, slots := 0, locals := 20 } : Room) (xPre D (xT cI cJ cZ cB) [.ref aM, .long a0] [(aM, .inr (10, [.ref mA, .ref mB, .ref mC, .ref mD, .ref mE, .int pm, .int sp, .int (bi iw), .ref mF, .int rn])), (mA, .inl (cJ, 93, .inr (.inl mf)))] sz) (va_Qv (fun _ : Unit => True) (fun _ t => xB D ([(aM, .inr (10, [.ref mA, .ref mB, .ref mC, .ref mD, .ref mE, .int pm, .int sp, .int (bi iw), .ref mF, .int rn])), (mA, .inl (cJ, 93, .inr (.inl o)))]) (va_A [(aM, .inr (10, [.ref mA, .ref mB, .ref mC, .ref mD, .ref mE, .int pm, .int sp, .int (bi iw), .ref mF, .int rn])), (mA, .inl (cJ, 93, .inr (.inl mf)))] sz) t) (va_A [(aM, .inr (10, [.ref mA, .ref mB, .ref mC, .ref mD, .ref mE, .int pm, .int sp, .int (bi iw), .ref mF, .int rn])), (mA, .inl (cJ, 93, .inr (.inl mf)))] sz)) 0 0 (va_A [(aM, .inr (10, [.ref mA, .ref mB, .ref mC, .ref mD, .ref mE, .int pm, .int sp, .int (bi iw), .ref mF, .int rn])), (mA, .inl (cJ, 93, .inr (.inl mf)))] sz) := by
  refine xofW (Qc := fun A0 => va_Qv (fun _ : Unit => True) (fun _ t => xB D ([(aM, .inr (10, [.ref mA, .ref mB, .ref mC, .ref mD, .ref mE, .int pm, .int sp, .int (bi iw), .ref mF, .int rn])), (mA, .inl (cJ, 93, .inr (.inl o)))]) A0 t) A0) (fr := fun A => A) (cc := cX10_warm) (maxL := 7) (ret := none) (by decide) rfl (Nat.le_of_ble_eq_true rfl) ?_
  intro p e s m below meth c A ⟨hx, hb, hml, hown, hts⟩ hrt hlocks hnm hsz hK hW hA hG ls hl
  have hown : s.vm.findClass RX10 = some m.cls := hown
  have hl : lv_has ls 7 [(0, .ref aM), (1, .long a0)] := hl
  obtain ⟨H, hH⟩ : ∃ H, H = s.heap := ⟨_, rfl⟩
  have hW : xW D A s.heap ([(aM, .inr (10, [.ref mA, .ref mB, .ref mC, .ref mD, .ref mE, .int pm, .int sp, .int (bi iw), .ref mF, .int rn])), (mA, .inl (cJ, 93, .inr (.inl mf)))] ++ []) H [] := by rw [hH]; exact hW
  have w1 := hts (.fieldLink RX10 7 "DryIceLaneModel" "at" "[J") (by decide +kernel)
  have hin10 : ∀ w ∈ u_ws RX10 TX10 10, w ∈ wsX10_warm := by decide +kernel
  have w3 := hts (.constantLong RX10 127 (-7900)) (by decide +kernel)
  have w4 := hts (.constantLong RX10 125 (4)) (by decide +kernel)
  rw [← hH]
  refine lv_aload_n hx hb dX10_warm_0 rfl (lv_at hl 0 rfl) ?_
  refine vp_callSl (va_Run.run (xrunV (As := []) (rest := []) ⟨hx, hb, hml, hown, hts⟩ (c_X10_outside l D cI cJ cZ cB H.size aM mA mB mC mD mE pm sp iw mF rn mf (by assumption) _ rfl) (cwV 0 hts gX10_warm_X10_outside rfl rfl rfl (by decide +kernel) ⟨Nat.le_of_ble_eq_true rfl, Nat.le_of_ble_eq_true rfl⟩) hK hG hW.2.2 (xsubQ hW hA [0, 1] rfl (by decide)) (va_recv hK hW.1 (ci := 10) (q0 := 0) rfl rfl) rfl hl.1 rfl (Nat.le_of_ble_eq_true rfl) dX10_warm_1 ⟨Nat.le_of_ble_eq_true rfl, Nat.le_of_ble_eq_true rfl⟩)) (fun r1 hq => ?_)
  subst hq
  refine lv_lstore_n (lv' := [(3, .long (f_X10_outside mf)), (0, .ref aM), (1, .long a0)]) hx hb dX10_warm_4 rfl hl (by decide) rfl (fun ls hl => ?_)
  refine lv_aload_n hx hb dX10_warm_5 rfl (lv_at hl 1 rfl) ?_
  refine xget (ci := 10) (C := RX10) (T := TX10) (N := 10) hx hb hts hin10 hown hK hW.1 0 rfl rfl 0 (by decide) w1 rfl dX10_warm_6 ?_
  refine lv_bipush (v := 78) hx hb dX10_warm_9 (by decide) ?_
  refine lv_dup2_11 hx hb dX10_warm_11 rfl rfl ?_
  refine xlald hx hb hK hW.1 1 1 rfl rfl (vp_in_iff.mpr ⟨by decide, by decide⟩) 78 rfl (v := mf 78) rfl dX10_warm_12 ?_
  refine lv_lload_n hx hb dX10_warm_13 rfl (lv_at hl 0 rfl) ?_
  refine lv_aload_n hx hb dX10_warm_14 rfl (lv_at hl 1 rfl) ?_
  refine xget (ci := 10) (C := RX10) (T := TX10) (N := 10) hx hb hts hin10 hown hK hW.1 0 rfl rfl 0 (by decide) w1 rfl dX10_warm_15 ?_
  refine lv_bipush (v := 78) hx hb dX10_warm_18 (by decide) ?_
  refine xlald hx hb hK hW.1 1 1 rfl rfl (vp_in_iff.mpr ⟨by decide, by decide⟩) 78 rfl (v := mf 78) rfl dX10_warm_20 ?_
  refine lv_lsub hx hb dX10_warm_21 ?_
  refine lv_aload_n hx hb dX10_warm_22 rfl (lv_at hl 1 rfl) ?_
  refine xget (ci := 10) (C := RX10) (T := TX10) (N := 10) hx hb hts hin10 hown hK hW.1 0 rfl rfl 0 (by decide) w1 rfl dX10_warm_23 ?_
  refine lv_bipush (v := 73) hx hb dX10_warm_26 (by decide) ?_
  refine xlald hx hb hK hW.1 1 1 rfl rfl (vp_in_iff.mpr ⟨by decide, by decide⟩) 73 rfl (v := mf 73) rfl dX10_warm_28 ?_
  refine lv_ldiv hx hb dX10_warm_29 (by first | exact d1v hok.2.2.2.2.1 | exact d1v hok.2.2.2.2.2.1) ?_
  refine lv_ladd hx hb dX10_warm_30 ?_
  refine xlast hx hb hK hW 1 1 rfl (Nat.le_of_ble_eq_true rfl) rfl (vp_in_iff.mpr ⟨by decide, by decide⟩) 78 rfl dX10_warm_31 (fun H locs hW => ?_)
  have hW : xW D A s.heap ([(aM, .inr (10, [.ref mA, .ref mB, .ref mC, .ref mD, .ref mE, .int pm, .int sp, .int (bi iw), .ref mF, .int rn])), (mA, .inl (cJ, 93, .inr (.inl (vp_updL mf 78 ((mf 78) + (((f_X10_outside mf) - (mf 78)) / (mf 73)))))))] ++ []) H _ := hW
  refine lv_aload_n hx hb dX10_warm_32 rfl (lv_at hl 1 rfl) ?_
  refine xget (ci := 10) (C := RX10) (T := TX10) (N := 10) hx hb hts hin10 hown hK hW.1 0 rfl rfl 0 (by decide) w1 rfl dX10_warm_33 ?_
  refine lv_bipush (v := 81) hx hb dX10_warm_36 (by decide) ?_
  refine xlald hx hb hK hW.1 1 1 rfl rfl (vp_in_iff.mpr ⟨by decide, by decide⟩) 81 rfl (v := mf 81) rfl dX10_warm_38 ?_
  refine lv_lconst (v := 1) hx hb dX10_warm_39 (by decide) ?_
  refine xlc_ne (tgt := 71) hx hb dX10_warm_40 dX10_warm_41 (by decide) (fun c1 => ?_) (fun c1 => ?_)
  · skip
    refine lv_aload_n hx hb dX10_warm_71 rfl (lv_at hl 1 rfl) ?_
    refine vp_callSi (va_Run.run (xrunV (As := []) (rest := []) ⟨hx, hb, hml, hown, hts⟩ (c_X10_isDoorOpen l D cI cJ cZ cB H.size aM mA mB mC mD mE pm sp iw mF rn (vp_updL mf 78 ((mf 78) + (((f_X10_outside mf) - (mf 78)) / (mf 73)))) _ rfl) (cwV 0 hts gX10_warm_X10_isDoorOpen rfl rfl rfl (by decide +kernel) ⟨Nat.le_of_ble_eq_true rfl, Nat.le_of_ble_eq_true rfl⟩) hK hG hW.2.2 (xsubQ hW hA [0, 1] rfl (by decide)) (va_recv hK hW.1 (ci := 10) (q0 := 0) rfl rfl) rfl hl.1 rfl (Nat.le_of_ble_eq_true rfl) dX10_warm_72 ⟨Nat.le_of_ble_eq_true rfl, Nat.le_of_ble_eq_true rfl⟩)) (fun r2 hq => ?_)
    subst hq
    refine xb_eq (tgt := 101) hx hb dX10_warm_75 (by decide) (fun c2 => ?_) (fun c2 => ?_)
    · skip
      refine lv_aload_n hx hb dX10_warm_101 rfl (lv_at hl 1 rfl) ?_
      refine xget (ci := 10) (C := RX10) (T := TX10) (N := 10) hx hb hts hin10 hown hK hW.1 0 rfl rfl 0 (by decide) w1 rfl dX10_warm_102 ?_
      refine lv_bipush (v := 78) hx hb dX10_warm_105 (by decide) ?_
      refine xlald hx hb hK hW.1 1 1 rfl rfl (vp_in_iff.mpr ⟨by decide, by decide⟩) 78 rfl (v := (mf 78) + (((f_X10_outside mf) - (mf 78)) / (mf 73))) rfl dX10_warm_107 ?_
      refine lv_ldc2 hx hb hown w3 dX10_warm_108 ?_
      refine xlc_le (tgt := 158) hx hb dX10_warm_111 dX10_warm_112 (by decide) (fun c3 => ?_) (fun c3 => ?_)
      · skip
        have hF : f_X10_warm a0 mf = vp_updL mf 78 ((mf 78) + (((f_X10_outside mf) - (mf 78)) / (mf 73))) := by
          rw [f_X10_warm, if_neg c1, if_neg c2, if_pos c3]
        obtain rfl : vp_updL mf 78 ((mf 78) + (((f_X10_outside mf) - (mf 78)) / (mf 73))) = o := hF.symm.trans ho
        exact W.vret hx hb hrt (fun t ht hM => ⟨⟨(), rfl, trivial, ⟨by rw [ht]; exact hW.1, hW.2.1⟩⟩, hW.2.2.F ht⟩) hW.2.2.2.2 dX10_warm_158 hlocks
      · skip
        refine lv_aload_n hx hb dX10_warm_115 rfl (lv_at hl 1 rfl) ?_
        refine xget (ci := 10) (C := RX10) (T := TX10) (N := 10) hx hb hts hin10 hown hK hW.1 0 rfl rfl 0 (by decide) w1 rfl dX10_warm_116 ?_
        refine lv_bipush (v := 78) hx hb dX10_warm_119 (by decide) ?_
        refine xlald hx hb hK hW.1 1 1 rfl rfl (vp_in_iff.mpr ⟨by decide, by decide⟩) 78 rfl (v := (mf 78) + (((f_X10_outside mf) - (mf 78)) / (mf 73))) rfl dX10_warm_121 ?_
        refine lv_lload_n hx hb dX10_warm_122 rfl (lv_at hl 2 rfl) ?_
        refine lv_aload_n hx hb dX10_warm_123 rfl (lv_at hl 1 rfl) ?_
        refine xget (ci := 10) (C := RX10) (T := TX10) (N := 10) hx hb hts hin10 hown hK hW.1 0 rfl rfl 0 (by decide) w1 rfl dX10_warm_124 ?_
        refine lv_bipush (v := 74) hx hb dX10_warm_127 (by decide) ?_
        refine xlald hx hb hK hW.1 1 1 rfl rfl (vp_in_iff.mpr ⟨by decide, by decide⟩) 74 rfl (v := mf 74) rfl dX10_warm_129 ?_
        refine lv_ldiv hx hb dX10_warm_130 (by first | exact d1v hok.2.2.2.2.1 | exact d1v hok.2.2.2.2.2.1) ?_
        refine lv_lsub hx hb dX10_warm_131 ?_
        refine lv_lstore (lv' := [(5, .long (((mf 78) + (((f_X10_outside mf) - (mf 78)) / (mf 73))) - (a0 / (mf 74)))), (3, .long (f_X10_outside mf)), (0, .ref aM), (1, .long a0)]) hx hb dX10_warm_132 hl (by decide) rfl (fun ls hl => ?_)
        refine lv_aload_n hx hb dX10_warm_134 rfl (lv_at hl 2 rfl) ?_
        refine xget (ci := 10) (C := RX10) (T := TX10) (N := 10) hx hb hts hin10 hown hK hW.1 0 rfl rfl 0 (by decide) w1 rfl dX10_warm_135 ?_
        refine lv_bipush (v := 78) hx hb dX10_warm_138 (by decide) ?_
        refine lv_lload hx hb dX10_warm_140 (lv_at hl 0 rfl) ?_
        refine lv_ldc2 hx hb hown w3 dX10_warm_142 ?_
        refine xlc_ge (tgt := 155) hx hb dX10_warm_145 dX10_warm_146 (by decide) (fun c4 => ?_) (fun c4 => ?_)
        · skip
          refine lv_lload hx hb dX10_warm_155 (lv_at hl 0 rfl) ?_
          refine xlast hx hb hK hW 1 1 rfl (Nat.le_of_ble_eq_true rfl) rfl (vp_in_iff.mpr ⟨by decide, by decide⟩) 78 rfl dX10_warm_157 (fun H locs hW => ?_)
          have hW : xW D A s.heap ([(aM, .inr (10, [.ref mA, .ref mB, .ref mC, .ref mD, .ref mE, .int pm, .int sp, .int (bi iw), .ref mF, .int rn])), (mA, .inl (cJ, 93, .inr (.inl (vp_updL (vp_updL mf 78 ((mf 78) + (((f_X10_outside mf) - (mf 78)) / (mf 73)))) 78 (((mf 78) + (((f_X10_outside mf) - (mf 78)) / (mf 73))) - (a0 / (mf 74)))))))] ++ []) H _ := hW
          have hF : f_X10_warm a0 mf = vp_updL (vp_updL mf 78 ((mf 78) + (((f_X10_outside mf) - (mf 78)) / (mf 73)))) 78 (((mf 78) + (((f_X10_outside mf) - (mf 78)) / (mf 73))) - (a0 / (mf 74))) := by
            rw [f_X10_warm, if_neg c1, if_neg c2, if_neg c3, if_pos c4]
          obtain rfl : vp_updL (vp_updL mf 78 ((mf 78) + (((f_X10_outside mf) - (mf 78)) / (mf 73)))) 78 (((mf 78) + (((f_X10_outside mf) - (mf 78)) / (mf 73))) - (a0 / (mf 74))) = o := hF.symm.trans ho
          exact W.vret hx hb hrt (fun t ht hM => ⟨⟨(), rfl, trivial, ⟨by rw [ht]; exact hW.1, hW.2.1⟩⟩, hW.2.2.F ht⟩) hW.2.2.2.2 dX10_warm_158 hlocks
        · skip
          refine lv_ldc2 hx hb hown w3 dX10_warm_149 ?_
          refine lv_goto (tgt := 157) hx hb dX10_warm_152 (by decide) ?_
          refine xlast hx hb hK hW 1 1 rfl (Nat.le_of_ble_eq_true rfl) rfl (vp_in_iff.mpr ⟨by decide, by decide⟩) 78 rfl dX10_warm_157 (fun H locs hW => ?_)
          have hW : xW D A s.heap ([(aM, .inr (10, [.ref mA, .ref mB, .ref mC, .ref mD, .ref mE, .int pm, .int sp, .int (bi iw), .ref mF, .int rn])), (mA, .inl (cJ, 93, .inr (.inl (vp_updL (vp_updL mf 78 ((mf 78) + (((f_X10_outside mf) - (mf 78)) / (mf 73)))) 78 (-7900)))))] ++ []) H _ := hW
          have hF : f_X10_warm a0 mf = vp_updL (vp_updL mf 78 ((mf 78) + (((f_X10_outside mf) - (mf 78)) / (mf 73)))) 78 (-7900) := by
            rw [f_X10_warm, if_neg c1, if_neg c2, if_neg c3, if_neg c4]
          obtain rfl : vp_updL (vp_updL mf 78 ((mf 78) + (((f_X10_outside mf) - (mf 78)) / (mf 73)))) 78 (-7900) = o := hF.symm.trans ho
          exact W.vret hx hb hrt (fun t ht hM => ⟨⟨(), rfl, trivial, ⟨by rw [ht]; exact hW.1, hW.2.1⟩⟩, hW.2.2.F ht⟩) hW.2.2.2.2 dX10_warm_158 hlocks
    · skip
      refine lv_aload_n hx hb dX10_warm_78 rfl (lv_at hl 1 rfl) ?_
      refine xget (ci := 10) (C := RX10) (T := TX10) (N := 10) hx hb hts hin10 hown hK hW.1 0 rfl rfl 0 (by decide) w1 rfl dX10_warm_79 ?_
      refine lv_bipush (v := 78) hx hb dX10_warm_82 (by decide) ?_
      refine lv_dup2_11 hx hb dX10_warm_84 rfl rfl ?_
      refine xlald hx hb hK hW.1 1 1 rfl rfl (vp_in_iff.mpr ⟨by decide, by decide⟩) 78 rfl (v := (mf 78) + (((f_X10_outside mf) - (mf 78)) / (mf 73))) rfl dX10_warm_85 ?_
      refine lv_lload_n hx hb dX10_warm_86 rfl (lv_at hl 0 rfl) ?_
      refine lv_aload_n hx hb dX10_warm_87 rfl (lv_at hl 1 rfl) ?_
      refine xget (ci := 10) (C := RX10) (T := TX10) (N := 10) hx hb hts hin10 hown hK hW.1 0 rfl rfl 0 (by decide) w1 rfl dX10_warm_88 ?_
      refine lv_bipush (v := 78) hx hb dX10_warm_91 (by decide) ?_
      refine xlald hx hb hK hW.1 1 1 rfl rfl (vp_in_iff.mpr ⟨by decide, by decide⟩) 78 rfl (v := (mf 78) + (((f_X10_outside mf) - (mf 78)) / (mf 73))) rfl dX10_warm_93 ?_
      refine lv_lsub hx hb dX10_warm_94 ?_
      refine lv_ldc2 hx hb hown w4 dX10_warm_95 ?_
      refine lv_ldiv hx hb dX10_warm_98 ((by decide)) ?_
      refine lv_ladd hx hb dX10_warm_99 ?_
      refine xlast hx hb hK hW 1 1 rfl (Nat.le_of_ble_eq_true rfl) rfl (vp_in_iff.mpr ⟨by decide, by decide⟩) 78 rfl dX10_warm_100 (fun H locs hW => ?_)
      have hW : xW D A s.heap ([(aM, .inr (10, [.ref mA, .ref mB, .ref mC, .ref mD, .ref mE, .int pm, .int sp, .int (bi iw), .ref mF, .int rn])), (mA, .inl (cJ, 93, .inr (.inl (vp_updL (vp_updL mf 78 ((mf 78) + (((f_X10_outside mf) - (mf 78)) / (mf 73)))) 78 (((mf 78) + (((f_X10_outside mf) - (mf 78)) / (mf 73))) + (((f_X10_outside mf) - ((mf 78) + (((f_X10_outside mf) - (mf 78)) / (mf 73)))) / 4))))))] ++ []) H _ := hW
      refine lv_aload_n hx hb dX10_warm_101 rfl (lv_at hl 1 rfl) ?_
      refine xget (ci := 10) (C := RX10) (T := TX10) (N := 10) hx hb hts hin10 hown hK hW.1 0 rfl rfl 0 (by decide) w1 rfl dX10_warm_102 ?_
      refine lv_bipush (v := 78) hx hb dX10_warm_105 (by decide) ?_
      refine xlald hx hb hK hW.1 1 1 rfl rfl (vp_in_iff.mpr ⟨by decide, by decide⟩) 78 rfl (v := ((mf 78) + (((f_X10_outside mf) - (mf 78)) / (mf 73))) + (((f_X10_outside mf) - ((mf 78) + (((f_X10_outside mf) - (mf 78)) / (mf 73)))) / 4)) rfl dX10_warm_107 ?_
      refine lv_ldc2 hx hb hown w3 dX10_warm_108 ?_
      refine xlc_le (tgt := 158) hx hb dX10_warm_111 dX10_warm_112 (by decide) (fun c3 => ?_) (fun c3 => ?_)
      · skip
        have hF : f_X10_warm a0 mf = vp_updL (vp_updL mf 78 ((mf 78) + (((f_X10_outside mf) - (mf 78)) / (mf 73)))) 78 (((mf 78) + (((f_X10_outside mf) - (mf 78)) / (mf 73))) + (((f_X10_outside mf) - ((mf 78) + (((f_X10_outside mf) - (mf 78)) / (mf 73)))) / 4)) := by
          rw [f_X10_warm, if_neg c1, if_pos c2, if_pos c3]
        obtain rfl : vp_updL (vp_updL mf 78 ((mf 78) + (((f_X10_outside mf) - (mf 78)) / (mf 73)))) 78 (((mf 78) + (((f_X10_outside mf) - (mf 78)) / (mf 73))) + (((f_X10_outside mf) - ((mf 78) + (((f_X10_outside mf) - (mf 78)) / (mf 73)))) / 4)) = o := hF.symm.trans ho
        exact W.vret hx hb hrt (fun t ht hM => ⟨⟨(), rfl, trivial, ⟨by rw [ht]; exact hW.1, hW.2.1⟩⟩, hW.2.2.F ht⟩) hW.2.2.2.2 dX10_warm_158 hlocks
      · skip
        refine lv_aload_n hx hb dX10_warm_115 rfl (lv_at hl 1 rfl) ?_
        refine xget (ci := 10) (C := RX10) (T := TX10) (N := 10) hx hb hts hin10 hown hK hW.1 0 rfl rfl 0 (by decide) w1 rfl dX10_warm_116 ?_
        refine lv_bipush (v := 78) hx hb dX10_warm_119 (by decide) ?_
        refine xlald hx hb hK hW.1 1 1 rfl rfl (vp_in_iff.mpr ⟨by decide, by decide⟩) 78 rfl (v := ((mf 78) + (((f_X10_outside mf) - (mf 78)) / (mf 73))) + (((f_X10_outside mf) - ((mf 78) + (((f_X10_outside mf) - (mf 78)) / (mf 73)))) / 4)) rfl dX10_warm_121 ?_
        refine lv_lload_n hx hb dX10_warm_122 rfl (lv_at hl 2 rfl) ?_
        refine lv_aload_n hx hb dX10_warm_123 rfl (lv_at hl 1 rfl) ?_
        refine xget (ci := 10) (C := RX10) (T := TX10) (N := 10) hx hb hts hin10 hown hK hW.1 0 rfl rfl 0 (by decide) w1 rfl dX10_warm_124 ?_
        refine lv_bipush (v := 74) hx hb dX10_warm_127 (by decide) ?_
        refine xlald hx hb hK hW.1 1 1 rfl rfl (vp_in_iff.mpr ⟨by decide, by decide⟩) 74 rfl (v := mf 74) rfl dX10_warm_129 ?_
        refine lv_ldiv hx hb dX10_warm_130 (by first | exact d1v hok.2.2.2.2.1 | exact d1v hok.2.2.2.2.2.1) ?_
        refine lv_lsub hx hb dX10_warm_131 ?_
        refine lv_lstore (lv' := [(5, .long ((((mf 78) + (((f_X10_outside mf) - (mf 78)) / (mf 73))) + (((f_X10_outside mf) - ((mf 78) + (((f_X10_outside mf) - (mf 78)) / (mf 73)))) / 4)) - (a0 / (mf 74)))), (3, .long (f_X10_outside mf)), (0, .ref aM), (1, .long a0)]) hx hb dX10_warm_132 hl (by decide) rfl (fun ls hl => ?_)
        refine lv_aload_n hx hb dX10_warm_134 rfl (lv_at hl 2 rfl) ?_
        refine xget (ci := 10) (C := RX10) (T := TX10) (N := 10) hx hb hts hin10 hown hK hW.1 0 rfl rfl 0 (by decide) w1 rfl dX10_warm_135 ?_
        refine lv_bipush (v := 78) hx hb dX10_warm_138 (by decide) ?_
        refine lv_lload hx hb dX10_warm_140 (lv_at hl 0 rfl) ?_
        refine lv_ldc2 hx hb hown w3 dX10_warm_142 ?_
        refine xlc_ge (tgt := 155) hx hb dX10_warm_145 dX10_warm_146 (by decide) (fun c4 => ?_) (fun c4 => ?_)
        · skip
          refine lv_lload hx hb dX10_warm_155 (lv_at hl 0 rfl) ?_
          refine xlast hx hb hK hW 1 1 rfl (Nat.le_of_ble_eq_true rfl) rfl (vp_in_iff.mpr ⟨by decide, by decide⟩) 78 rfl dX10_warm_157 (fun H locs hW => ?_)
          have hW : xW D A s.heap ([(aM, .inr (10, [.ref mA, .ref mB, .ref mC, .ref mD, .ref mE, .int pm, .int sp, .int (bi iw), .ref mF, .int rn])), (mA, .inl (cJ, 93, .inr (.inl (vp_updL (vp_updL (vp_updL mf 78 ((mf 78) + (((f_X10_outside mf) - (mf 78)) / (mf 73)))) 78 (((mf 78) + (((f_X10_outside mf) - (mf 78)) / (mf 73))) + (((f_X10_outside mf) - ((mf 78) + (((f_X10_outside mf) - (mf 78)) / (mf 73)))) / 4))) 78 ((((mf 78) + (((f_X10_outside mf) - (mf 78)) / (mf 73))) + (((f_X10_outside mf) - ((mf 78) + (((f_X10_outside mf) - (mf 78)) / (mf 73)))) / 4)) - (a0 / (mf 74)))))))] ++ []) H _ := hW
          have hF : f_X10_warm a0 mf = vp_updL (vp_updL (vp_updL mf 78 ((mf 78) + (((f_X10_outside mf) - (mf 78)) / (mf 73)))) 78 (((mf 78) + (((f_X10_outside mf) - (mf 78)) / (mf 73))) + (((f_X10_outside mf) - ((mf 78) + (((f_X10_outside mf) - (mf 78)) / (mf 73)))) / 4))) 78 ((((mf 78) + (((f_X10_outside mf) - (mf 78)) / (mf 73))) + (((f_X10_outside mf) - ((mf 78) + (((f_X10_outside mf) - (mf 78)) / (mf 73)))) / 4)) - (a0 / (mf 74))) := by
            rw [f_X10_warm, if_neg c1, if_pos c2, if_neg c3, if_pos c4]
          obtain rfl : vp_updL (vp_updL (vp_updL mf 78 ((mf 78) + (((f_X10_outside mf) - (mf 78)) / (mf 73)))) 78 (((mf 78) + (((f_X10_outside mf) - (mf 78)) / (mf 73))) + (((f_X10_outside mf) - ((mf 78) + (((f_X10_outside mf) - (mf 78)) / (mf 73)))) / 4))) 78 ((((mf 78) + (((f_X10_outside mf) - (mf 78)) / (mf 73))) + (((f_X10_outside mf) - ((mf 78) + (((f_X10_outside mf) - (mf 78)) / (mf 73)))) / 4)) - (a0 / (mf 74))) = o := hF.symm.trans ho
          exact W.vret hx hb hrt (fun t ht hM => ⟨⟨(), rfl, trivial, ⟨by rw [ht]; exact hW.1, hW.2.1⟩⟩, hW.2.2.F ht⟩) hW.2.2.2.2 dX10_warm_158 hlocks
        · skip
          refine lv_ldc2 hx hb hown w3 dX10_warm_149 ?_
          refine lv_goto (tgt := 157) hx hb dX10_warm_152 (by decide) ?_
          refine xlast hx hb hK hW 1 1 rfl (Nat.le_of_ble_eq_true rfl) rfl (vp_in_iff.mpr ⟨by decide, by decide⟩) 78 rfl dX10_warm_157 (fun H locs hW => ?_)
          have hW : xW D A s.heap ([(aM, .inr (10, [.ref mA, .ref mB, .ref mC, .ref mD, .ref mE, .int pm, .int sp, .int (bi iw), .ref mF, .int rn])), (mA, .inl (cJ, 93, .inr (.inl (vp_updL (vp_updL (vp_updL mf 78 ((mf 78) + (((f_X10_outside mf) - (mf 78)) / (mf 73)))) 78 (((mf 78) + (((f_X10_outside mf) - (mf 78)) / (mf 73))) + (((f_X10_outside mf) - ((mf 78) + (((f_X10_outside mf) - (mf 78)) / (mf 73)))) / 4))) 78 (-7900)))))] ++ []) H _ := hW
          have hF : f_X10_warm a0 mf = vp_updL (vp_updL (vp_updL mf 78 ((mf 78) + (((f_X10_outside mf) - (mf 78)) / (mf 73)))) 78 (((mf 78) + (((f_X10_outside mf) - (mf 78)) / (mf 73))) + (((f_X10_outside mf) - ((mf 78) + (((f_X10_outside mf) - (mf 78)) / (mf 73)))) / 4))) 78 (-7900) := by
            rw [f_X10_warm, if_neg c1, if_pos c2, if_neg c3, if_neg c4]
          obtain rfl : vp_updL (vp_updL (vp_updL mf 78 ((mf 78) + (((f_X10_outside mf) - (mf 78)) / (mf 73)))) 78 (((mf 78) + (((f_X10_outside mf) - (mf 78)) / (mf 73))) + (((f_X10_outside mf) - ((mf 78) + (((f_X10_outside mf) - (mf 78)) / (mf 73)))) / 4))) 78 (-7900) = o := hF.symm.trans ho
          exact W.vret hx hb hrt (fun t ht hM => ⟨⟨(), rfl, trivial, ⟨by rw [ht]; exact hW.1, hW.2.1⟩⟩, hW.2.2.F ht⟩) hW.2.2.2.2 dX10_warm_158 hlocks
  · skip
    refine lv_aload_n hx hb dX10_warm_44 rfl (lv_at hl 1 rfl) ?_
    refine xget (ci := 10) (C := RX10) (T := TX10) (N := 10) hx hb hts hin10 hown hK hW.1 0 rfl rfl 0 (by decide) w1 rfl dX10_warm_45 ?_
    refine lv_bipush (v := 78) hx hb dX10_warm_48 (by decide) ?_
    refine lv_dup2_11 hx hb dX10_warm_50 rfl rfl ?_
    refine xlald hx hb hK hW.1 1 1 rfl rfl (vp_in_iff.mpr ⟨by decide, by decide⟩) 78 rfl (v := (mf 78) + (((f_X10_outside mf) - (mf 78)) / (mf 73))) rfl dX10_warm_51 ?_
    refine lv_lload_n hx hb dX10_warm_52 rfl (lv_at hl 0 rfl) ?_
    refine lv_aload_n hx hb dX10_warm_53 rfl (lv_at hl 1 rfl) ?_
    refine xget (ci := 10) (C := RX10) (T := TX10) (N := 10) hx hb hts hin10 hown hK hW.1 0 rfl rfl 0 (by decide) w1 rfl dX10_warm_54 ?_
    refine lv_bipush (v := 78) hx hb dX10_warm_57 (by decide) ?_
    refine xlald hx hb hK hW.1 1 1 rfl rfl (vp_in_iff.mpr ⟨by decide, by decide⟩) 78 rfl (v := (mf 78) + (((f_X10_outside mf) - (mf 78)) / (mf 73))) rfl dX10_warm_59 ?_
    refine lv_lsub hx hb dX10_warm_60 ?_
    refine lv_aload_n hx hb dX10_warm_61 rfl (lv_at hl 1 rfl) ?_
    refine xget (ci := 10) (C := RX10) (T := TX10) (N := 10) hx hb hts hin10 hown hK hW.1 0 rfl rfl 0 (by decide) w1 rfl dX10_warm_62 ?_
    refine lv_bipush (v := 73) hx hb dX10_warm_65 (by decide) ?_
    refine xlald hx hb hK hW.1 1 1 rfl rfl (vp_in_iff.mpr ⟨by decide, by decide⟩) 73 rfl (v := mf 73) rfl dX10_warm_67 ?_
    refine lv_ldiv hx hb dX10_warm_68 (by first | exact d1v hok.2.2.2.2.1 | exact d1v hok.2.2.2.2.2.1) ?_
    refine lv_ladd hx hb dX10_warm_69 ?_
    refine xlast hx hb hK hW 1 1 rfl (Nat.le_of_ble_eq_true rfl) rfl (vp_in_iff.mpr ⟨by decide, by decide⟩) 78 rfl dX10_warm_70 (fun H locs hW => ?_)
    have hW : xW D A s.heap ([(aM, .inr (10, [.ref mA, .ref mB, .ref mC, .ref mD, .ref mE, .int pm, .int sp, .int (bi iw), .ref mF, .int rn])), (mA, .inl (cJ, 93, .inr (.inl (vp_updL (vp_updL mf 78 ((mf 78) + (((f_X10_outside mf) - (mf 78)) / (mf 73)))) 78 (((mf 78) + (((f_X10_outside mf) - (mf 78)) / (mf 73))) + (((f_X10_outside mf) - ((mf 78) + (((f_X10_outside mf) - (mf 78)) / (mf 73)))) / (mf 73)))))))] ++ []) H _ := hW
    refine lv_aload_n hx hb dX10_warm_71 rfl (lv_at hl 1 rfl) ?_
    refine vp_callSi (va_Run.run (xrunV (As := []) (rest := []) ⟨hx, hb, hml, hown, hts⟩ (c_X10_isDoorOpen l D cI cJ cZ cB H.size aM mA mB mC mD mE pm sp iw mF rn (vp_updL (vp_updL mf 78 ((mf 78) + (((f_X10_outside mf) - (mf 78)) / (mf 73)))) 78 (((mf 78) + (((f_X10_outside mf) - (mf 78)) / (mf 73))) + (((f_X10_outside mf) - ((mf 78) + (((f_X10_outside mf) - (mf 78)) / (mf 73)))) / (mf 73)))) _ rfl) (cwV 0 hts gX10_warm_X10_isDoorOpen rfl rfl rfl (by decide +kernel) ⟨Nat.le_of_ble_eq_true rfl, Nat.le_of_ble_eq_true rfl⟩) hK hG hW.2.2 (xsubQ hW hA [0, 1] rfl (by decide)) (va_recv hK hW.1 (ci := 10) (q0 := 0) rfl rfl) rfl hl.1 rfl (Nat.le_of_ble_eq_true rfl) dX10_warm_72 ⟨Nat.le_of_ble_eq_true rfl, Nat.le_of_ble_eq_true rfl⟩)) (fun r3 hq => ?_)
    subst hq
    refine xb_eq (tgt := 101) hx hb dX10_warm_75 (by decide) (fun c2 => ?_) (fun c2 => ?_)
    · skip
      refine lv_aload_n hx hb dX10_warm_101 rfl (lv_at hl 1 rfl) ?_
      refine xget (ci := 10) (C := RX10) (T := TX10) (N := 10) hx hb hts hin10 hown hK hW.1 0 rfl rfl 0 (by decide) w1 rfl dX10_warm_102 ?_
      refine lv_bipush (v := 78) hx hb dX10_warm_105 (by decide) ?_
      refine xlald hx hb hK hW.1 1 1 rfl rfl (vp_in_iff.mpr ⟨by decide, by decide⟩) 78 rfl (v := ((mf 78) + (((f_X10_outside mf) - (mf 78)) / (mf 73))) + (((f_X10_outside mf) - ((mf 78) + (((f_X10_outside mf) - (mf 78)) / (mf 73)))) / (mf 73))) rfl dX10_warm_107 ?_
      refine lv_ldc2 hx hb hown w3 dX10_warm_108 ?_
      refine xlc_le (tgt := 158) hx hb dX10_warm_111 dX10_warm_112 (by decide) (fun c3 => ?_) (fun c3 => ?_)
      · skip
        have hF : f_X10_warm a0 mf = vp_updL (vp_updL mf 78 ((mf 78) + (((f_X10_outside mf) - (mf 78)) / (mf 73)))) 78 (((mf 78) + (((f_X10_outside mf) - (mf 78)) / (mf 73))) + (((f_X10_outside mf) - ((mf 78) + (((f_X10_outside mf) - (mf 78)) / (mf 73)))) / (mf 73))) := by
          rw [f_X10_warm, if_pos c1, if_neg c2, if_pos c3]
        obtain rfl : vp_updL (vp_updL mf 78 ((mf 78) + (((f_X10_outside mf) - (mf 78)) / (mf 73)))) 78 (((mf 78) + (((f_X10_outside mf) - (mf 78)) / (mf 73))) + (((f_X10_outside mf) - ((mf 78) + (((f_X10_outside mf) - (mf 78)) / (mf 73)))) / (mf 73))) = o := hF.symm.trans ho
        exact W.vret hx hb hrt (fun t ht hM => ⟨⟨(), rfl, trivial, ⟨by rw [ht]; exact hW.1, hW.2.1⟩⟩, hW.2.2.F ht⟩) hW.2.2.2.2 dX10_warm_158 hlocks
      · skip
        refine lv_aload_n hx hb dX10_warm_115 rfl (lv_at hl 1 rfl) ?_
        refine xget (ci := 10) (C := RX10) (T := TX10) (N := 10) hx hb hts hin10 hown hK hW.1 0 rfl rfl 0 (by decide) w1 rfl dX10_warm_116 ?_
        refine lv_bipush (v := 78) hx hb dX10_warm_119 (by decide) ?_
        refine xlald hx hb hK hW.1 1 1 rfl rfl (vp_in_iff.mpr ⟨by decide, by decide⟩) 78 rfl (v := ((mf 78) + (((f_X10_outside mf) - (mf 78)) / (mf 73))) + (((f_X10_outside mf) - ((mf 78) + (((f_X10_outside mf) - (mf 78)) / (mf 73)))) / (mf 73))) rfl dX10_warm_121 ?_
        refine lv_lload_n hx hb dX10_warm_122 rfl (lv_at hl 2 rfl) ?_
        refine lv_aload_n hx hb dX10_warm_123 rfl (lv_at hl 1 rfl) ?_
        refine xget (ci := 10) (C := RX10) (T := TX10) (N := 10) hx hb hts hin10 hown hK hW.1 0 rfl rfl 0 (by decide) w1 rfl dX10_warm_124 ?_
        refine lv_bipush (v := 74) hx hb dX10_warm_127 (by decide) ?_
        refine xlald hx hb hK hW.1 1 1 rfl rfl (vp_in_iff.mpr ⟨by decide, by decide⟩) 74 rfl (v := mf 74) rfl dX10_warm_129 ?_
        refine lv_ldiv hx hb dX10_warm_130 (by first | exact d1v hok.2.2.2.2.1 | exact d1v hok.2.2.2.2.2.1) ?_
        refine lv_lsub hx hb dX10_warm_131 ?_
        refine lv_lstore (lv' := [(5, .long ((((mf 78) + (((f_X10_outside mf) - (mf 78)) / (mf 73))) + (((f_X10_outside mf) - ((mf 78) + (((f_X10_outside mf) - (mf 78)) / (mf 73)))) / (mf 73))) - (a0 / (mf 74)))), (3, .long (f_X10_outside mf)), (0, .ref aM), (1, .long a0)]) hx hb dX10_warm_132 hl (by decide) rfl (fun ls hl => ?_)
        refine lv_aload_n hx hb dX10_warm_134 rfl (lv_at hl 2 rfl) ?_
        refine xget (ci := 10) (C := RX10) (T := TX10) (N := 10) hx hb hts hin10 hown hK hW.1 0 rfl rfl 0 (by decide) w1 rfl dX10_warm_135 ?_
        refine lv_bipush (v := 78) hx hb dX10_warm_138 (by decide) ?_
        refine lv_lload hx hb dX10_warm_140 (lv_at hl 0 rfl) ?_
        refine lv_ldc2 hx hb hown w3 dX10_warm_142 ?_
        refine xlc_ge (tgt := 155) hx hb dX10_warm_145 dX10_warm_146 (by decide) (fun c4 => ?_) (fun c4 => ?_)
        · skip
          refine lv_lload hx hb dX10_warm_155 (lv_at hl 0 rfl) ?_
          refine xlast hx hb hK hW 1 1 rfl (Nat.le_of_ble_eq_true rfl) rfl (vp_in_iff.mpr ⟨by decide, by decide⟩) 78 rfl dX10_warm_157 (fun H locs hW => ?_)
          have hW : xW D A s.heap ([(aM, .inr (10, [.ref mA, .ref mB, .ref mC, .ref mD, .ref mE, .int pm, .int sp, .int (bi iw), .ref mF, .int rn])), (mA, .inl (cJ, 93, .inr (.inl (vp_updL (vp_updL (vp_updL mf 78 ((mf 78) + (((f_X10_outside mf) - (mf 78)) / (mf 73)))) 78 (((mf 78) + (((f_X10_outside mf) - (mf 78)) / (mf 73))) + (((f_X10_outside mf) - ((mf 78) + (((f_X10_outside mf) - (mf 78)) / (mf 73)))) / (mf 73)))) 78 ((((mf 78) + (((f_X10_outside mf) - (mf 78)) / (mf 73))) + (((f_X10_outside mf) - ((mf 78) + (((f_X10_outside mf) - (mf 78)) / (mf 73)))) / (mf 73))) - (a0 / (mf 74)))))))] ++ []) H _ := hW
          have hF : f_X10_warm a0 mf = vp_updL (vp_updL (vp_updL mf 78 ((mf 78) + (((f_X10_outside mf) - (mf 78)) / (mf 73)))) 78 (((mf 78) + (((f_X10_outside mf) - (mf 78)) / (mf 73))) + (((f_X10_outside mf) - ((mf 78) + (((f_X10_outside mf) - (mf 78)) / (mf 73)))) / (mf 73)))) 78 ((((mf 78) + (((f_X10_outside mf) - (mf 78)) / (mf 73))) + (((f_X10_outside mf) - ((mf 78) + (((f_X10_outside mf) - (mf 78)) / (mf 73)))) / (mf 73))) - (a0 / (mf 74))) := by
            rw [f_X10_warm, if_pos c1, if_neg c2, if_neg c3, if_pos c4]
          obtain rfl : vp_updL (vp_updL (vp_updL mf 78 ((mf 78) + (((f_X10_outside mf) - (mf 78)) / (mf 73)))) 78 (((mf 78) + (((f_X10_outside mf) - (mf 78)) / (mf 73))) + (((f_X10_outside mf) - ((mf 78) + (((f_X10_outside mf) - (mf 78)) / (mf 73)))) / (mf 73)))) 78 ((((mf 78) + (((f_X10_outside mf) - (mf 78)) / (mf 73))) + (((f_X10_outside mf) - ((mf 78) + (((f_X10_outside mf) - (mf 78)) / (mf 73)))) / (mf 73))) - (a0 / (mf 74))) = o := hF.symm.trans ho
          exact W.vret hx hb hrt (fun t ht hM => ⟨⟨(), rfl, trivial, ⟨by rw [ht]; exact hW.1, hW.2.1⟩⟩, hW.2.2.F ht⟩) hW.2.2.2.2 dX10_warm_158 hlocks
        · skip
          refine lv_ldc2 hx hb hown w3 dX10_warm_149 ?_
          refine lv_goto (tgt := 157) hx hb dX10_warm_152 (by decide) ?_
          refine xlast hx hb hK hW 1 1 rfl (Nat.le_of_ble_eq_true rfl) rfl (vp_in_iff.mpr ⟨by decide, by decide⟩) 78 rfl dX10_warm_157 (fun H locs hW => ?_)
          have hW : xW D A s.heap ([(aM, .inr (10, [.ref mA, .ref mB, .ref mC, .ref mD, .ref mE, .int pm, .int sp, .int (bi iw), .ref mF, .int rn])), (mA, .inl (cJ, 93, .inr (.inl (vp_updL (vp_updL (vp_updL mf 78 ((mf 78) + (((f_X10_outside mf) - (mf 78)) / (mf 73)))) 78 (((mf 78) + (((f_X10_outside mf) - (mf 78)) / (mf 73))) + (((f_X10_outside mf) - ((mf 78) + (((f_X10_outside mf) - (mf 78)) / (mf 73)))) / (mf 73)))) 78 (-7900)))))] ++ []) H _ := hW
          have hF : f_X10_warm a0 mf = vp_updL (vp_updL (vp_updL mf 78 ((mf 78) + (((f_X10_outside mf) - (mf 78)) / (mf 73)))) 78 (((mf 78) + (((f_X10_outside mf) - (mf 78)) / (mf 73))) + (((f_X10_outside mf) - ((mf 78) + (((f_X10_outside mf) - (mf 78)) / (mf 73)))) / (mf 73)))) 78 (-7900) := by
            rw [f_X10_warm, if_pos c1, if_neg c2, if_neg c3, if_neg c4]
          obtain rfl : vp_updL (vp_updL (vp_updL mf 78 ((mf 78) + (((f_X10_outside mf) - (mf 78)) / (mf 73)))) 78 (((mf 78) + (((f_X10_outside mf) - (mf 78)) / (mf 73))) + (((f_X10_outside mf) - ((mf 78) + (((f_X10_outside mf) - (mf 78)) / (mf 73)))) / (mf 73)))) 78 (-7900) = o := hF.symm.trans ho
          exact W.vret hx hb hrt (fun t ht hM => ⟨⟨(), rfl, trivial, ⟨by rw [ht]; exact hW.1, hW.2.1⟩⟩, hW.2.2.F ht⟩) hW.2.2.2.2 dX10_warm_158 hlocks
    · skip
      refine lv_aload_n hx hb dX10_warm_78 rfl (lv_at hl 1 rfl) ?_
      refine xget (ci := 10) (C := RX10) (T := TX10) (N := 10) hx hb hts hin10 hown hK hW.1 0 rfl rfl 0 (by decide) w1 rfl dX10_warm_79 ?_
      refine lv_bipush (v := 78) hx hb dX10_warm_82 (by decide) ?_
      refine lv_dup2_11 hx hb dX10_warm_84 rfl rfl ?_
      refine xlald hx hb hK hW.1 1 1 rfl rfl (vp_in_iff.mpr ⟨by decide, by decide⟩) 78 rfl (v := ((mf 78) + (((f_X10_outside mf) - (mf 78)) / (mf 73))) + (((f_X10_outside mf) - ((mf 78) + (((f_X10_outside mf) - (mf 78)) / (mf 73)))) / (mf 73))) rfl dX10_warm_85 ?_
      refine lv_lload_n hx hb dX10_warm_86 rfl (lv_at hl 0 rfl) ?_
      refine lv_aload_n hx hb dX10_warm_87 rfl (lv_at hl 1 rfl) ?_
      refine xget (ci := 10) (C := RX10) (T := TX10) (N := 10) hx hb hts hin10 hown hK hW.1 0 rfl rfl 0 (by decide) w1 rfl dX10_warm_88 ?_
      refine lv_bipush (v := 78) hx hb dX10_warm_91 (by decide) ?_
      refine xlald hx hb hK hW.1 1 1 rfl rfl (vp_in_iff.mpr ⟨by decide, by decide⟩) 78 rfl (v := ((mf 78) + (((f_X10_outside mf) - (mf 78)) / (mf 73))) + (((f_X10_outside mf) - ((mf 78) + (((f_X10_outside mf) - (mf 78)) / (mf 73)))) / (mf 73))) rfl dX10_warm_93 ?_
      refine lv_lsub hx hb dX10_warm_94 ?_
      refine lv_ldc2 hx hb hown w4 dX10_warm_95 ?_
      refine lv_ldiv hx hb dX10_warm_98 ((by decide)) ?_
      refine lv_ladd hx hb dX10_warm_99 ?_
      refine xlast hx hb hK hW 1 1 rfl (Nat.le_of_ble_eq_true rfl) rfl (vp_in_iff.mpr ⟨by decide, by decide⟩) 78 rfl dX10_warm_100 (fun H locs hW => ?_)
      have hW : xW D A s.heap ([(aM, .inr (10, [.ref mA, .ref mB, .ref mC, .ref mD, .ref mE, .int pm, .int sp, .int (bi iw), .ref mF, .int rn])), (mA, .inl (cJ, 93, .inr (.inl (vp_updL (vp_updL (vp_updL mf 78 ((mf 78) + (((f_X10_outside mf) - (mf 78)) / (mf 73)))) 78 (((mf 78) + (((f_X10_outside mf) - (mf 78)) / (mf 73))) + (((f_X10_outside mf) - ((mf 78) + (((f_X10_outside mf) - (mf 78)) / (mf 73)))) / (mf 73)))) 78 ((((mf 78) + (((f_X10_outside mf) - (mf 78)) / (mf 73))) + (((f_X10_outside mf) - ((mf 78) + (((f_X10_outside mf) - (mf 78)) / (mf 73)))) / (mf 73))) + (((f_X10_outside mf) - (((mf 78) + (((f_X10_outside mf) - (mf 78)) / (mf 73))) + (((f_X10_outside mf) - ((mf 78) + (((f_X10_outside mf) - (mf 78)) / (mf 73)))) / (mf 73)))) / 4))))))] ++ []) H _ := hW
      refine lv_aload_n hx hb dX10_warm_101 rfl (lv_at hl 1 rfl) ?_
      refine xget (ci := 10) (C := RX10) (T := TX10) (N := 10) hx hb hts hin10 hown hK hW.1 0 rfl rfl 0 (by decide) w1 rfl dX10_warm_102 ?_
      refine lv_bipush (v := 78) hx hb dX10_warm_105 (by decide) ?_
      refine xlald hx hb hK hW.1 1 1 rfl rfl (vp_in_iff.mpr ⟨by decide, by decide⟩) 78 rfl (v := (((mf 78) + (((f_X10_outside mf) - (mf 78)) / (mf 73))) + (((f_X10_outside mf) - ((mf 78) + (((f_X10_outside mf) - (mf 78)) / (mf 73)))) / (mf 73))) + (((f_X10_outside mf) - (((mf 78) + (((f_X10_outside mf) - (mf 78)) / (mf 73))) + (((f_X10_outside mf) - ((mf 78) + (((f_X10_outside mf) - (mf 78)) / (mf 73)))) / (mf 73)))) / 4)) rfl dX10_warm_107 ?_
      refine lv_ldc2 hx hb hown w3 dX10_warm_108 ?_
      refine xlc_le (tgt := 158) hx hb dX10_warm_111 dX10_warm_112 (by decide) (fun c3 => ?_) (fun c3 => ?_)
      · skip
        have hF : f_X10_warm a0 mf = vp_updL (vp_updL (vp_updL mf 78 ((mf 78) + (((f_X10_outside mf) - (mf 78)) / (mf 73)))) 78 (((mf 78) + (((f_X10_outside mf) - (mf 78)) / (mf 73))) + (((f_X10_outside mf) - ((mf 78) + (((f_X10_outside mf) - (mf 78)) / (mf 73)))) / (mf 73)))) 78 ((((mf 78) + (((f_X10_outside mf) - (mf 78)) / (mf 73))) + (((f_X10_outside mf) - ((mf 78) + (((f_X10_outside mf) - (mf 78)) / (mf 73)))) / (mf 73))) + (((f_X10_outside mf) - (((mf 78) + (((f_X10_outside mf) - (mf 78)) / (mf 73))) + (((f_X10_outside mf) - ((mf 78) + (((f_X10_outside mf) - (mf 78)) / (mf 73)))) / (mf 73)))) / 4)) := by
          rw [f_X10_warm, if_pos c1, if_pos c2, if_pos c3]
        obtain rfl : vp_updL (vp_updL (vp_updL mf 78 ((mf 78) + (((f_X10_outside mf) - (mf 78)) / (mf 73)))) 78 (((mf 78) + (((f_X10_outside mf) - (mf 78)) / (mf 73))) + (((f_X10_outside mf) - ((mf 78) + (((f_X10_outside mf) - (mf 78)) / (mf 73)))) / (mf 73)))) 78 ((((mf 78) + (((f_X10_outside mf) - (mf 78)) / (mf 73))) + (((f_X10_outside mf) - ((mf 78) + (((f_X10_outside mf) - (mf 78)) / (mf 73)))) / (mf 73))) + (((f_X10_outside mf) - (((mf 78) + (((f_X10_outside mf) - (mf 78)) / (mf 73))) + (((f_X10_outside mf) - ((mf 78) + (((f_X10_outside mf) - (mf 78)) / (mf 73)))) / (mf 73)))) / 4)) = o := hF.symm.trans ho
        exact W.vret hx hb hrt (fun t ht hM => ⟨⟨(), rfl, trivial, ⟨by rw [ht]; exact hW.1, hW.2.1⟩⟩, hW.2.2.F ht⟩) hW.2.2.2.2 dX10_warm_158 hlocks
      · skip
        refine lv_aload_n hx hb dX10_warm_115 rfl (lv_at hl 1 rfl) ?_
        refine xget (ci := 10) (C := RX10) (T := TX10) (N := 10) hx hb hts hin10 hown hK hW.1 0 rfl rfl 0 (by decide) w1 rfl dX10_warm_116 ?_
        refine lv_bipush (v := 78) hx hb dX10_warm_119 (by decide) ?_
        refine xlald hx hb hK hW.1 1 1 rfl rfl (vp_in_iff.mpr ⟨by decide, by decide⟩) 78 rfl (v := (((mf 78) + (((f_X10_outside mf) - (mf 78)) / (mf 73))) + (((f_X10_outside mf) - ((mf 78) + (((f_X10_outside mf) - (mf 78)) / (mf 73)))) / (mf 73))) + (((f_X10_outside mf) - (((mf 78) + (((f_X10_outside mf) - (mf 78)) / (mf 73))) + (((f_X10_outside mf) - ((mf 78) + (((f_X10_outside mf) - (mf 78)) / (mf 73)))) / (mf 73)))) / 4)) rfl dX10_warm_121 ?_
        refine lv_lload_n hx hb dX10_warm_122 rfl (lv_at hl 2 rfl) ?_
        refine lv_aload_n hx hb dX10_warm_123 rfl (lv_at hl 1 rfl) ?_
        refine xget (ci := 10) (C := RX10) (T := TX10) (N := 10) hx hb hts hin10 hown hK hW.1 0 rfl rfl 0 (by decide) w1 rfl dX10_warm_124 ?_
        refine lv_bipush (v := 74) hx hb dX10_warm_127 (by decide) ?_
        refine xlald hx hb hK hW.1 1 1 rfl rfl (vp_in_iff.mpr ⟨by decide, by decide⟩) 74 rfl (v := mf 74) rfl dX10_warm_129 ?_
        refine lv_ldiv hx hb dX10_warm_130 (by first | exact d1v hok.2.2.2.2.1 | exact d1v hok.2.2.2.2.2.1) ?_
        refine lv_lsub hx hb dX10_warm_131 ?_
        refine lv_lstore (lv' := [(5, .long (((((mf 78) + (((f_X10_outside mf) - (mf 78)) / (mf 73))) + (((f_X10_outside mf) - ((mf 78) + (((f_X10_outside mf) - (mf 78)) / (mf 73)))) / (mf 73))) + (((f_X10_outside mf) - (((mf 78) + (((f_X10_outside mf) - (mf 78)) / (mf 73))) + (((f_X10_outside mf) - ((mf 78) + (((f_X10_outside mf) - (mf 78)) / (mf 73)))) / (mf 73)))) / 4)) - (a0 / (mf 74)))), (3, .long (f_X10_outside mf)), (0, .ref aM), (1, .long a0)]) hx hb dX10_warm_132 hl (by decide) rfl (fun ls hl => ?_)
        refine lv_aload_n hx hb dX10_warm_134 rfl (lv_at hl 2 rfl) ?_
        refine xget (ci := 10) (C := RX10) (T := TX10) (N := 10) hx hb hts hin10 hown hK hW.1 0 rfl rfl 0 (by decide) w1 rfl dX10_warm_135 ?_
        refine lv_bipush (v := 78) hx hb dX10_warm_138 (by decide) ?_
        refine lv_lload hx hb dX10_warm_140 (lv_at hl 0 rfl) ?_
        refine lv_ldc2 hx hb hown w3 dX10_warm_142 ?_
        refine xlc_ge (tgt := 155) hx hb dX10_warm_145 dX10_warm_146 (by decide) (fun c4 => ?_) (fun c4 => ?_)
        · skip
          refine lv_lload hx hb dX10_warm_155 (lv_at hl 0 rfl) ?_
          refine xlast hx hb hK hW 1 1 rfl (Nat.le_of_ble_eq_true rfl) rfl (vp_in_iff.mpr ⟨by decide, by decide⟩) 78 rfl dX10_warm_157 (fun H locs hW => ?_)
          have hW : xW D A s.heap ([(aM, .inr (10, [.ref mA, .ref mB, .ref mC, .ref mD, .ref mE, .int pm, .int sp, .int (bi iw), .ref mF, .int rn])), (mA, .inl (cJ, 93, .inr (.inl (vp_updL (vp_updL (vp_updL (vp_updL mf 78 ((mf 78) + (((f_X10_outside mf) - (mf 78)) / (mf 73)))) 78 (((mf 78) + (((f_X10_outside mf) - (mf 78)) / (mf 73))) + (((f_X10_outside mf) - ((mf 78) + (((f_X10_outside mf) - (mf 78)) / (mf 73)))) / (mf 73)))) 78 ((((mf 78) + (((f_X10_outside mf) - (mf 78)) / (mf 73))) + (((f_X10_outside mf) - ((mf 78) + (((f_X10_outside mf) - (mf 78)) / (mf 73)))) / (mf 73))) + (((f_X10_outside mf) - (((mf 78) + (((f_X10_outside mf) - (mf 78)) / (mf 73))) + (((f_X10_outside mf) - ((mf 78) + (((f_X10_outside mf) - (mf 78)) / (mf 73)))) / (mf 73)))) / 4))) 78 (((((mf 78) + (((f_X10_outside mf) - (mf 78)) / (mf 73))) + (((f_X10_outside mf) - ((mf 78) + (((f_X10_outside mf) - (mf 78)) / (mf 73)))) / (mf 73))) + (((f_X10_outside mf) - (((mf 78) + (((f_X10_outside mf) - (mf 78)) / (mf 73))) + (((f_X10_outside mf) - ((mf 78) + (((f_X10_outside mf) - (mf 78)) / (mf 73)))) / (mf 73)))) / 4)) - (a0 / (mf 74)))))))] ++ []) H _ := hW
          have hF : f_X10_warm a0 mf = vp_updL (vp_updL (vp_updL (vp_updL mf 78 ((mf 78) + (((f_X10_outside mf) - (mf 78)) / (mf 73)))) 78 (((mf 78) + (((f_X10_outside mf) - (mf 78)) / (mf 73))) + (((f_X10_outside mf) - ((mf 78) + (((f_X10_outside mf) - (mf 78)) / (mf 73)))) / (mf 73)))) 78 ((((mf 78) + (((f_X10_outside mf) - (mf 78)) / (mf 73))) + (((f_X10_outside mf) - ((mf 78) + (((f_X10_outside mf) - (mf 78)) / (mf 73)))) / (mf 73))) + (((f_X10_outside mf) - (((mf 78) + (((f_X10_outside mf) - (mf 78)) / (mf 73))) + (((f_X10_outside mf) - ((mf 78) + (((f_X10_outside mf) - (mf 78)) / (mf 73)))) / (mf 73)))) / 4))) 78 (((((mf 78) + (((f_X10_outside mf) - (mf 78)) / (mf 73))) + (((f_X10_outside mf) - ((mf 78) + (((f_X10_outside mf) - (mf 78)) / (mf 73)))) / (mf 73))) + (((f_X10_outside mf) - (((mf 78) + (((f_X10_outside mf) - (mf 78)) / (mf 73))) + (((f_X10_outside mf) - ((mf 78) + (((f_X10_outside mf) - (mf 78)) / (mf 73)))) / (mf 73)))) / 4)) - (a0 / (mf 74))) := by
            rw [f_X10_warm, if_pos c1, if_pos c2, if_neg c3, if_pos c4]
          obtain rfl : vp_updL (vp_updL (vp_updL (vp_updL mf 78 ((mf 78) + (((f_X10_outside mf) - (mf 78)) / (mf 73)))) 78 (((mf 78) + (((f_X10_outside mf) - (mf 78)) / (mf 73))) + (((f_X10_outside mf) - ((mf 78) + (((f_X10_outside mf) - (mf 78)) / (mf 73)))) / (mf 73)))) 78 ((((mf 78) + (((f_X10_outside mf) - (mf 78)) / (mf 73))) + (((f_X10_outside mf) - ((mf 78) + (((f_X10_outside mf) - (mf 78)) / (mf 73)))) / (mf 73))) + (((f_X10_outside mf) - (((mf 78) + (((f_X10_outside mf) - (mf 78)) / (mf 73))) + (((f_X10_outside mf) - ((mf 78) + (((f_X10_outside mf) - (mf 78)) / (mf 73)))) / (mf 73)))) / 4))) 78 (((((mf 78) + (((f_X10_outside mf) - (mf 78)) / (mf 73))) + (((f_X10_outside mf) - ((mf 78) + (((f_X10_outside mf) - (mf 78)) / (mf 73)))) / (mf 73))) + (((f_X10_outside mf) - (((mf 78) + (((f_X10_outside mf) - (mf 78)) / (mf 73))) + (((f_X10_outside mf) - ((mf 78) + (((f_X10_outside mf) - (mf 78)) / (mf 73)))) / (mf 73)))) / 4)) - (a0 / (mf 74))) = o := hF.symm.trans ho
          exact W.vret hx hb hrt (fun t ht hM => ⟨⟨(), rfl, trivial, ⟨by rw [ht]; exact hW.1, hW.2.1⟩⟩, hW.2.2.F ht⟩) hW.2.2.2.2 dX10_warm_158 hlocks
        · skip
          refine lv_ldc2 hx hb hown w3 dX10_warm_149 ?_
          refine lv_goto (tgt := 157) hx hb dX10_warm_152 (by decide) ?_
          refine xlast hx hb hK hW 1 1 rfl (Nat.le_of_ble_eq_true rfl) rfl (vp_in_iff.mpr ⟨by decide, by decide⟩) 78 rfl dX10_warm_157 (fun H locs hW => ?_)
          have hW : xW D A s.heap ([(aM, .inr (10, [.ref mA, .ref mB, .ref mC, .ref mD, .ref mE, .int pm, .int sp, .int (bi iw), .ref mF, .int rn])), (mA, .inl (cJ, 93, .inr (.inl (vp_updL (vp_updL (vp_updL (vp_updL mf 78 ((mf 78) + (((f_X10_outside mf) - (mf 78)) / (mf 73)))) 78 (((mf 78) + (((f_X10_outside mf) - (mf 78)) / (mf 73))) + (((f_X10_outside mf) - ((mf 78) + (((f_X10_outside mf) - (mf 78)) / (mf 73)))) / (mf 73)))) 78 ((((mf 78) + (((f_X10_outside mf) - (mf 78)) / (mf 73))) + (((f_X10_outside mf) - ((mf 78) + (((f_X10_outside mf) - (mf 78)) / (mf 73)))) / (mf 73))) + (((f_X10_outside mf) - (((mf 78) + (((f_X10_outside mf) - (mf 78)) / (mf 73))) + (((f_X10_outside mf) - ((mf 78) + (((f_X10_outside mf) - (mf 78)) / (mf 73)))) / (mf 73)))) / 4))) 78 (-7900)))))] ++ []) H _ := hW
          have hF : f_X10_warm a0 mf = vp_updL (vp_updL (vp_updL (vp_updL mf 78 ((mf 78) + (((f_X10_outside mf) - (mf 78)) / (mf 73)))) 78 (((mf 78) + (((f_X10_outside mf) - (mf 78)) / (mf 73))) + (((f_X10_outside mf) - ((mf 78) + (((f_X10_outside mf) - (mf 78)) / (mf 73)))) / (mf 73)))) 78 ((((mf 78) + (((f_X10_outside mf) - (mf 78)) / (mf 73))) + (((f_X10_outside mf) - ((mf 78) + (((f_X10_outside mf) - (mf 78)) / (mf 73)))) / (mf 73))) + (((f_X10_outside mf) - (((mf 78) + (((f_X10_outside mf) - (mf 78)) / (mf 73))) + (((f_X10_outside mf) - ((mf 78) + (((f_X10_outside mf) - (mf 78)) / (mf 73)))) / (mf 73)))) / 4))) 78 (-7900) := by
            rw [f_X10_warm, if_pos c1, if_pos c2, if_neg c3, if_neg c4]
          obtain rfl : vp_updL (vp_updL (vp_updL (vp_updL mf 78 ((mf 78) + (((f_X10_outside mf) - (mf 78)) / (mf 73)))) 78 (((mf 78) + (((f_X10_outside mf) - (mf 78)) / (mf 73))) + (((f_X10_outside mf) - ((mf 78) + (((f_X10_outside mf) - (mf 78)) / (mf 73)))) / (mf 73)))) 78 ((((mf 78) + (((f_X10_outside mf) - (mf 78)) / (mf 73))) + (((f_X10_outside mf) - ((mf 78) + (((f_X10_outside mf) - (mf 78)) / (mf 73)))) / (mf 73))) + (((f_X10_outside mf) - (((mf 78) + (((f_X10_outside mf) - (mf 78)) / (mf 73))) + (((f_X10_outside mf) - ((mf 78) + (((f_X10_outside mf) - (mf 78)) / (mf 73)))) / (mf 73)))) / 4))) 78 (-7900) = o := hF.symm.trans ho
          exact W.vret hx hb hrt (fun t ht hM => ⟨⟨(), rfl, trivial, ⟨by rw [ht]; exact hW.1, hW.2.1⟩⟩, hW.2.2.F ht⟩) hW.2.2.2.2 dX10_warm_158 hlocks

def f_X10_blow (mf : Nat → Int64) : (Nat → Int64) :=
  if (mf 81) = 1 then
    if (f_X10_isDoorOpen (vp_updL (vp_updL mf 79 ((mf 79) - (((mf 79) * (mf 67)) / 1000))) 79 (((mf 79) - (((mf 79) * (mf 67)) / 1000)) - ((((mf 79) - (((mf 79) * (mf 67)) / 1000)) * (mf 66)) / 1000)))) = true then
      vp_updL (vp_updL (vp_updL mf 79 ((mf 79) - (((mf 79) * (mf 67)) / 1000))) 79 (((mf 79) - (((mf 79) * (mf 67)) / 1000)) - ((((mf 79) - (((mf 79) * (mf 67)) / 1000)) * (mf 66)) / 1000))) 79 ((((mf 79) - (((mf 79) * (mf 67)) / 1000)) - ((((mf 79) - (((mf 79) * (mf 67)) / 1000)) * (mf 66)) / 1000)) - (((((mf 79) - (((mf 79) * (mf 67)) / 1000)) - ((((mf 79) - (((mf 79) * (mf 67)) / 1000)) * (mf 66)) / 1000)) * (mf 68)) / 1000))
    else
      vp_updL (vp_updL mf 79 ((mf 79) - (((mf 79) * (mf 67)) / 1000))) 79 (((mf 79) - (((mf 79) * (mf 67)) / 1000)) - ((((mf 79) - (((mf 79) * (mf 67)) / 1000)) * (mf 66)) / 1000))
  else
    if (f_X10_isDoorOpen (vp_updL mf 79 ((mf 79) - (((mf 79) * (mf 67)) / 1000)))) = true then
      vp_updL (vp_updL mf 79 ((mf 79) - (((mf 79) * (mf 67)) / 1000))) 79 (((mf 79) - (((mf 79) * (mf 67)) / 1000)) - ((((mf 79) - (((mf 79) * (mf 67)) / 1000)) * (mf 68)) / 1000))
    else
      vp_updL mf 79 ((mf 79) - (((mf 79) * (mf 67)) / 1000))
set_option maxHeartbeats 4000000 in
set_option maxRecDepth 100000 in
theorem c_X10_blow (l : Launch) (D : va_G) (cI cJ cZ cB : ClassId) (sz : Nat) (aM : Nat) (mA : Nat) (mB : Nat) (mC : Nat) (mD : Nat) (mE : Nat) (pm : Int32) (sp : Int32) (iw : Bool) (mF : Nat) (rn : Int32) (mf : Nat → Int64) (o : (Nat → Int64)) (ho : f_X10_blow mf = o) : Met l yX10_blow wsX10_blow ({ frames := 1, cells := 0, slots := 0, locals := 20 } : Room) (xPre D (xT cI cJ cZ cB) [.ref aM] [(aM, .inr (10, [.ref mA, .ref mB, .ref mC, .ref mD, .ref mE, .int pm, .int sp, .int (bi iw), .ref mF, .int rn])), (mA, .inl (cJ, 93, .inr (.inl mf)))] sz) (va_Qv (fun _ : Unit => True) (fun _ t => xB D ([(aM, .inr (10, [.ref mA, .ref mB, .ref mC, .ref mD, .ref mE, .int pm, .int sp, .int (bi iw), .ref mF, .int rn])), (mA, .inl (cJ, 93, .inr (.inl o)))]) (va_A [(aM, .inr (10, [.ref mA, .ref mB, .ref mC, .ref mD, .ref mE, .int pm, .int sp, .int (bi iw), .ref mF, .int rn])), (mA, .inl (cJ, 93, .inr (.inl mf)))] sz) t) (va_A [(aM, .inr (10, [.ref mA, .ref mB, .ref mC, .ref mD, .ref mE, .int pm, .int sp, .int (bi iw), .ref mF, .int rn])), (mA, .inl (cJ, 93, .inr (.inl mf)))] sz)) 0 0 (va_A [(aM, .inr (10, [.ref mA, .ref mB, .ref mC, .ref mD, .ref mE, .int pm, .int sp, .int (bi iw), .ref mF, .int rn])), (mA, .inl (cJ, 93, .inr (.inl mf)))] sz) := by
  refine xofW (Qc := fun A0 => va_Qv (fun _ : Unit => True) (fun _ t => xB D ([(aM, .inr (10, [.ref mA, .ref mB, .ref mC, .ref mD, .ref mE, .int pm, .int sp, .int (bi iw), .ref mF, .int rn])), (mA, .inl (cJ, 93, .inr (.inl o)))]) A0 t) A0) (fr := fun A => A) (cc := cX10_blow) (maxL := 1) (ret := none) (by decide) rfl (Nat.le_of_ble_eq_true rfl) ?_
  intro p e s m below meth c A ⟨hx, hb, hml, hown, hts⟩ hrt hlocks hnm hsz hK hW hA hG ls hl
  have hown : s.vm.findClass RX10 = some m.cls := hown
  have hl : lv_has ls 1 [(0, .ref aM)] := hl
  obtain ⟨H, hH⟩ : ∃ H, H = s.heap := ⟨_, rfl⟩
  have hW : xW D A s.heap ([(aM, .inr (10, [.ref mA, .ref mB, .ref mC, .ref mD, .ref mE, .int pm, .int sp, .int (bi iw), .ref mF, .int rn])), (mA, .inl (cJ, 93, .inr (.inl mf)))] ++ []) H [] := by rw [hH]; exact hW
  have w1 := hts (.fieldLink RX10 7 "DryIceLaneModel" "at" "[J") (by decide +kernel)
  have hin10 : ∀ w ∈ u_ws RX10 TX10 10, w ∈ wsX10_blow := by decide +kernel
  have w3 := hts (.constantLong RX10 44 (1000)) (by decide +kernel)
  rw [← hH]
  refine lv_aload_n hx hb dX10_blow_0 rfl (lv_at hl 0 rfl) ?_
  refine xget (ci := 10) (C := RX10) (T := TX10) (N := 10) hx hb hts hin10 hown hK hW.1 0 rfl rfl 0 (by decide) w1 rfl dX10_blow_1 ?_
  refine lv_bipush (v := 79) hx hb dX10_blow_4 (by decide) ?_
  refine lv_dup2_11 hx hb dX10_blow_6 rfl rfl ?_
  refine xlald hx hb hK hW.1 1 1 rfl rfl (vp_in_iff.mpr ⟨by decide, by decide⟩) 79 rfl (v := mf 79) rfl dX10_blow_7 ?_
  refine lv_aload_n hx hb dX10_blow_8 rfl (lv_at hl 0 rfl) ?_
  refine xget (ci := 10) (C := RX10) (T := TX10) (N := 10) hx hb hts hin10 hown hK hW.1 0 rfl rfl 0 (by decide) w1 rfl dX10_blow_9 ?_
  refine lv_bipush (v := 79) hx hb dX10_blow_12 (by decide) ?_
  refine xlald hx hb hK hW.1 1 1 rfl rfl (vp_in_iff.mpr ⟨by decide, by decide⟩) 79 rfl (v := mf 79) rfl dX10_blow_14 ?_
  refine lv_aload_n hx hb dX10_blow_15 rfl (lv_at hl 0 rfl) ?_
  refine xget (ci := 10) (C := RX10) (T := TX10) (N := 10) hx hb hts hin10 hown hK hW.1 0 rfl rfl 0 (by decide) w1 rfl dX10_blow_16 ?_
  refine lv_bipush (v := 67) hx hb dX10_blow_19 (by decide) ?_
  refine xlald hx hb hK hW.1 1 1 rfl rfl (vp_in_iff.mpr ⟨by decide, by decide⟩) 67 rfl (v := mf 67) rfl dX10_blow_21 ?_
  refine lv_lmul hx hb dX10_blow_22 ?_
  refine lv_ldc2 hx hb hown w3 dX10_blow_23 ?_
  refine lv_ldiv hx hb dX10_blow_26 ((by decide)) ?_
  refine lv_lsub hx hb dX10_blow_27 ?_
  refine xlast hx hb hK hW 1 1 rfl (Nat.le_of_ble_eq_true rfl) rfl (vp_in_iff.mpr ⟨by decide, by decide⟩) 79 rfl dX10_blow_28 (fun H locs hW => ?_)
  have hW : xW D A s.heap ([(aM, .inr (10, [.ref mA, .ref mB, .ref mC, .ref mD, .ref mE, .int pm, .int sp, .int (bi iw), .ref mF, .int rn])), (mA, .inl (cJ, 93, .inr (.inl (vp_updL mf 79 ((mf 79) - (((mf 79) * (mf 67)) / 1000))))))] ++ []) H _ := hW
  refine lv_aload_n hx hb dX10_blow_29 rfl (lv_at hl 0 rfl) ?_
  refine xget (ci := 10) (C := RX10) (T := TX10) (N := 10) hx hb hts hin10 hown hK hW.1 0 rfl rfl 0 (by decide) w1 rfl dX10_blow_30 ?_
  refine lv_bipush (v := 81) hx hb dX10_blow_33 (by decide) ?_
  refine xlald hx hb hK hW.1 1 1 rfl rfl (vp_in_iff.mpr ⟨by decide, by decide⟩) 81 rfl (v := mf 81) rfl dX10_blow_35 ?_
  refine lv_lconst (v := 1) hx hb dX10_blow_36 (by decide) ?_
  refine xlc_ne (tgt := 70) hx hb dX10_blow_37 dX10_blow_38 (by decide) (fun c1 => ?_) (fun c1 => ?_)
  · skip
    refine lv_aload_n hx hb dX10_blow_70 rfl (lv_at hl 0 rfl) ?_
    refine vp_callSi (va_Run.run (xrunV (As := []) (rest := []) ⟨hx, hb, hml, hown, hts⟩ (c_X10_isDoorOpen l D cI cJ cZ cB H.size aM mA mB mC mD mE pm sp iw mF rn (vp_updL mf 79 ((mf 79) - (((mf 79) * (mf 67)) / 1000))) _ rfl) (cwV 0 hts gX10_blow_X10_isDoorOpen rfl rfl rfl (by decide +kernel) ⟨Nat.le_of_ble_eq_true rfl, Nat.le_of_ble_eq_true rfl⟩) hK hG hW.2.2 (xsubQ hW hA [0, 1] rfl (by decide)) (va_recv hK hW.1 (ci := 10) (q0 := 0) rfl rfl) rfl hl.1 rfl (Nat.le_of_ble_eq_true rfl) dX10_blow_71 ⟨Nat.le_of_ble_eq_true rfl, Nat.le_of_ble_eq_true rfl⟩)) (fun r1 hq => ?_)
    subst hq
    refine xb_eq (tgt := 106) hx hb dX10_blow_74 (by decide) (fun c2 => ?_) (fun c2 => ?_)
    · skip
      have hF : f_X10_blow mf = vp_updL mf 79 ((mf 79) - (((mf 79) * (mf 67)) / 1000)) := by
        rw [f_X10_blow, if_neg c1, if_neg c2]
      obtain rfl : vp_updL mf 79 ((mf 79) - (((mf 79) * (mf 67)) / 1000)) = o := hF.symm.trans ho
      exact W.vret hx hb hrt (fun t ht hM => ⟨⟨(), rfl, trivial, ⟨by rw [ht]; exact hW.1, hW.2.1⟩⟩, hW.2.2.F ht⟩) hW.2.2.2.2 dX10_blow_106 hlocks
    · skip
      refine lv_aload_n hx hb dX10_blow_77 rfl (lv_at hl 0 rfl) ?_
      refine xget (ci := 10) (C := RX10) (T := TX10) (N := 10) hx hb hts hin10 hown hK hW.1 0 rfl rfl 0 (by decide) w1 rfl dX10_blow_78 ?_
      refine lv_bipush (v := 79) hx hb dX10_blow_81 (by decide) ?_
      refine lv_dup2_11 hx hb dX10_blow_83 rfl rfl ?_
      refine xlald hx hb hK hW.1 1 1 rfl rfl (vp_in_iff.mpr ⟨by decide, by decide⟩) 79 rfl (v := (mf 79) - (((mf 79) * (mf 67)) / 1000)) rfl dX10_blow_84 ?_
      refine lv_aload_n hx hb dX10_blow_85 rfl (lv_at hl 0 rfl) ?_
      refine xget (ci := 10) (C := RX10) (T := TX10) (N := 10) hx hb hts hin10 hown hK hW.1 0 rfl rfl 0 (by decide) w1 rfl dX10_blow_86 ?_
      refine lv_bipush (v := 79) hx hb dX10_blow_89 (by decide) ?_
      refine xlald hx hb hK hW.1 1 1 rfl rfl (vp_in_iff.mpr ⟨by decide, by decide⟩) 79 rfl (v := (mf 79) - (((mf 79) * (mf 67)) / 1000)) rfl dX10_blow_91 ?_
      refine lv_aload_n hx hb dX10_blow_92 rfl (lv_at hl 0 rfl) ?_
      refine xget (ci := 10) (C := RX10) (T := TX10) (N := 10) hx hb hts hin10 hown hK hW.1 0 rfl rfl 0 (by decide) w1 rfl dX10_blow_93 ?_
      refine lv_bipush (v := 68) hx hb dX10_blow_96 (by decide) ?_
      refine xlald hx hb hK hW.1 1 1 rfl rfl (vp_in_iff.mpr ⟨by decide, by decide⟩) 68 rfl (v := mf 68) rfl dX10_blow_98 ?_
      refine lv_lmul hx hb dX10_blow_99 ?_
      refine lv_ldc2 hx hb hown w3 dX10_blow_100 ?_
      refine lv_ldiv hx hb dX10_blow_103 ((by decide)) ?_
      refine lv_lsub hx hb dX10_blow_104 ?_
      refine xlast hx hb hK hW 1 1 rfl (Nat.le_of_ble_eq_true rfl) rfl (vp_in_iff.mpr ⟨by decide, by decide⟩) 79 rfl dX10_blow_105 (fun H locs hW => ?_)
      have hW : xW D A s.heap ([(aM, .inr (10, [.ref mA, .ref mB, .ref mC, .ref mD, .ref mE, .int pm, .int sp, .int (bi iw), .ref mF, .int rn])), (mA, .inl (cJ, 93, .inr (.inl (vp_updL (vp_updL mf 79 ((mf 79) - (((mf 79) * (mf 67)) / 1000))) 79 (((mf 79) - (((mf 79) * (mf 67)) / 1000)) - ((((mf 79) - (((mf 79) * (mf 67)) / 1000)) * (mf 68)) / 1000))))))] ++ []) H _ := hW
      have hF : f_X10_blow mf = vp_updL (vp_updL mf 79 ((mf 79) - (((mf 79) * (mf 67)) / 1000))) 79 (((mf 79) - (((mf 79) * (mf 67)) / 1000)) - ((((mf 79) - (((mf 79) * (mf 67)) / 1000)) * (mf 68)) / 1000)) := by
        rw [f_X10_blow, if_neg c1, if_pos c2]
      obtain rfl : vp_updL (vp_updL mf 79 ((mf 79) - (((mf 79) * (mf 67)) / 1000))) 79 (((mf 79) - (((mf 79) * (mf 67)) / 1000)) - ((((mf 79) - (((mf 79) * (mf 67)) / 1000)) * (mf 68)) / 1000)) = o := hF.symm.trans ho
      exact W.vret hx hb hrt (fun t ht hM => ⟨⟨(), rfl, trivial, ⟨by rw [ht]; exact hW.1, hW.2.1⟩⟩, hW.2.2.F ht⟩) hW.2.2.2.2 dX10_blow_106 hlocks
  · skip
    refine lv_aload_n hx hb dX10_blow_41 rfl (lv_at hl 0 rfl) ?_
    refine xget (ci := 10) (C := RX10) (T := TX10) (N := 10) hx hb hts hin10 hown hK hW.1 0 rfl rfl 0 (by decide) w1 rfl dX10_blow_42 ?_
    refine lv_bipush (v := 79) hx hb dX10_blow_45 (by decide) ?_
    refine lv_dup2_11 hx hb dX10_blow_47 rfl rfl ?_
    refine xlald hx hb hK hW.1 1 1 rfl rfl (vp_in_iff.mpr ⟨by decide, by decide⟩) 79 rfl (v := (mf 79) - (((mf 79) * (mf 67)) / 1000)) rfl dX10_blow_48 ?_
    refine lv_aload_n hx hb dX10_blow_49 rfl (lv_at hl 0 rfl) ?_
    refine xget (ci := 10) (C := RX10) (T := TX10) (N := 10) hx hb hts hin10 hown hK hW.1 0 rfl rfl 0 (by decide) w1 rfl dX10_blow_50 ?_
    refine lv_bipush (v := 79) hx hb dX10_blow_53 (by decide) ?_
    refine xlald hx hb hK hW.1 1 1 rfl rfl (vp_in_iff.mpr ⟨by decide, by decide⟩) 79 rfl (v := (mf 79) - (((mf 79) * (mf 67)) / 1000)) rfl dX10_blow_55 ?_
    refine lv_aload_n hx hb dX10_blow_56 rfl (lv_at hl 0 rfl) ?_
    refine xget (ci := 10) (C := RX10) (T := TX10) (N := 10) hx hb hts hin10 hown hK hW.1 0 rfl rfl 0 (by decide) w1 rfl dX10_blow_57 ?_
    refine lv_bipush (v := 66) hx hb dX10_blow_60 (by decide) ?_
    refine xlald hx hb hK hW.1 1 1 rfl rfl (vp_in_iff.mpr ⟨by decide, by decide⟩) 66 rfl (v := mf 66) rfl dX10_blow_62 ?_
    refine lv_lmul hx hb dX10_blow_63 ?_
    refine lv_ldc2 hx hb hown w3 dX10_blow_64 ?_
    refine lv_ldiv hx hb dX10_blow_67 ((by decide)) ?_
    refine lv_lsub hx hb dX10_blow_68 ?_
    refine xlast hx hb hK hW 1 1 rfl (Nat.le_of_ble_eq_true rfl) rfl (vp_in_iff.mpr ⟨by decide, by decide⟩) 79 rfl dX10_blow_69 (fun H locs hW => ?_)
    have hW : xW D A s.heap ([(aM, .inr (10, [.ref mA, .ref mB, .ref mC, .ref mD, .ref mE, .int pm, .int sp, .int (bi iw), .ref mF, .int rn])), (mA, .inl (cJ, 93, .inr (.inl (vp_updL (vp_updL mf 79 ((mf 79) - (((mf 79) * (mf 67)) / 1000))) 79 (((mf 79) - (((mf 79) * (mf 67)) / 1000)) - ((((mf 79) - (((mf 79) * (mf 67)) / 1000)) * (mf 66)) / 1000))))))] ++ []) H _ := hW
    refine lv_aload_n hx hb dX10_blow_70 rfl (lv_at hl 0 rfl) ?_
    refine vp_callSi (va_Run.run (xrunV (As := []) (rest := []) ⟨hx, hb, hml, hown, hts⟩ (c_X10_isDoorOpen l D cI cJ cZ cB H.size aM mA mB mC mD mE pm sp iw mF rn (vp_updL (vp_updL mf 79 ((mf 79) - (((mf 79) * (mf 67)) / 1000))) 79 (((mf 79) - (((mf 79) * (mf 67)) / 1000)) - ((((mf 79) - (((mf 79) * (mf 67)) / 1000)) * (mf 66)) / 1000))) _ rfl) (cwV 0 hts gX10_blow_X10_isDoorOpen rfl rfl rfl (by decide +kernel) ⟨Nat.le_of_ble_eq_true rfl, Nat.le_of_ble_eq_true rfl⟩) hK hG hW.2.2 (xsubQ hW hA [0, 1] rfl (by decide)) (va_recv hK hW.1 (ci := 10) (q0 := 0) rfl rfl) rfl hl.1 rfl (Nat.le_of_ble_eq_true rfl) dX10_blow_71 ⟨Nat.le_of_ble_eq_true rfl, Nat.le_of_ble_eq_true rfl⟩)) (fun r2 hq => ?_)
    subst hq
    refine xb_eq (tgt := 106) hx hb dX10_blow_74 (by decide) (fun c2 => ?_) (fun c2 => ?_)
    · skip
      have hF : f_X10_blow mf = vp_updL (vp_updL mf 79 ((mf 79) - (((mf 79) * (mf 67)) / 1000))) 79 (((mf 79) - (((mf 79) * (mf 67)) / 1000)) - ((((mf 79) - (((mf 79) * (mf 67)) / 1000)) * (mf 66)) / 1000)) := by
        rw [f_X10_blow, if_pos c1, if_neg c2]
      obtain rfl : vp_updL (vp_updL mf 79 ((mf 79) - (((mf 79) * (mf 67)) / 1000))) 79 (((mf 79) - (((mf 79) * (mf 67)) / 1000)) - ((((mf 79) - (((mf 79) * (mf 67)) / 1000)) * (mf 66)) / 1000)) = o := hF.symm.trans ho
      exact W.vret hx hb hrt (fun t ht hM => ⟨⟨(), rfl, trivial, ⟨by rw [ht]; exact hW.1, hW.2.1⟩⟩, hW.2.2.F ht⟩) hW.2.2.2.2 dX10_blow_106 hlocks
    · skip
      refine lv_aload_n hx hb dX10_blow_77 rfl (lv_at hl 0 rfl) ?_
      refine xget (ci := 10) (C := RX10) (T := TX10) (N := 10) hx hb hts hin10 hown hK hW.1 0 rfl rfl 0 (by decide) w1 rfl dX10_blow_78 ?_
      refine lv_bipush (v := 79) hx hb dX10_blow_81 (by decide) ?_
      refine lv_dup2_11 hx hb dX10_blow_83 rfl rfl ?_
      refine xlald hx hb hK hW.1 1 1 rfl rfl (vp_in_iff.mpr ⟨by decide, by decide⟩) 79 rfl (v := ((mf 79) - (((mf 79) * (mf 67)) / 1000)) - ((((mf 79) - (((mf 79) * (mf 67)) / 1000)) * (mf 66)) / 1000)) rfl dX10_blow_84 ?_
      refine lv_aload_n hx hb dX10_blow_85 rfl (lv_at hl 0 rfl) ?_
      refine xget (ci := 10) (C := RX10) (T := TX10) (N := 10) hx hb hts hin10 hown hK hW.1 0 rfl rfl 0 (by decide) w1 rfl dX10_blow_86 ?_
      refine lv_bipush (v := 79) hx hb dX10_blow_89 (by decide) ?_
      refine xlald hx hb hK hW.1 1 1 rfl rfl (vp_in_iff.mpr ⟨by decide, by decide⟩) 79 rfl (v := ((mf 79) - (((mf 79) * (mf 67)) / 1000)) - ((((mf 79) - (((mf 79) * (mf 67)) / 1000)) * (mf 66)) / 1000)) rfl dX10_blow_91 ?_
      refine lv_aload_n hx hb dX10_blow_92 rfl (lv_at hl 0 rfl) ?_
      refine xget (ci := 10) (C := RX10) (T := TX10) (N := 10) hx hb hts hin10 hown hK hW.1 0 rfl rfl 0 (by decide) w1 rfl dX10_blow_93 ?_
      refine lv_bipush (v := 68) hx hb dX10_blow_96 (by decide) ?_
      refine xlald hx hb hK hW.1 1 1 rfl rfl (vp_in_iff.mpr ⟨by decide, by decide⟩) 68 rfl (v := mf 68) rfl dX10_blow_98 ?_
      refine lv_lmul hx hb dX10_blow_99 ?_
      refine lv_ldc2 hx hb hown w3 dX10_blow_100 ?_
      refine lv_ldiv hx hb dX10_blow_103 ((by decide)) ?_
      refine lv_lsub hx hb dX10_blow_104 ?_
      refine xlast hx hb hK hW 1 1 rfl (Nat.le_of_ble_eq_true rfl) rfl (vp_in_iff.mpr ⟨by decide, by decide⟩) 79 rfl dX10_blow_105 (fun H locs hW => ?_)
      have hW : xW D A s.heap ([(aM, .inr (10, [.ref mA, .ref mB, .ref mC, .ref mD, .ref mE, .int pm, .int sp, .int (bi iw), .ref mF, .int rn])), (mA, .inl (cJ, 93, .inr (.inl (vp_updL (vp_updL (vp_updL mf 79 ((mf 79) - (((mf 79) * (mf 67)) / 1000))) 79 (((mf 79) - (((mf 79) * (mf 67)) / 1000)) - ((((mf 79) - (((mf 79) * (mf 67)) / 1000)) * (mf 66)) / 1000))) 79 ((((mf 79) - (((mf 79) * (mf 67)) / 1000)) - ((((mf 79) - (((mf 79) * (mf 67)) / 1000)) * (mf 66)) / 1000)) - (((((mf 79) - (((mf 79) * (mf 67)) / 1000)) - ((((mf 79) - (((mf 79) * (mf 67)) / 1000)) * (mf 66)) / 1000)) * (mf 68)) / 1000))))))] ++ []) H _ := hW
      have hF : f_X10_blow mf = vp_updL (vp_updL (vp_updL mf 79 ((mf 79) - (((mf 79) * (mf 67)) / 1000))) 79 (((mf 79) - (((mf 79) * (mf 67)) / 1000)) - ((((mf 79) - (((mf 79) * (mf 67)) / 1000)) * (mf 66)) / 1000))) 79 ((((mf 79) - (((mf 79) * (mf 67)) / 1000)) - ((((mf 79) - (((mf 79) * (mf 67)) / 1000)) * (mf 66)) / 1000)) - (((((mf 79) - (((mf 79) * (mf 67)) / 1000)) - ((((mf 79) - (((mf 79) * (mf 67)) / 1000)) * (mf 66)) / 1000)) * (mf 68)) / 1000)) := by
        rw [f_X10_blow, if_pos c1, if_pos c2]
      obtain rfl : vp_updL (vp_updL (vp_updL mf 79 ((mf 79) - (((mf 79) * (mf 67)) / 1000))) 79 (((mf 79) - (((mf 79) * (mf 67)) / 1000)) - ((((mf 79) - (((mf 79) * (mf 67)) / 1000)) * (mf 66)) / 1000))) 79 ((((mf 79) - (((mf 79) * (mf 67)) / 1000)) - ((((mf 79) - (((mf 79) * (mf 67)) / 1000)) * (mf 66)) / 1000)) - (((((mf 79) - (((mf 79) * (mf 67)) / 1000)) - ((((mf 79) - (((mf 79) * (mf 67)) / 1000)) * (mf 66)) / 1000)) * (mf 68)) / 1000)) = o := hF.symm.trans ho
      exact W.vret hx hb hrt (fun t ht hM => ⟨⟨(), rfl, trivial, ⟨by rw [ht]; exact hW.1, hW.2.1⟩⟩, hW.2.2.F ht⟩) hW.2.2.2.2 dX10_blow_106 hlocks

def f_X10_openVent (mf : Nat → Int64) : (Nat → Int64) :=
  if (mf 81) = 1 then
    vp_updL (vp_updL mf 82 (mf 82)) 81 1
  else
    vp_updL (vp_updL mf 82 0) 81 1
set_option maxHeartbeats 4000000 in
set_option maxRecDepth 100000 in
theorem c_X10_openVent (l : Launch) (D : va_G) (cI cJ cZ cB : ClassId) (sz : Nat) (aM : Nat) (mA : Nat) (mB : Nat) (mC : Nat) (mD : Nat) (mE : Nat) (pm : Int32) (sp : Int32) (iw : Bool) (mF : Nat) (rn : Int32) (mf : Nat → Int64) (o : (Nat → Int64)) (ho : f_X10_openVent mf = o) : Met l yX10_openVent wsX10_openVent ({ frames := 0, cells := 0, slots := 0, locals := 0 } : Room) (xPre D (xT cI cJ cZ cB) [.ref aM] [(aM, .inr (10, [.ref mA, .ref mB, .ref mC, .ref mD, .ref mE, .int pm, .int sp, .int (bi iw), .ref mF, .int rn])), (mA, .inl (cJ, 93, .inr (.inl mf)))] sz) (va_Qv (fun _ : Unit => True) (fun _ t => xB D ([(aM, .inr (10, [.ref mA, .ref mB, .ref mC, .ref mD, .ref mE, .int pm, .int sp, .int (bi iw), .ref mF, .int rn])), (mA, .inl (cJ, 93, .inr (.inl o)))]) (va_A [(aM, .inr (10, [.ref mA, .ref mB, .ref mC, .ref mD, .ref mE, .int pm, .int sp, .int (bi iw), .ref mF, .int rn])), (mA, .inl (cJ, 93, .inr (.inl mf)))] sz) t) (va_A [(aM, .inr (10, [.ref mA, .ref mB, .ref mC, .ref mD, .ref mE, .int pm, .int sp, .int (bi iw), .ref mF, .int rn])), (mA, .inl (cJ, 93, .inr (.inl mf)))] sz)) 0 0 (va_A [(aM, .inr (10, [.ref mA, .ref mB, .ref mC, .ref mD, .ref mE, .int pm, .int sp, .int (bi iw), .ref mF, .int rn])), (mA, .inl (cJ, 93, .inr (.inl mf)))] sz) := by
  refine xofW (Qc := fun A0 => va_Qv (fun _ : Unit => True) (fun _ t => xB D ([(aM, .inr (10, [.ref mA, .ref mB, .ref mC, .ref mD, .ref mE, .int pm, .int sp, .int (bi iw), .ref mF, .int rn])), (mA, .inl (cJ, 93, .inr (.inl o)))]) A0 t) A0) (fr := fun A => A) (cc := cX10_openVent) (maxL := 1) (ret := none) (by decide) rfl (Nat.le_of_ble_eq_true rfl) ?_
  intro p e s m below meth c A ⟨hx, hb, hml, hown, hts⟩ hrt hlocks hnm hsz hK hW hA hG ls hl
  have hown : s.vm.findClass RX10 = some m.cls := hown
  have hl : lv_has ls 1 [(0, .ref aM)] := hl
  obtain ⟨H, hH⟩ : ∃ H, H = s.heap := ⟨_, rfl⟩
  have hW : xW D A s.heap ([(aM, .inr (10, [.ref mA, .ref mB, .ref mC, .ref mD, .ref mE, .int pm, .int sp, .int (bi iw), .ref mF, .int rn])), (mA, .inl (cJ, 93, .inr (.inl mf)))] ++ []) H [] := by rw [hH]; exact hW
  have w1 := hts (.fieldLink RX10 7 "DryIceLaneModel" "at" "[J") (by decide +kernel)
  have hin10 : ∀ w ∈ u_ws RX10 TX10 10, w ∈ wsX10_openVent := by decide +kernel
  rw [← hH]
  refine lv_aload_n hx hb dX10_openVent_0 rfl (lv_at hl 0 rfl) ?_
  refine xget (ci := 10) (C := RX10) (T := TX10) (N := 10) hx hb hts hin10 hown hK hW.1 0 rfl rfl 0 (by decide) w1 rfl dX10_openVent_1 ?_
  refine lv_bipush (v := 82) hx hb dX10_openVent_4 (by decide) ?_
  refine lv_aload_n hx hb dX10_openVent_6 rfl (lv_at hl 0 rfl) ?_
  refine xget (ci := 10) (C := RX10) (T := TX10) (N := 10) hx hb hts hin10 hown hK hW.1 0 rfl rfl 0 (by decide) w1 rfl dX10_openVent_7 ?_
  refine lv_bipush (v := 81) hx hb dX10_openVent_10 (by decide) ?_
  refine xlald hx hb hK hW.1 1 1 rfl rfl (vp_in_iff.mpr ⟨by decide, by decide⟩) 81 rfl (v := mf 81) rfl dX10_openVent_12 ?_
  refine lv_lconst (v := 1) hx hb dX10_openVent_13 (by decide) ?_
  refine xlc_ne (tgt := 28) hx hb dX10_openVent_14 dX10_openVent_15 (by decide) (fun c1 => ?_) (fun c1 => ?_)
  · skip
    refine lv_lconst (v := 0) hx hb dX10_openVent_28 (by decide) ?_
    refine xlast hx hb hK hW 1 1 rfl (Nat.le_of_ble_eq_true rfl) rfl (vp_in_iff.mpr ⟨by decide, by decide⟩) 82 rfl dX10_openVent_29 (fun H locs hW => ?_)
    have hW : xW D A s.heap ([(aM, .inr (10, [.ref mA, .ref mB, .ref mC, .ref mD, .ref mE, .int pm, .int sp, .int (bi iw), .ref mF, .int rn])), (mA, .inl (cJ, 93, .inr (.inl (vp_updL mf 82 0))))] ++ []) H _ := hW
    refine lv_aload_n hx hb dX10_openVent_30 rfl (lv_at hl 0 rfl) ?_
    refine xget (ci := 10) (C := RX10) (T := TX10) (N := 10) hx hb hts hin10 hown hK hW.1 0 rfl rfl 0 (by decide) w1 rfl dX10_openVent_31 ?_
    refine lv_bipush (v := 81) hx hb dX10_openVent_34 (by decide) ?_
    refine lv_lconst (v := 1) hx hb dX10_openVent_36 (by decide) ?_
    refine xlast hx hb hK hW 1 1 rfl (Nat.le_of_ble_eq_true rfl) rfl (vp_in_iff.mpr ⟨by decide, by decide⟩) 81 rfl dX10_openVent_37 (fun H locs hW => ?_)
    have hW : xW D A s.heap ([(aM, .inr (10, [.ref mA, .ref mB, .ref mC, .ref mD, .ref mE, .int pm, .int sp, .int (bi iw), .ref mF, .int rn])), (mA, .inl (cJ, 93, .inr (.inl (vp_updL (vp_updL mf 82 0) 81 1))))] ++ []) H _ := hW
    have hF : f_X10_openVent mf = vp_updL (vp_updL mf 82 0) 81 1 := by
      rw [f_X10_openVent, if_neg c1]
    obtain rfl : vp_updL (vp_updL mf 82 0) 81 1 = o := hF.symm.trans ho
    exact W.vret hx hb hrt (fun t ht hM => ⟨⟨(), rfl, trivial, ⟨by rw [ht]; exact hW.1, hW.2.1⟩⟩, hW.2.2.F ht⟩) hW.2.2.2.2 dX10_openVent_38 hlocks
  · skip
    refine lv_aload_n hx hb dX10_openVent_18 rfl (lv_at hl 0 rfl) ?_
    refine xget (ci := 10) (C := RX10) (T := TX10) (N := 10) hx hb hts hin10 hown hK hW.1 0 rfl rfl 0 (by decide) w1 rfl dX10_openVent_19 ?_
    refine lv_bipush (v := 82) hx hb dX10_openVent_22 (by decide) ?_
    refine xlald hx hb hK hW.1 1 1 rfl rfl (vp_in_iff.mpr ⟨by decide, by decide⟩) 82 rfl (v := mf 82) rfl dX10_openVent_24 ?_
    refine lv_goto (tgt := 29) hx hb dX10_openVent_25 (by decide) ?_
    refine xlast hx hb hK hW 1 1 rfl (Nat.le_of_ble_eq_true rfl) rfl (vp_in_iff.mpr ⟨by decide, by decide⟩) 82 rfl dX10_openVent_29 (fun H locs hW => ?_)
    have hW : xW D A s.heap ([(aM, .inr (10, [.ref mA, .ref mB, .ref mC, .ref mD, .ref mE, .int pm, .int sp, .int (bi iw), .ref mF, .int rn])), (mA, .inl (cJ, 93, .inr (.inl (vp_updL mf 82 (mf 82)))))] ++ []) H _ := hW
    refine lv_aload_n hx hb dX10_openVent_30 rfl (lv_at hl 0 rfl) ?_
    refine xget (ci := 10) (C := RX10) (T := TX10) (N := 10) hx hb hts hin10 hown hK hW.1 0 rfl rfl 0 (by decide) w1 rfl dX10_openVent_31 ?_
    refine lv_bipush (v := 81) hx hb dX10_openVent_34 (by decide) ?_
    refine lv_lconst (v := 1) hx hb dX10_openVent_36 (by decide) ?_
    refine xlast hx hb hK hW 1 1 rfl (Nat.le_of_ble_eq_true rfl) rfl (vp_in_iff.mpr ⟨by decide, by decide⟩) 81 rfl dX10_openVent_37 (fun H locs hW => ?_)
    have hW : xW D A s.heap ([(aM, .inr (10, [.ref mA, .ref mB, .ref mC, .ref mD, .ref mE, .int pm, .int sp, .int (bi iw), .ref mF, .int rn])), (mA, .inl (cJ, 93, .inr (.inl (vp_updL (vp_updL mf 82 (mf 82)) 81 1))))] ++ []) H _ := hW
    have hF : f_X10_openVent mf = vp_updL (vp_updL mf 82 (mf 82)) 81 1 := by
      rw [f_X10_openVent, if_pos c1]
    obtain rfl : vp_updL (vp_updL mf 82 (mf 82)) 81 1 = o := hF.symm.trans ho
    exact W.vret hx hb hrt (fun t ht hM => ⟨⟨(), rfl, trivial, ⟨by rw [ht]; exact hW.1, hW.2.1⟩⟩, hW.2.2.F ht⟩) hW.2.2.2.2 dX10_openVent_38 hlocks

def f_X10_shutVent (mf : Nat → Int64) : (Nat → Int64) :=
  vp_updL (vp_updL mf 81 0) 82 0
set_option maxHeartbeats 4000000 in
set_option maxRecDepth 100000 in
theorem c_X10_shutVent (l : Launch) (D : va_G) (cI cJ cZ cB : ClassId) (sz : Nat) (aM : Nat) (mA : Nat) (mB : Nat) (mC : Nat) (mD : Nat) (mE : Nat) (pm : Int32) (sp : Int32) (iw : Bool) (mF : Nat) (rn : Int32) (mf : Nat → Int64) (o : (Nat → Int64)) (ho : f_X10_shutVent mf = o) : Met l yX10_shutVent wsX10_shutVent ({ frames := 0, cells := 0, slots := 0, locals := 0 } : Room) (xPre D (xT cI cJ cZ cB) [.ref aM] [(aM, .inr (10, [.ref mA, .ref mB, .ref mC, .ref mD, .ref mE, .int pm, .int sp, .int (bi iw), .ref mF, .int rn])), (mA, .inl (cJ, 93, .inr (.inl mf)))] sz) (va_Qv (fun _ : Unit => True) (fun _ t => xB D ([(aM, .inr (10, [.ref mA, .ref mB, .ref mC, .ref mD, .ref mE, .int pm, .int sp, .int (bi iw), .ref mF, .int rn])), (mA, .inl (cJ, 93, .inr (.inl o)))]) (va_A [(aM, .inr (10, [.ref mA, .ref mB, .ref mC, .ref mD, .ref mE, .int pm, .int sp, .int (bi iw), .ref mF, .int rn])), (mA, .inl (cJ, 93, .inr (.inl mf)))] sz) t) (va_A [(aM, .inr (10, [.ref mA, .ref mB, .ref mC, .ref mD, .ref mE, .int pm, .int sp, .int (bi iw), .ref mF, .int rn])), (mA, .inl (cJ, 93, .inr (.inl mf)))] sz)) 0 0 (va_A [(aM, .inr (10, [.ref mA, .ref mB, .ref mC, .ref mD, .ref mE, .int pm, .int sp, .int (bi iw), .ref mF, .int rn])), (mA, .inl (cJ, 93, .inr (.inl mf)))] sz) := by
  refine xofW (Qc := fun A0 => va_Qv (fun _ : Unit => True) (fun _ t => xB D ([(aM, .inr (10, [.ref mA, .ref mB, .ref mC, .ref mD, .ref mE, .int pm, .int sp, .int (bi iw), .ref mF, .int rn])), (mA, .inl (cJ, 93, .inr (.inl o)))]) A0 t) A0) (fr := fun A => A) (cc := cX10_shutVent) (maxL := 1) (ret := none) (by decide) rfl (Nat.le_of_ble_eq_true rfl) ?_
  intro p e s m below meth c A ⟨hx, hb, hml, hown, hts⟩ hrt hlocks hnm hsz hK hW hA hG ls hl
  have hown : s.vm.findClass RX10 = some m.cls := hown
  have hl : lv_has ls 1 [(0, .ref aM)] := hl
  obtain ⟨H, hH⟩ : ∃ H, H = s.heap := ⟨_, rfl⟩
  have hW : xW D A s.heap ([(aM, .inr (10, [.ref mA, .ref mB, .ref mC, .ref mD, .ref mE, .int pm, .int sp, .int (bi iw), .ref mF, .int rn])), (mA, .inl (cJ, 93, .inr (.inl mf)))] ++ []) H [] := by rw [hH]; exact hW
  have w1 := hts (.fieldLink RX10 7 "DryIceLaneModel" "at" "[J") (by decide +kernel)
  have hin10 : ∀ w ∈ u_ws RX10 TX10 10, w ∈ wsX10_shutVent := by decide +kernel
  rw [← hH]
  refine lv_aload_n hx hb dX10_shutVent_0 rfl (lv_at hl 0 rfl) ?_
  refine xget (ci := 10) (C := RX10) (T := TX10) (N := 10) hx hb hts hin10 hown hK hW.1 0 rfl rfl 0 (by decide) w1 rfl dX10_shutVent_1 ?_
  refine lv_bipush (v := 81) hx hb dX10_shutVent_4 (by decide) ?_
  refine lv_lconst (v := 0) hx hb dX10_shutVent_6 (by decide) ?_
  refine xlast hx hb hK hW 1 1 rfl (Nat.le_of_ble_eq_true rfl) rfl (vp_in_iff.mpr ⟨by decide, by decide⟩) 81 rfl dX10_shutVent_7 (fun H locs hW => ?_)
  have hW : xW D A s.heap ([(aM, .inr (10, [.ref mA, .ref mB, .ref mC, .ref mD, .ref mE, .int pm, .int sp, .int (bi iw), .ref mF, .int rn])), (mA, .inl (cJ, 93, .inr (.inl (vp_updL mf 81 0))))] ++ []) H _ := hW
  refine lv_aload_n hx hb dX10_shutVent_8 rfl (lv_at hl 0 rfl) ?_
  refine xget (ci := 10) (C := RX10) (T := TX10) (N := 10) hx hb hts hin10 hown hK hW.1 0 rfl rfl 0 (by decide) w1 rfl dX10_shutVent_9 ?_
  refine lv_bipush (v := 82) hx hb dX10_shutVent_12 (by decide) ?_
  refine lv_lconst (v := 0) hx hb dX10_shutVent_14 (by decide) ?_
  refine xlast hx hb hK hW 1 1 rfl (Nat.le_of_ble_eq_true rfl) rfl (vp_in_iff.mpr ⟨by decide, by decide⟩) 82 rfl dX10_shutVent_15 (fun H locs hW => ?_)
  have hW : xW D A s.heap ([(aM, .inr (10, [.ref mA, .ref mB, .ref mC, .ref mD, .ref mE, .int pm, .int sp, .int (bi iw), .ref mF, .int rn])), (mA, .inl (cJ, 93, .inr (.inl (vp_updL (vp_updL mf 81 0) 82 0))))] ++ []) H _ := hW
  have hF : f_X10_shutVent mf = vp_updL (vp_updL mf 81 0) 82 0 := by
    rw [f_X10_shutVent]
  obtain rfl : vp_updL (vp_updL mf 81 0) 82 0 = o := hF.symm.trans ho
  exact W.vret hx hb hrt (fun t ht hM => ⟨⟨(), rfl, trivial, ⟨by rw [ht]; exact hW.1, hW.2.1⟩⟩, hW.2.2.F ht⟩) hW.2.2.2.2 dX10_shutVent_16 hlocks

def f_X10_turnVent (mf : Nat → Int64) : (Nat → Int64) :=
  if (mf 80) = 1 then
    f_X10_shutVent mf
  else
    if (mf 80) = 2 then
      f_X10_openVent mf
    else
      if (mf 81) = 0 then
        if (f_X10_concentration mf).toInt64 < (mf 69) then
          mf
        else
          f_X10_openVent mf
      else
        if (mf 70) < (f_X10_concentration mf).toInt64 then
          vp_updL mf 82 ((mf 82) + 1)
        else
          if ((mf 82) + 1) < (mf 71) then
            vp_updL mf 82 ((mf 82) + 1)
          else
            f_X10_shutVent (vp_updL mf 82 ((mf 82) + 1))
set_option maxHeartbeats 4000000 in
set_option maxRecDepth 100000 in
theorem c_X10_turnVent (l : Launch) (D : va_G) (cI cJ cZ cB : ClassId) (sz : Nat) (aM : Nat) (mA : Nat) (mB : Nat) (mC : Nat) (mD : Nat) (mE : Nat) (pm : Int32) (sp : Int32) (iw : Bool) (mF : Nat) (rn : Int32) (mf : Nat → Int64) (hok : okM mf) (o : (Nat → Int64)) (ho : f_X10_turnVent mf = o) : Met l yX10_turnVent wsX10_turnVent ({ frames := 1, cells := 0, slots := 0, locals := 20 } : Room) (xPre D (xT cI cJ cZ cB) [.ref aM] [(aM, .inr (10, [.ref mA, .ref mB, .ref mC, .ref mD, .ref mE, .int pm, .int sp, .int (bi iw), .ref mF, .int rn])), (mA, .inl (cJ, 93, .inr (.inl mf)))] sz) (va_Qv (fun _ : Unit => True) (fun _ t => xB D ([(aM, .inr (10, [.ref mA, .ref mB, .ref mC, .ref mD, .ref mE, .int pm, .int sp, .int (bi iw), .ref mF, .int rn])), (mA, .inl (cJ, 93, .inr (.inl o)))]) (va_A [(aM, .inr (10, [.ref mA, .ref mB, .ref mC, .ref mD, .ref mE, .int pm, .int sp, .int (bi iw), .ref mF, .int rn])), (mA, .inl (cJ, 93, .inr (.inl mf)))] sz) t) (va_A [(aM, .inr (10, [.ref mA, .ref mB, .ref mC, .ref mD, .ref mE, .int pm, .int sp, .int (bi iw), .ref mF, .int rn])), (mA, .inl (cJ, 93, .inr (.inl mf)))] sz)) 0 0 (va_A [(aM, .inr (10, [.ref mA, .ref mB, .ref mC, .ref mD, .ref mE, .int pm, .int sp, .int (bi iw), .ref mF, .int rn])), (mA, .inl (cJ, 93, .inr (.inl mf)))] sz) := by
  refine xofW (Qc := fun A0 => va_Qv (fun _ : Unit => True) (fun _ t => xB D ([(aM, .inr (10, [.ref mA, .ref mB, .ref mC, .ref mD, .ref mE, .int pm, .int sp, .int (bi iw), .ref mF, .int rn])), (mA, .inl (cJ, 93, .inr (.inl o)))]) A0 t) A0) (fr := fun A => A) (cc := cX10_turnVent) (maxL := 2) (ret := none) (by decide) rfl (Nat.le_of_ble_eq_true rfl) ?_
  intro p e s m below meth c A ⟨hx, hb, hml, hown, hts⟩ hrt hlocks hnm hsz hK hW hA hG ls hl
  have hown : s.vm.findClass RX10 = some m.cls := hown
  have hl : lv_has ls 2 [(0, .ref aM)] := hl
  obtain ⟨H, hH⟩ : ∃ H, H = s.heap := ⟨_, rfl⟩
  have hW : xW D A s.heap ([(aM, .inr (10, [.ref mA, .ref mB, .ref mC, .ref mD, .ref mE, .int pm, .int sp, .int (bi iw), .ref mF, .int rn])), (mA, .inl (cJ, 93, .inr (.inl mf)))] ++ []) H [] := by rw [hH]; exact hW
  have w1 := hts (.fieldLink RX10 7 "DryIceLaneModel" "at" "[J") (by decide +kernel)
  have hin10 : ∀ w ∈ u_ws RX10 TX10 10, w ∈ wsX10_turnVent := by decide +kernel
  have w3 := hts (.constantLong RX10 56 (2)) (by decide +kernel)
  rw [← hH]
  refine lv_aload_n hx hb dX10_turnVent_0 rfl (lv_at hl 0 rfl) ?_
  refine vp_callSi (va_Run.run (xrunV (As := []) (rest := []) ⟨hx, hb, hml, hown, hts⟩ (c_X10_concentration l D cI cJ cZ cB H.size aM mA mB mC mD mE pm sp iw mF rn mf (by assumption) _ rfl) (cwV 0 hts gX10_turnVent_X10_concentration rfl rfl rfl (by decide +kernel) ⟨Nat.le_of_ble_eq_true rfl, Nat.le_of_ble_eq_true rfl⟩) hK hG hW.2.2 (xsubQ hW hA [0, 1] rfl (by decide)) (va_recv hK hW.1 (ci := 10) (q0 := 0) rfl rfl) rfl hl.1 rfl (Nat.le_of_ble_eq_true rfl) dX10_turnVent_1 ⟨Nat.le_of_ble_eq_true rfl, Nat.le_of_ble_eq_true rfl⟩)) (fun r1 hq => ?_)
  subst hq
  refine lv_istore_n (lv' := [(1, .int (f_X10_concentration mf)), (0, .ref aM)]) hx hb dX10_turnVent_4 rfl hl (by decide) rfl (fun ls hl => ?_)
  refine lv_aload_n hx hb dX10_turnVent_5 rfl (lv_at hl 1 rfl) ?_
  refine xget (ci := 10) (C := RX10) (T := TX10) (N := 10) hx hb hts hin10 hown hK hW.1 0 rfl rfl 0 (by decide) w1 rfl dX10_turnVent_6 ?_
  refine lv_bipush (v := 80) hx hb dX10_turnVent_9 (by decide) ?_
  refine xlald hx hb hK hW.1 1 1 rfl rfl (vp_in_iff.mpr ⟨by decide, by decide⟩) 80 rfl (v := mf 80) rfl dX10_turnVent_11 ?_
  refine lv_lconst (v := 1) hx hb dX10_turnVent_12 (by decide) ?_
  refine xlc_ne (tgt := 24) hx hb dX10_turnVent_13 dX10_turnVent_14 (by decide) (fun c1 => ?_) (fun c1 => ?_)
  · skip
    refine lv_aload_n hx hb dX10_turnVent_24 rfl (lv_at hl 1 rfl) ?_
    refine xget (ci := 10) (C := RX10) (T := TX10) (N := 10) hx hb hts hin10 hown hK hW.1 0 rfl rfl 0 (by decide) w1 rfl dX10_turnVent_25 ?_
    refine lv_bipush (v := 80) hx hb dX10_turnVent_28 (by decide) ?_
    refine xlald hx hb hK hW.1 1 1 rfl rfl (vp_in_iff.mpr ⟨by decide, by decide⟩) 80 rfl (v := mf 80) rfl dX10_turnVent_30 ?_
    refine lv_ldc2 hx hb hown w3 dX10_turnVent_31 ?_
    refine xlc_ne (tgt := 45) hx hb dX10_turnVent_34 dX10_turnVent_35 (by decide) (fun c2 => ?_) (fun c2 => ?_)
    · skip
      refine lv_aload_n hx hb dX10_turnVent_45 rfl (lv_at hl 1 rfl) ?_
      refine xget (ci := 10) (C := RX10) (T := TX10) (N := 10) hx hb hts hin10 hown hK hW.1 0 rfl rfl 0 (by decide) w1 rfl dX10_turnVent_46 ?_
      refine lv_bipush (v := 81) hx hb dX10_turnVent_49 (by decide) ?_
      refine xlald hx hb hK hW.1 1 1 rfl rfl (vp_in_iff.mpr ⟨by decide, by decide⟩) 81 rfl (v := mf 81) rfl dX10_turnVent_51 ?_
      refine lv_lconst (v := 0) hx hb dX10_turnVent_52 (by decide) ?_
      refine xlc_ne (tgt := 77) hx hb dX10_turnVent_53 dX10_turnVent_54 (by decide) (fun c3 => ?_) (fun c3 => ?_)
      · skip
        refine lv_aload_n hx hb dX10_turnVent_77 rfl (lv_at hl 1 rfl) ?_
        refine xget (ci := 10) (C := RX10) (T := TX10) (N := 10) hx hb hts hin10 hown hK hW.1 0 rfl rfl 0 (by decide) w1 rfl dX10_turnVent_78 ?_
        refine lv_bipush (v := 82) hx hb dX10_turnVent_81 (by decide) ?_
        refine lv_dup2_11 hx hb dX10_turnVent_83 rfl rfl ?_
        refine xlald hx hb hK hW.1 1 1 rfl rfl (vp_in_iff.mpr ⟨by decide, by decide⟩) 82 rfl (v := mf 82) rfl dX10_turnVent_84 ?_
        refine lv_lconst (v := 1) hx hb dX10_turnVent_85 (by decide) ?_
        refine lv_ladd hx hb dX10_turnVent_86 ?_
        refine xlast hx hb hK hW 1 1 rfl (Nat.le_of_ble_eq_true rfl) rfl (vp_in_iff.mpr ⟨by decide, by decide⟩) 82 rfl dX10_turnVent_87 (fun H locs hW => ?_)
        have hW : xW D A s.heap ([(aM, .inr (10, [.ref mA, .ref mB, .ref mC, .ref mD, .ref mE, .int pm, .int sp, .int (bi iw), .ref mF, .int rn])), (mA, .inl (cJ, 93, .inr (.inl (vp_updL mf 82 ((mf 82) + 1)))))] ++ []) H _ := hW
        refine lv_iload_n hx hb dX10_turnVent_88 rfl (lv_at hl 0 rfl) ?_
        refine lv_i2l hx hb dX10_turnVent_89 rfl ?_
        refine lv_aload_n hx hb dX10_turnVent_90 rfl (lv_at hl 1 rfl) ?_
        refine xget (ci := 10) (C := RX10) (T := TX10) (N := 10) hx hb hts hin10 hown hK hW.1 0 rfl rfl 0 (by decide) w1 rfl dX10_turnVent_91 ?_
        refine lv_bipush (v := 70) hx hb dX10_turnVent_94 (by decide) ?_
        refine xlald hx hb hK hW.1 1 1 rfl rfl (vp_in_iff.mpr ⟨by decide, by decide⟩) 70 rfl (v := mf 70) rfl dX10_turnVent_96 ?_
        refine xlc_gt (tgt := 123) hx hb dX10_turnVent_97 dX10_turnVent_98 (by decide) (fun c4 => ?_) (fun c4 => ?_)
        · skip
          have hF : f_X10_turnVent mf = vp_updL mf 82 ((mf 82) + 1) := by
            rw [f_X10_turnVent, if_neg c1, if_neg c2, if_neg c3, if_pos c4]
          obtain rfl : vp_updL mf 82 ((mf 82) + 1) = o := hF.symm.trans ho
          exact W.vret hx hb hrt (fun t ht hM => ⟨⟨(), rfl, trivial, ⟨by rw [ht]; exact hW.1, hW.2.1⟩⟩, hW.2.2.F ht⟩) hW.2.2.2.2 dX10_turnVent_123 hlocks
        · skip
          refine lv_aload_n hx hb dX10_turnVent_101 rfl (lv_at hl 1 rfl) ?_
          refine xget (ci := 10) (C := RX10) (T := TX10) (N := 10) hx hb hts hin10 hown hK hW.1 0 rfl rfl 0 (by decide) w1 rfl dX10_turnVent_102 ?_
          refine lv_bipush (v := 82) hx hb dX10_turnVent_105 (by decide) ?_
          refine xlald hx hb hK hW.1 1 1 rfl rfl (vp_in_iff.mpr ⟨by decide, by decide⟩) 82 rfl (v := (mf 82) + 1) rfl dX10_turnVent_107 ?_
          refine lv_aload_n hx hb dX10_turnVent_108 rfl (lv_at hl 1 rfl) ?_
          refine xget (ci := 10) (C := RX10) (T := TX10) (N := 10) hx hb hts hin10 hown hK hW.1 0 rfl rfl 0 (by decide) w1 rfl dX10_turnVent_109 ?_
          refine lv_bipush (v := 71) hx hb dX10_turnVent_112 (by decide) ?_
          refine xlald hx hb hK hW.1 1 1 rfl rfl (vp_in_iff.mpr ⟨by decide, by decide⟩) 71 rfl (v := mf 71) rfl dX10_turnVent_114 ?_
          refine xlc_lt (tgt := 123) hx hb dX10_turnVent_115 dX10_turnVent_116 (by decide) (fun c5 => ?_) (fun c5 => ?_)
          · skip
            have hF : f_X10_turnVent mf = vp_updL mf 82 ((mf 82) + 1) := by
              rw [f_X10_turnVent, if_neg c1, if_neg c2, if_neg c3, if_neg c4, if_pos c5]
            obtain rfl : vp_updL mf 82 ((mf 82) + 1) = o := hF.symm.trans ho
            exact W.vret hx hb hrt (fun t ht hM => ⟨⟨(), rfl, trivial, ⟨by rw [ht]; exact hW.1, hW.2.1⟩⟩, hW.2.2.F ht⟩) hW.2.2.2.2 dX10_turnVent_123 hlocks
          · skip
            refine lv_aload_n hx hb dX10_turnVent_119 rfl (lv_at hl 1 rfl) ?_
            refine xQv (wr := []) hW hA [0, 1] [] rfl rfl (by decide) (by decide) (by decide) (xrunV (As := []) (rest := []) ⟨hx, hb, hml, hown, hts⟩ (c_X10_shutVent l D cI cJ cZ cB H.size aM mA mB mC mD mE pm sp iw mF rn (vp_updL mf 82 ((mf 82) + 1)) _ rfl) (cwV 0 hts gX10_turnVent_X10_shutVent rfl rfl rfl (by decide +kernel) ⟨Nat.le_of_ble_eq_true rfl, Nat.le_of_ble_eq_true rfl⟩) hK hG hW.2.2 (xsubQ hW hA [0, 1] rfl (by decide)) (va_recv hK hW.1 (ci := 10) (q0 := 0) rfl rfl) rfl hl.1 rfl (Nat.le_of_ble_eq_true rfl) dX10_turnVent_120 ⟨Nat.le_of_ble_eq_true rfl, Nat.le_of_ble_eq_true rfl⟩) (fun _ H locs _ hW => ?_)
            have hW : xW D A s.heap ([(aM, .inr (10, [.ref mA, .ref mB, .ref mC, .ref mD, .ref mE, .int pm, .int sp, .int (bi iw), .ref mF, .int rn])), (mA, .inl (cJ, 93, .inr (.inl (f_X10_shutVent (vp_updL mf 82 ((mf 82) + 1))))))] ++ []) H _ := hW
            have hF : f_X10_turnVent mf = f_X10_shutVent (vp_updL mf 82 ((mf 82) + 1)) := by
              rw [f_X10_turnVent, if_neg c1, if_neg c2, if_neg c3, if_neg c4, if_neg c5]
            obtain rfl : f_X10_shutVent (vp_updL mf 82 ((mf 82) + 1)) = o := hF.symm.trans ho
            exact W.vret hx hb hrt (fun t ht hM => ⟨⟨(), rfl, trivial, ⟨by rw [ht]; exact hW.1, hW.2.1⟩⟩, hW.2.2.F ht⟩) hW.2.2.2.2 dX10_turnVent_123 hlocks
      · skip
        refine lv_iload_n hx hb dX10_turnVent_57 rfl (lv_at hl 0 rfl) ?_
        refine lv_i2l hx hb dX10_turnVent_58 rfl ?_
        refine lv_aload_n hx hb dX10_turnVent_59 rfl (lv_at hl 1 rfl) ?_
        refine xget (ci := 10) (C := RX10) (T := TX10) (N := 10) hx hb hts hin10 hown hK hW.1 0 rfl rfl 0 (by decide) w1 rfl dX10_turnVent_60 ?_
        refine lv_bipush (v := 69) hx hb dX10_turnVent_63 (by decide) ?_
        refine xlald hx hb hK hW.1 1 1 rfl rfl (vp_in_iff.mpr ⟨by decide, by decide⟩) 69 rfl (v := mf 69) rfl dX10_turnVent_65 ?_
        refine xlc_lt (tgt := 123) hx hb dX10_turnVent_66 dX10_turnVent_67 (by decide) (fun c4 => ?_) (fun c4 => ?_)
        · skip
          have hF : f_X10_turnVent mf = mf := by
            rw [f_X10_turnVent, if_neg c1, if_neg c2, if_pos c3, if_pos c4]
          obtain rfl : mf = o := hF.symm.trans ho
          exact W.vret hx hb hrt (fun t ht hM => ⟨⟨(), rfl, trivial, ⟨by rw [ht]; exact hW.1, hW.2.1⟩⟩, hW.2.2.F ht⟩) hW.2.2.2.2 dX10_turnVent_123 hlocks
        · skip
          refine lv_aload_n hx hb dX10_turnVent_70 rfl (lv_at hl 1 rfl) ?_
          refine xQv (wr := []) hW hA [0, 1] [] rfl rfl (by decide) (by decide) (by decide) (xrunV (As := []) (rest := []) ⟨hx, hb, hml, hown, hts⟩ (c_X10_openVent l D cI cJ cZ cB H.size aM mA mB mC mD mE pm sp iw mF rn mf _ rfl) (cwV 0 hts gX10_turnVent_X10_openVent rfl rfl rfl (by decide +kernel) ⟨Nat.le_of_ble_eq_true rfl, Nat.le_of_ble_eq_true rfl⟩) hK hG hW.2.2 (xsubQ hW hA [0, 1] rfl (by decide)) (va_recv hK hW.1 (ci := 10) (q0 := 0) rfl rfl) rfl hl.1 rfl (Nat.le_of_ble_eq_true rfl) dX10_turnVent_71 ⟨Nat.le_of_ble_eq_true rfl, Nat.le_of_ble_eq_true rfl⟩) (fun _ H locs _ hW => ?_)
          have hW : xW D A s.heap ([(aM, .inr (10, [.ref mA, .ref mB, .ref mC, .ref mD, .ref mE, .int pm, .int sp, .int (bi iw), .ref mF, .int rn])), (mA, .inl (cJ, 93, .inr (.inl (f_X10_openVent mf))))] ++ []) H _ := hW
          refine lv_goto (tgt := 123) hx hb dX10_turnVent_74 (by decide) ?_
          have hF : f_X10_turnVent mf = f_X10_openVent mf := by
            rw [f_X10_turnVent, if_neg c1, if_neg c2, if_pos c3, if_neg c4]
          obtain rfl : f_X10_openVent mf = o := hF.symm.trans ho
          exact W.vret hx hb hrt (fun t ht hM => ⟨⟨(), rfl, trivial, ⟨by rw [ht]; exact hW.1, hW.2.1⟩⟩, hW.2.2.F ht⟩) hW.2.2.2.2 dX10_turnVent_123 hlocks
    · skip
      refine lv_aload_n hx hb dX10_turnVent_38 rfl (lv_at hl 1 rfl) ?_
      refine xQv (wr := []) hW hA [0, 1] [] rfl rfl (by decide) (by decide) (by decide) (xrunV (As := []) (rest := []) ⟨hx, hb, hml, hown, hts⟩ (c_X10_openVent l D cI cJ cZ cB H.size aM mA mB mC mD mE pm sp iw mF rn mf _ rfl) (cwV 0 hts gX10_turnVent_X10_openVent rfl rfl rfl (by decide +kernel) ⟨Nat.le_of_ble_eq_true rfl, Nat.le_of_ble_eq_true rfl⟩) hK hG hW.2.2 (xsubQ hW hA [0, 1] rfl (by decide)) (va_recv hK hW.1 (ci := 10) (q0 := 0) rfl rfl) rfl hl.1 rfl (Nat.le_of_ble_eq_true rfl) dX10_turnVent_39 ⟨Nat.le_of_ble_eq_true rfl, Nat.le_of_ble_eq_true rfl⟩) (fun _ H locs _ hW => ?_)
      have hW : xW D A s.heap ([(aM, .inr (10, [.ref mA, .ref mB, .ref mC, .ref mD, .ref mE, .int pm, .int sp, .int (bi iw), .ref mF, .int rn])), (mA, .inl (cJ, 93, .inr (.inl (f_X10_openVent mf))))] ++ []) H _ := hW
      refine lv_goto (tgt := 123) hx hb dX10_turnVent_42 (by decide) ?_
      have hF : f_X10_turnVent mf = f_X10_openVent mf := by
        rw [f_X10_turnVent, if_neg c1, if_pos c2]
      obtain rfl : f_X10_openVent mf = o := hF.symm.trans ho
      exact W.vret hx hb hrt (fun t ht hM => ⟨⟨(), rfl, trivial, ⟨by rw [ht]; exact hW.1, hW.2.1⟩⟩, hW.2.2.F ht⟩) hW.2.2.2.2 dX10_turnVent_123 hlocks
  · skip
    refine lv_aload_n hx hb dX10_turnVent_17 rfl (lv_at hl 1 rfl) ?_
    refine xQv (wr := []) hW hA [0, 1] [] rfl rfl (by decide) (by decide) (by decide) (xrunV (As := []) (rest := []) ⟨hx, hb, hml, hown, hts⟩ (c_X10_shutVent l D cI cJ cZ cB H.size aM mA mB mC mD mE pm sp iw mF rn mf _ rfl) (cwV 0 hts gX10_turnVent_X10_shutVent rfl rfl rfl (by decide +kernel) ⟨Nat.le_of_ble_eq_true rfl, Nat.le_of_ble_eq_true rfl⟩) hK hG hW.2.2 (xsubQ hW hA [0, 1] rfl (by decide)) (va_recv hK hW.1 (ci := 10) (q0 := 0) rfl rfl) rfl hl.1 rfl (Nat.le_of_ble_eq_true rfl) dX10_turnVent_18 ⟨Nat.le_of_ble_eq_true rfl, Nat.le_of_ble_eq_true rfl⟩) (fun _ H locs _ hW => ?_)
    have hW : xW D A s.heap ([(aM, .inr (10, [.ref mA, .ref mB, .ref mC, .ref mD, .ref mE, .int pm, .int sp, .int (bi iw), .ref mF, .int rn])), (mA, .inl (cJ, 93, .inr (.inl (f_X10_shutVent mf))))] ++ []) H _ := hW
    refine lv_goto (tgt := 123) hx hb dX10_turnVent_21 (by decide) ?_
    have hF : f_X10_turnVent mf = f_X10_shutVent mf := by
      rw [f_X10_turnVent, if_pos c1]
    obtain rfl : f_X10_shutVent mf = o := hF.symm.trans ho
    exact W.vret hx hb hrt (fun t ht hM => ⟨⟨(), rfl, trivial, ⟨by rw [ht]; exact hW.1, hW.2.1⟩⟩, hW.2.2.F ht⟩) hW.2.2.2.2 dX10_turnVent_123 hlocks

/-- what a minute's first steps leave as it was -/
def xkm (j : Nat) : Bool := !(j == 78 || j == 79 || j == 81 || j == 82 || j == 90 || (decide (j < 40) && (j % 4 == 2 || j % 4 == 3)))
def xsm (K : Nat → Bool) (f g : Nat → Int64) : Prop := ∀ j, K j = true → g j = f j
theorem xsm_r {K : Nat → Bool} {f : Nat → Int64} : xsm K f f := fun _ _ => rfl
theorem xsm_t {K : Nat → Bool} {f g h : Nat → Int64} (a : xsm K f g) (b : xsm K g h) : xsm K f h := fun j hj => (b j hj).trans (a j hj)
theorem xsm_u {K : Nat → Bool} {f g : Nat → Int64} {k : Nat} {v : Int64} (hk : K k = false) (h : xsm K f g) : xsm K f (vp_updL g k v) :=
  fun j hj => (uL_ne fun q => by rw [q, hk] at hj; cases hj).trans (h j hj)
theorem xsm_w {K K' : Nat → Bool} {f g : Nat → Int64} (h : xsm K f g) (hk : ∀ j, K' j = true → K j = true) : xsm K' f g := fun j hj => h j (hk j hj)
theorem xkey_km {j : Nat} (h : xkey j = true) : xkm j = true := by
  simp only [xkey, Bool.or_eq_true, Bool.and_eq_true, beq_iff_eq, decide_eq_true_eq] at h
  simp only [xkm, Bool.not_eq_true', Bool.or_eq_false_iff, Bool.and_eq_false_iff, beq_eq_false_iff_ne, decide_eq_false_iff_not]
  omega
theorem okM_sm {f g : Nat → Int64} (h : okM f) (e : xsm xkm f g) : okM g := okM_ag h fun j hj => e j (xkey_km hj)
theorem xkm_f {n : Nat} (h : n < 10) : xkm (4 * n + 2) = false ∧ xkm (4 * n + 3) = false := by
  rcases (show n = 0 ∨ n = 1 ∨ n = 2 ∨ n = 3 ∨ n = 4 ∨ n = 5 ∨ n = 6 ∨ n = 7 ∨ n = 8 ∨ n = 9 by omega) with rfl | rfl | rfl | rfl | rfl | rfl | rfl | rfl | rfl | rfl <;> exact ⟨rfl, rfl⟩
theorem xsm_lay {f g : Nat → Int64} {a k : Int32} {v : Int64} (ha : 0 ≤ a.toInt ∧ a.toInt < 10) (hk : k = 2 ∨ k = 3) (h : xsm xkm f g) : xsm xkm f (f_X10_lay a k v g) := by
  unfold f_X10_lay
  refine xsm_u ?_ h
  have h1 := xkm_f (n := a.toInt.toNat) (by omega)
  rcases hk with rfl | rfl
  · rw [ix_n ha ⟨by decide, by decide⟩]; exact h1.1
  · rw [ix_n ha ⟨by decide, by decide⟩]; exact h1.2
theorem okB_sm {f g : Nat → Int64} (h : okB f) (e : xsm xkm f g) : okB g := okB_u (e 75 rfl) h
theorem sm_goOff_lp : ∀ (n : Nat) (ya : Int64) (xi : Int32) (f yf : Nat → Int64), okB f → xsm xkm f yf → 0 ≤ xi.toInt → (10 - xi.toInt).toNat < n → xsm xkm f (f_X10_goOff_lp4 n ya xi yf).2 := by
  intro n
  induction n with
  | zero => intro ya xi f yf _ _ _ h; exact absurd h (Nat.not_lt_zero _)
  | succ n ih =>
    intro ya xi f yf hf h h0 hm
    rw [f_X10_goOff_lp4]
    by_cases c : f_X10_boxes yf ≤ xi
    · rw [if_pos c]; exact xsm_u rfl (xsm_u rfl h)
    · rw [if_neg c]
      have hx := bx_tn (okB_sm hf h) h0 c
      have h5 := fun v w => xsm_lay (v := v) hx (Or.inr rfl) (xsm_lay (v := w) hx (Or.inl rfl) h)
      split
      · exact ih _ _ f _ hf (h5 _ _) (ten_up hx).1 (ten_mu hx hm)
      · exact ih _ _ f _ hf (h5 _ _) (ten_up hx).1 (ten_mu hx hm)
theorem sm_goOff {f : Nat → Int64} (h : okB f) : xsm xkm f (f_X10_goOff f).2 := by
  unfold f_X10_goOff
  exact sm_goOff_lp _ _ _ f f h xsm_r (by decide) (Nat.lt_succ_self _)
theorem sm_warm {a : Int64} {f : Nat → Int64} : xsm xkm f (f_X10_warm a f) := by
  unfold f_X10_warm
  repeat' split
  all_goals repeat' first | exact xsm_r | refine xsm_u rfl ?_
theorem sm_blow {f : Nat → Int64} : xsm xkm f (f_X10_blow f) := by
  unfold f_X10_blow
  repeat' split
  all_goals repeat' first | exact xsm_r | refine xsm_u rfl ?_
theorem sm_openVent {f : Nat → Int64} : xsm xkm f (f_X10_openVent f) := by
  unfold f_X10_openVent
  repeat' split
  all_goals repeat' first | exact xsm_r | refine xsm_u rfl ?_
theorem sm_shutVent {f : Nat → Int64} : xsm xkm f (f_X10_shutVent f) := by
  unfold f_X10_shutVent
  repeat' first | exact xsm_r | refine xsm_u rfl ?_
theorem sm_turnVent {f : Nat → Int64} : xsm xkm f (f_X10_turnVent f) := by
  unfold f_X10_turnVent
  repeat' split
  all_goals repeat' first | exact xsm_r | exact sm_openVent | exact sm_shutVent | exact xsm_t (xsm_u rfl xsm_r) sm_shutVent | refine xsm_u rfl ?_

def f_X10_makeMinute_k4 (o5_ : (Nat → Int64)) : (Nat → Int64) :=
  if (f_X10_isDoorOpen o5_) = true then
    if (f_X10_concentration o5_).toInt64 < (o5_ 72) then
      if (f_X10_isAway (vp_updL (vp_updL o5_ 87 ((o5_ 87) + 0)) 77 ((o5_ 77) + 1))) = true then
        if ((o5_ 85) + 1) = ((vp_updL (vp_updL (vp_updL o5_ 87 ((o5_ 87) + 0)) 77 ((o5_ 77) + 1)) 85 ((o5_ 85) + 1)) (40 + (2 * (o5_ 84).toInt32)).toNatClampNeg) then
          vp_updL (vp_updL (vp_updL (vp_updL o5_ 87 ((o5_ 87) + 0)) 77 ((o5_ 77) + 1)) 85 ((o5_ 85) + 1)) 86 0
        else
          vp_updL (vp_updL (vp_updL (vp_updL o5_ 87 ((o5_ 87) + 0)) 77 ((o5_ 77) + 1)) 85 ((o5_ 85) + 1)) 86 1
      else
        vp_updL (vp_updL o5_ 87 ((o5_ 87) + 0)) 77 ((o5_ 77) + 1)
    else
      if (f_X10_isAway (vp_updL (vp_updL o5_ 87 ((o5_ 87) + 1)) 77 ((o5_ 77) + 1))) = true then
        if ((o5_ 85) + 1) = ((vp_updL (vp_updL (vp_updL o5_ 87 ((o5_ 87) + 1)) 77 ((o5_ 77) + 1)) 85 ((o5_ 85) + 1)) (40 + (2 * (o5_ 84).toInt32)).toNatClampNeg) then
          vp_updL (vp_updL (vp_updL (vp_updL o5_ 87 ((o5_ 87) + 1)) 77 ((o5_ 77) + 1)) 85 ((o5_ 85) + 1)) 86 0
        else
          vp_updL (vp_updL (vp_updL (vp_updL o5_ 87 ((o5_ 87) + 1)) 77 ((o5_ 77) + 1)) 85 ((o5_ 85) + 1)) 86 1
      else
        vp_updL (vp_updL o5_ 87 ((o5_ 87) + 1)) 77 ((o5_ 77) + 1)
  else
    if (f_X10_isAway (vp_updL (vp_updL o5_ 87 ((o5_ 87) + 0)) 77 ((o5_ 77) + 1))) = true then
      if ((o5_ 85) + 1) = ((vp_updL (vp_updL (vp_updL o5_ 87 ((o5_ 87) + 0)) 77 ((o5_ 77) + 1)) 85 ((o5_ 85) + 1)) (40 + (2 * (o5_ 84).toInt32)).toNatClampNeg) then
        vp_updL (vp_updL (vp_updL (vp_updL o5_ 87 ((o5_ 87) + 0)) 77 ((o5_ 77) + 1)) 85 ((o5_ 85) + 1)) 86 0
      else
        vp_updL (vp_updL (vp_updL (vp_updL o5_ 87 ((o5_ 87) + 0)) 77 ((o5_ 77) + 1)) 85 ((o5_ 85) + 1)) 86 1
    else
      vp_updL (vp_updL o5_ 87 ((o5_ 87) + 0)) 77 ((o5_ 77) + 1)
def f_X10_makeMinute_k3 (o4_ : (Nat → Int64)) : (Nat → Int64) :=
  f_X10_makeMinute_k4 (f_X10_turnVent o4_)
def f_X10_makeMinute_k2 (o3_ : (Nat → Int64)) : (Nat → Int64) :=
  f_X10_makeMinute_k3 (f_X10_blow o3_)
def f_X10_makeMinute_k1 (o1_ : Int64 × (Nat → Int64)) : (Nat → Int64) :=
  f_X10_makeMinute_k2 (f_X10_warm o1_.1 o1_.2)
def f_X10_makeMinute (mf : Nat → Int64) : (Nat → Int64) :=
  f_X10_makeMinute_k1 (f_X10_goOff mf)
set_option maxHeartbeats 4000000 in
set_option maxRecDepth 100000 in
theorem c_X10_makeMinute (l : Launch) (D : va_G) (cI cJ cZ cB : ClassId) (sz : Nat) (aM : Nat) (mA : Nat) (mB : Nat) (mC : Nat) (mD : Nat) (mE : Nat) (pm : Int32) (sp : Int32) (iw : Bool) (mF : Nat) (rn : Int32) (mf : Nat → Int64) (hok : okM mf) (o : (Nat → Int64)) (ho : f_X10_makeMinute mf = o) : Met l yX10_makeMinute wsX10_makeMinute ({ frames := 3, cells := 0, slots := 0, locals := 72 } : Room) (xPre D (xT cI cJ cZ cB) [.ref aM] [(aM, .inr (10, [.ref mA, .ref mB, .ref mC, .ref mD, .ref mE, .int pm, .int sp, .int (bi iw), .ref mF, .int rn])), (mA, .inl (cJ, 93, .inr (.inl mf)))] sz) (va_Qv (fun _ : Unit => True) (fun _ t => xB D ([(aM, .inr (10, [.ref mA, .ref mB, .ref mC, .ref mD, .ref mE, .int pm, .int sp, .int (bi iw), .ref mF, .int rn])), (mA, .inl (cJ, 93, .inr (.inl o)))]) (va_A [(aM, .inr (10, [.ref mA, .ref mB, .ref mC, .ref mD, .ref mE, .int pm, .int sp, .int (bi iw), .ref mF, .int rn])), (mA, .inl (cJ, 93, .inr (.inl mf)))] sz) t) (va_A [(aM, .inr (10, [.ref mA, .ref mB, .ref mC, .ref mD, .ref mE, .int pm, .int sp, .int (bi iw), .ref mF, .int rn])), (mA, .inl (cJ, 93, .inr (.inl mf)))] sz)) 0 0 (va_A [(aM, .inr (10, [.ref mA, .ref mB, .ref mC, .ref mD, .ref mE, .int pm, .int sp, .int (bi iw), .ref mF, .int rn])), (mA, .inl (cJ, 93, .inr (.inl mf)))] sz) := by
  refine xofW (Qc := fun A0 => va_Qv (fun _ : Unit => True) (fun _ t => xB D ([(aM, .inr (10, [.ref mA, .ref mB, .ref mC, .ref mD, .ref mE, .int pm, .int sp, .int (bi iw), .ref mF, .int rn])), (mA, .inl (cJ, 93, .inr (.inl o)))]) A0 t) A0) (fr := fun A => A) (cc := cX10_makeMinute) (maxL := 1) (ret := none) (by decide) rfl (Nat.le_of_ble_eq_true rfl) ?_
  intro p e s m below meth c A ⟨hx, hb, hml, hown, hts⟩ hrt hlocks hnm hsz hK hW hA hG ls hl
  have hown : s.vm.findClass RX10 = some m.cls := hown
  have hl : lv_has ls 1 [(0, .ref aM)] := hl
  obtain ⟨H, hH⟩ : ∃ H, H = s.heap := ⟨_, rfl⟩
  have hW : xW D A s.heap ([(aM, .inr (10, [.ref mA, .ref mB, .ref mC, .ref mD, .ref mE, .int pm, .int sp, .int (bi iw), .ref mF, .int rn])), (mA, .inl (cJ, 93, .inr (.inl mf)))] ++ []) H [] := by rw [hH]; exact hW
  have w1 := hts (.fieldLink RX10 7 "DryIceLaneModel" "at" "[J") (by decide +kernel)
  have hin10 : ∀ w ∈ u_ws RX10 TX10 10, w ∈ wsX10_makeMinute := by decide +kernel
  rw [← hH]
  refine lv_aload_n hx hb dX10_makeMinute_0 rfl (lv_at hl 0 rfl) ?_
  refine lv_aload_n hx hb dX10_makeMinute_1 rfl (lv_at hl 0 rfl) ?_
  obtain ⟨o1_, eo1_⟩ : ∃ z9, f_X10_goOff mf = z9 := ⟨_, rfl⟩
  refine xQl (wr := []) hW hA [0, 1] [] rfl rfl (by decide) (by decide) (by decide) (xrunV (As := []) (rest := [.ref aM]) ⟨hx, hb, hml, hown, hts⟩ (c_X10_goOff l D cI cJ cZ cB H.size aM mA mB mC mD mE pm sp iw mF rn mf (by assumption) o1_ eo1_) (cwV 0 hts gX10_makeMinute_X10_goOff rfl rfl rfl (by decide +kernel) ⟨Nat.le_of_ble_eq_true rfl, Nat.le_of_ble_eq_true rfl⟩) hK hG hW.2.2 (xsubQ hW hA [0, 1] rfl (by decide)) (va_recv hK hW.1 (ci := 10) (q0 := 0) rfl rfl) rfl hl.1 rfl (Nat.le_of_ble_eq_true rfl) dX10_makeMinute_2 ⟨Nat.le_of_ble_eq_true rfl, Nat.le_of_ble_eq_true rfl⟩) (fun r2 _ H locs hq hW => ?_)
  subst hq
  have hW : xW D A s.heap ([(aM, .inr (10, [.ref mA, .ref mB, .ref mC, .ref mD, .ref mE, .int pm, .int sp, .int (bi iw), .ref mF, .int rn])), (mA, .inl (cJ, 93, .inr (.inl o1_.2)))] ++ []) H _ := hW
  have hF : f_X10_makeMinute mf = f_X10_makeMinute_k1 o1_ := by
    rw [f_X10_makeMinute, eo1_]
  have hK1 := hF.symm.trans ho
  have hokA : okM o1_.2 := by rw [← eo1_]; exact okM_sm hok (sm_goOff (okM_B hok))
  obtain ⟨o3_, eo3_⟩ : ∃ z9, f_X10_warm o1_.1 o1_.2 = z9 := ⟨_, rfl⟩
  refine xQv (wr := []) hW hA [0, 1] [] rfl rfl (by decide) (by decide) (by decide) (xrunV (As := [.long o1_.1]) (rest := []) ⟨hx, hb, hml, hown, hts⟩ (c_X10_warm l D cI cJ cZ cB H.size aM mA o1_.1 mB mC mD mE pm sp iw mF rn o1_.2 (hokA) o3_ eo3_) (cwV 1 hts gX10_makeMinute_X10_warm rfl rfl rfl (by decide +kernel) ⟨Nat.le_of_ble_eq_true rfl, Nat.le_of_ble_eq_true rfl⟩) hK hG hW.2.2 (xsubQ hW hA [0, 1] rfl (by decide)) (va_recv hK hW.1 (ci := 10) (q0 := 0) rfl rfl) rfl hl.1 rfl (Nat.le_of_ble_eq_true rfl) dX10_makeMinute_5 ⟨Nat.le_of_ble_eq_true rfl, Nat.le_of_ble_eq_true rfl⟩) (fun _ H locs _ hW => ?_)
  have hW : xW D A s.heap ([(aM, .inr (10, [.ref mA, .ref mB, .ref mC, .ref mD, .ref mE, .int pm, .int sp, .int (bi iw), .ref mF, .int rn])), (mA, .inl (cJ, 93, .inr (.inl o3_)))] ++ []) H _ := hW
  have hF : f_X10_makeMinute_k1 o1_ = f_X10_makeMinute_k2 o3_ := by
    rw [f_X10_makeMinute_k1, eo3_]
  have hK2 := hF.symm.trans hK1
  have hokB : okM o3_ := by rw [← eo3_]; exact okM_sm hokA sm_warm
  refine lv_aload_n hx hb dX10_makeMinute_8 rfl (lv_at hl 0 rfl) ?_
  obtain ⟨o4_, eo4_⟩ : ∃ z9, f_X10_blow o3_ = z9 := ⟨_, rfl⟩
  refine xQv (wr := []) hW hA [0, 1] [] rfl rfl (by decide) (by decide) (by decide) (xrunV (As := []) (rest := []) ⟨hx, hb, hml, hown, hts⟩ (c_X10_blow l D cI cJ cZ cB H.size aM mA mB mC mD mE pm sp iw mF rn o3_ o4_ eo4_) (cwV 0 hts gX10_makeMinute_X10_blow rfl rfl rfl (by decide +kernel) ⟨Nat.le_of_ble_eq_true rfl, Nat.le_of_ble_eq_true rfl⟩) hK hG hW.2.2 (xsubQ hW hA [0, 1] rfl (by decide)) (va_recv hK hW.1 (ci := 10) (q0 := 0) rfl rfl) rfl hl.1 rfl (Nat.le_of_ble_eq_true rfl) dX10_makeMinute_9 ⟨Nat.le_of_ble_eq_true rfl, Nat.le_of_ble_eq_true rfl⟩) (fun _ H locs _ hW => ?_)
  have hW : xW D A s.heap ([(aM, .inr (10, [.ref mA, .ref mB, .ref mC, .ref mD, .ref mE, .int pm, .int sp, .int (bi iw), .ref mF, .int rn])), (mA, .inl (cJ, 93, .inr (.inl o4_)))] ++ []) H _ := hW
  have hF : f_X10_makeMinute_k2 o3_ = f_X10_makeMinute_k3 o4_ := by
    rw [f_X10_makeMinute_k2, eo4_]
  have hK3 := hF.symm.trans hK2
  have hokC : okM o4_ := by rw [← eo4_]; exact okM_sm hokB sm_blow
  refine lv_aload_n hx hb dX10_makeMinute_12 rfl (lv_at hl 0 rfl) ?_
  obtain ⟨o5_, eo5_⟩ : ∃ z9, f_X10_turnVent o4_ = z9 := ⟨_, rfl⟩
  refine xQv (wr := []) hW hA [0, 1] [] rfl rfl (by decide) (by decide) (by decide) (xrunV (As := []) (rest := []) ⟨hx, hb, hml, hown, hts⟩ (c_X10_turnVent l D cI cJ cZ cB H.size aM mA mB mC mD mE pm sp iw mF rn o4_ (hokC) o5_ eo5_) (cwV 0 hts gX10_makeMinute_X10_turnVent rfl rfl rfl (by decide +kernel) ⟨Nat.le_of_ble_eq_true rfl, Nat.le_of_ble_eq_true rfl⟩) hK hG hW.2.2 (xsubQ hW hA [0, 1] rfl (by decide)) (va_recv hK hW.1 (ci := 10) (q0 := 0) rfl rfl) rfl hl.1 rfl (Nat.le_of_ble_eq_true rfl) dX10_makeMinute_13 ⟨Nat.le_of_ble_eq_true rfl, Nat.le_of_ble_eq_true rfl⟩) (fun _ H locs _ hW => ?_)
  have hW : xW D A s.heap ([(aM, .inr (10, [.ref mA, .ref mB, .ref mC, .ref mD, .ref mE, .int pm, .int sp, .int (bi iw), .ref mF, .int rn])), (mA, .inl (cJ, 93, .inr (.inl o5_)))] ++ []) H _ := hW
  have hF : f_X10_makeMinute_k3 o4_ = f_X10_makeMinute_k4 o5_ := by
    rw [f_X10_makeMinute_k3, eo5_]
  have hK4 := hF.symm.trans hK3
  have hokD : okM o5_ := by rw [← eo5_]; exact okM_sm hokC sm_turnVent
  refine lv_aload_n hx hb dX10_makeMinute_16 rfl (lv_at hl 0 rfl) ?_
  refine xget (ci := 10) (C := RX10) (T := TX10) (N := 10) hx hb hts hin10 hown hK hW.1 0 rfl rfl 0 (by decide) w1 rfl dX10_makeMinute_17 ?_
  refine lv_bipush (v := 87) hx hb dX10_makeMinute_20 (by decide) ?_
  refine lv_dup2_11 hx hb dX10_makeMinute_22 rfl rfl ?_
  refine xlald hx hb hK hW.1 1 1 rfl rfl (vp_in_iff.mpr ⟨by decide, by decide⟩) 87 rfl (v := o5_ 87) rfl dX10_makeMinute_23 ?_
  refine lv_aload_n hx hb dX10_makeMinute_24 rfl (lv_at hl 0 rfl) ?_
  refine vp_callSi (va_Run.run (xrunV (As := []) (rest := [.long (o5_ 87), .int 87, .ref mA]) ⟨hx, hb, hml, hown, hts⟩ (c_X10_isDoorOpen l D cI cJ cZ cB H.size aM mA mB mC mD mE pm sp iw mF rn o5_ _ rfl) (cwV 0 hts gX10_makeMinute_X10_isDoorOpen rfl rfl rfl (by decide +kernel) ⟨Nat.le_of_ble_eq_true rfl, Nat.le_of_ble_eq_true rfl⟩) hK hG hW.2.2 (xsubQ hW hA [0, 1] rfl (by decide)) (va_recv hK hW.1 (ci := 10) (q0 := 0) rfl rfl) rfl hl.1 rfl (Nat.le_of_ble_eq_true rfl) dX10_makeMinute_25 ⟨Nat.le_of_ble_eq_true rfl, Nat.le_of_ble_eq_true rfl⟩)) (fun r6 hq => ?_)
  subst hq
  refine xb_eq (tgt := 51) hx hb dX10_makeMinute_28 (by decide) (fun c1 => ?_) (fun c1 => ?_)
  · skip
    refine lv_lconst (v := 0) hx hb dX10_makeMinute_51 (by decide) ?_
    refine lv_ladd hx hb dX10_makeMinute_52 ?_
    refine xlast hx hb hK hW 1 1 rfl (Nat.le_of_ble_eq_true rfl) rfl (vp_in_iff.mpr ⟨by decide, by decide⟩) 87 rfl dX10_makeMinute_53 (fun H locs hW => ?_)
    have hW : xW D A s.heap ([(aM, .inr (10, [.ref mA, .ref mB, .ref mC, .ref mD, .ref mE, .int pm, .int sp, .int (bi iw), .ref mF, .int rn])), (mA, .inl (cJ, 93, .inr (.inl (vp_updL o5_ 87 ((o5_ 87) + 0)))))] ++ []) H _ := hW
    refine lv_aload_n hx hb dX10_makeMinute_54 rfl (lv_at hl 0 rfl) ?_
    refine xget (ci := 10) (C := RX10) (T := TX10) (N := 10) hx hb hts hin10 hown hK hW.1 0 rfl rfl 0 (by decide) w1 rfl dX10_makeMinute_55 ?_
    refine lv_bipush (v := 77) hx hb dX10_makeMinute_58 (by decide) ?_
    refine lv_dup2_11 hx hb dX10_makeMinute_60 rfl rfl ?_
    refine xlald hx hb hK hW.1 1 1 rfl rfl (vp_in_iff.mpr ⟨by decide, by decide⟩) 77 rfl (v := o5_ 77) rfl dX10_makeMinute_61 ?_
    refine lv_lconst (v := 1) hx hb dX10_makeMinute_62 (by decide) ?_
    refine lv_ladd hx hb dX10_makeMinute_63 ?_
    refine xlast hx hb hK hW 1 1 rfl (Nat.le_of_ble_eq_true rfl) rfl (vp_in_iff.mpr ⟨by decide, by decide⟩) 77 rfl dX10_makeMinute_64 (fun H locs hW => ?_)
    have hW : xW D A s.heap ([(aM, .inr (10, [.ref mA, .ref mB, .ref mC, .ref mD, .ref mE, .int pm, .int sp, .int (bi iw), .ref mF, .int rn])), (mA, .inl (cJ, 93, .inr (.inl (vp_updL (vp_updL o5_ 87 ((o5_ 87) + 0)) 77 ((o5_ 77) + 1)))))] ++ []) H _ := hW
    refine lv_aload_n hx hb dX10_makeMinute_65 rfl (lv_at hl 0 rfl) ?_
    refine vp_callSi (va_Run.run (xrunV (As := []) (rest := []) ⟨hx, hb, hml, hown, hts⟩ (c_X10_isAway l D cI cJ cZ cB H.size aM mA mB mC mD mE pm sp iw mF rn (vp_updL (vp_updL o5_ 87 ((o5_ 87) + 0)) 77 ((o5_ 77) + 1)) _ rfl) (cwV 0 hts gX10_makeMinute_X10_isAway rfl rfl rfl (by decide +kernel) ⟨Nat.le_of_ble_eq_true rfl, Nat.le_of_ble_eq_true rfl⟩) hK hG hW.2.2 (xsubQ hW hA [0, 1] rfl (by decide)) (va_recv hK hW.1 (ci := 10) (q0 := 0) rfl rfl) rfl hl.1 rfl (Nat.le_of_ble_eq_true rfl) dX10_makeMinute_66 ⟨Nat.le_of_ble_eq_true rfl, Nat.le_of_ble_eq_true rfl⟩)) (fun r7 hq => ?_)
    subst hq
    refine xb_eq (tgt := 124) hx hb dX10_makeMinute_69 (by decide) (fun c2 => ?_) (fun c2 => ?_)
    · skip
      have hF : f_X10_makeMinute_k4 o5_ = vp_updL (vp_updL o5_ 87 ((o5_ 87) + 0)) 77 ((o5_ 77) + 1) := by
        rw [f_X10_makeMinute_k4, if_neg c1, if_neg c2]
      obtain rfl : vp_updL (vp_updL o5_ 87 ((o5_ 87) + 0)) 77 ((o5_ 77) + 1) = o := hF.symm.trans hK4
      exact W.vret hx hb hrt (fun t ht hM => ⟨⟨(), rfl, trivial, ⟨by rw [ht]; exact hW.1, hW.2.1⟩⟩, hW.2.2.F ht⟩) hW.2.2.2.2 dX10_makeMinute_124 hlocks
    · skip
      refine lv_aload_n hx hb dX10_makeMinute_72 rfl (lv_at hl 0 rfl) ?_
      refine xget (ci := 10) (C := RX10) (T := TX10) (N := 10) hx hb hts hin10 hown hK hW.1 0 rfl rfl 0 (by decide) w1 rfl dX10_makeMinute_73 ?_
      refine lv_bipush (v := 85) hx hb dX10_makeMinute_76 (by decide) ?_
      refine lv_dup2_11 hx hb dX10_makeMinute_78 rfl rfl ?_
      refine xlald hx hb hK hW.1 1 1 rfl rfl (vp_in_iff.mpr ⟨by decide, by decide⟩) 85 rfl (v := o5_ 85) rfl dX10_makeMinute_79 ?_
      refine lv_lconst (v := 1) hx hb dX10_makeMinute_80 (by decide) ?_
      refine lv_ladd hx hb dX10_makeMinute_81 ?_
      refine xlast hx hb hK hW 1 1 rfl (Nat.le_of_ble_eq_true rfl) rfl (vp_in_iff.mpr ⟨by decide, by decide⟩) 85 rfl dX10_makeMinute_82 (fun H locs hW => ?_)
      have hW : xW D A s.heap ([(aM, .inr (10, [.ref mA, .ref mB, .ref mC, .ref mD, .ref mE, .int pm, .int sp, .int (bi iw), .ref mF, .int rn])), (mA, .inl (cJ, 93, .inr (.inl (vp_updL (vp_updL (vp_updL o5_ 87 ((o5_ 87) + 0)) 77 ((o5_ 77) + 1)) 85 ((o5_ 85) + 1)))))] ++ []) H _ := hW
      refine lv_aload_n hx hb dX10_makeMinute_83 rfl (lv_at hl 0 rfl) ?_
      refine xget (ci := 10) (C := RX10) (T := TX10) (N := 10) hx hb hts hin10 hown hK hW.1 0 rfl rfl 0 (by decide) w1 rfl dX10_makeMinute_84 ?_
      refine lv_bipush (v := 86) hx hb dX10_makeMinute_87 (by decide) ?_
      refine lv_aload_n hx hb dX10_makeMinute_89 rfl (lv_at hl 0 rfl) ?_
      refine xget (ci := 10) (C := RX10) (T := TX10) (N := 10) hx hb hts hin10 hown hK hW.1 0 rfl rfl 0 (by decide) w1 rfl dX10_makeMinute_90 ?_
      refine lv_bipush (v := 85) hx hb dX10_makeMinute_93 (by decide) ?_
      refine xlald hx hb hK hW.1 1 1 rfl rfl (vp_in_iff.mpr ⟨by decide, by decide⟩) 85 rfl (v := (o5_ 85) + 1) rfl dX10_makeMinute_95 ?_
      refine lv_aload_n hx hb dX10_makeMinute_96 rfl (lv_at hl 0 rfl) ?_
      refine xget (ci := 10) (C := RX10) (T := TX10) (N := 10) hx hb hts hin10 hown hK hW.1 0 rfl rfl 0 (by decide) w1 rfl dX10_makeMinute_97 ?_
      refine lv_bipush (v := 40) hx hb dX10_makeMinute_100 (by decide) ?_
      refine lv_iconst (v := 2) hx hb dX10_makeMinute_102 (by decide) ?_
      refine lv_aload_n hx hb dX10_makeMinute_103 rfl (lv_at hl 0 rfl) ?_
      refine xget (ci := 10) (C := RX10) (T := TX10) (N := 10) hx hb hts hin10 hown hK hW.1 0 rfl rfl 0 (by decide) w1 rfl dX10_makeMinute_104 ?_
      refine lv_bipush (v := 84) hx hb dX10_makeMinute_107 (by decide) ?_
      refine xlald hx hb hK hW.1 1 1 rfl rfl (vp_in_iff.mpr ⟨by decide, by decide⟩) 84 rfl (v := o5_ 84) rfl dX10_makeMinute_109 ?_
      refine lv_l2i hx hb dX10_makeMinute_110 rfl ?_
      refine lv_imul hx hb dX10_makeMinute_111 ?_
      refine lv_iadd hx hb dX10_makeMinute_112 ?_
      refine xlald hx hb hK hW.1 1 1 rfl rfl (lg_in (lg_la hokD)) (40 + (2 * (o5_ 84).toInt32)).toNatClampNeg rfl (v := (vp_updL (vp_updL (vp_updL o5_ 87 ((o5_ 87) + 0)) 77 ((o5_ 77) + 1)) 85 ((o5_ 85) + 1)) (40 + (2 * (o5_ 84).toInt32)).toNatClampNeg) rfl dX10_makeMinute_113 ?_
      refine xlc_ne (tgt := 122) hx hb dX10_makeMinute_114 dX10_makeMinute_115 (by decide) (fun c3 => ?_) (fun c3 => ?_)
      · skip
        refine lv_lconst (v := 1) hx hb dX10_makeMinute_122 (by decide) ?_
        refine xlast hx hb hK hW 1 1 rfl (Nat.le_of_ble_eq_true rfl) rfl (vp_in_iff.mpr ⟨by decide, by decide⟩) 86 rfl dX10_makeMinute_123 (fun H locs hW => ?_)
        have hW : xW D A s.heap ([(aM, .inr (10, [.ref mA, .ref mB, .ref mC, .ref mD, .ref mE, .int pm, .int sp, .int (bi iw), .ref mF, .int rn])), (mA, .inl (cJ, 93, .inr (.inl (vp_updL (vp_updL (vp_updL (vp_updL o5_ 87 ((o5_ 87) + 0)) 77 ((o5_ 77) + 1)) 85 ((o5_ 85) + 1)) 86 1))))] ++ []) H _ := hW
        have hF : f_X10_makeMinute_k4 o5_ = vp_updL (vp_updL (vp_updL (vp_updL o5_ 87 ((o5_ 87) + 0)) 77 ((o5_ 77) + 1)) 85 ((o5_ 85) + 1)) 86 1 := by
          rw [f_X10_makeMinute_k4, if_neg c1, if_pos c2, if_neg c3]
        obtain rfl : vp_updL (vp_updL (vp_updL (vp_updL o5_ 87 ((o5_ 87) + 0)) 77 ((o5_ 77) + 1)) 85 ((o5_ 85) + 1)) 86 1 = o := hF.symm.trans hK4
        exact W.vret hx hb hrt (fun t ht hM => ⟨⟨(), rfl, trivial, ⟨by rw [ht]; exact hW.1, hW.2.1⟩⟩, hW.2.2.F ht⟩) hW.2.2.2.2 dX10_makeMinute_124 hlocks
      · skip
        refine lv_lconst (v := 0) hx hb dX10_makeMinute_118 (by decide) ?_
        refine lv_goto (tgt := 123) hx hb dX10_makeMinute_119 (by decide) ?_
        refine xlast hx hb hK hW 1 1 rfl (Nat.le_of_ble_eq_true rfl) rfl (vp_in_iff.mpr ⟨by decide, by decide⟩) 86 rfl dX10_makeMinute_123 (fun H locs hW => ?_)
        have hW : xW D A s.heap ([(aM, .inr (10, [.ref mA, .ref mB, .ref mC, .ref mD, .ref mE, .int pm, .int sp, .int (bi iw), .ref mF, .int rn])), (mA, .inl (cJ, 93, .inr (.inl (vp_updL (vp_updL (vp_updL (vp_updL o5_ 87 ((o5_ 87) + 0)) 77 ((o5_ 77) + 1)) 85 ((o5_ 85) + 1)) 86 0))))] ++ []) H _ := hW
        have hF : f_X10_makeMinute_k4 o5_ = vp_updL (vp_updL (vp_updL (vp_updL o5_ 87 ((o5_ 87) + 0)) 77 ((o5_ 77) + 1)) 85 ((o5_ 85) + 1)) 86 0 := by
          rw [f_X10_makeMinute_k4, if_neg c1, if_pos c2, if_pos c3]
        obtain rfl : vp_updL (vp_updL (vp_updL (vp_updL o5_ 87 ((o5_ 87) + 0)) 77 ((o5_ 77) + 1)) 85 ((o5_ 85) + 1)) 86 0 = o := hF.symm.trans hK4
        exact W.vret hx hb hrt (fun t ht hM => ⟨⟨(), rfl, trivial, ⟨by rw [ht]; exact hW.1, hW.2.1⟩⟩, hW.2.2.F ht⟩) hW.2.2.2.2 dX10_makeMinute_124 hlocks
  · skip
    refine lv_aload_n hx hb dX10_makeMinute_31 rfl (lv_at hl 0 rfl) ?_
    refine vp_callSi (va_Run.run (xrunV (As := []) (rest := [.long (o5_ 87), .int 87, .ref mA]) ⟨hx, hb, hml, hown, hts⟩ (c_X10_concentration l D cI cJ cZ cB H.size aM mA mB mC mD mE pm sp iw mF rn o5_ (hokD) _ rfl) (cwV 0 hts gX10_makeMinute_X10_concentration rfl rfl rfl (by decide +kernel) ⟨Nat.le_of_ble_eq_true rfl, Nat.le_of_ble_eq_true rfl⟩) hK hG hW.2.2 (xsubQ hW hA [0, 1] rfl (by decide)) (va_recv hK hW.1 (ci := 10) (q0 := 0) rfl rfl) rfl hl.1 rfl (Nat.le_of_ble_eq_true rfl) dX10_makeMinute_32 ⟨Nat.le_of_ble_eq_true rfl, Nat.le_of_ble_eq_true rfl⟩)) (fun r8 hq => ?_)
    subst hq
    refine lv_i2l hx hb dX10_makeMinute_35 rfl ?_
    refine lv_aload_n hx hb dX10_makeMinute_36 rfl (lv_at hl 0 rfl) ?_
    refine xget (ci := 10) (C := RX10) (T := TX10) (N := 10) hx hb hts hin10 hown hK hW.1 0 rfl rfl 0 (by decide) w1 rfl dX10_makeMinute_37 ?_
    refine lv_bipush (v := 72) hx hb dX10_makeMinute_40 (by decide) ?_
    refine xlald hx hb hK hW.1 1 1 rfl rfl (vp_in_iff.mpr ⟨by decide, by decide⟩) 72 rfl (v := o5_ 72) rfl dX10_makeMinute_42 ?_
    refine xlc_lt (tgt := 51) hx hb dX10_makeMinute_43 dX10_makeMinute_44 (by decide) (fun c2 => ?_) (fun c2 => ?_)
    · skip
      refine lv_lconst (v := 0) hx hb dX10_makeMinute_51 (by decide) ?_
      refine lv_ladd hx hb dX10_makeMinute_52 ?_
      refine xlast hx hb hK hW 1 1 rfl (Nat.le_of_ble_eq_true rfl) rfl (vp_in_iff.mpr ⟨by decide, by decide⟩) 87 rfl dX10_makeMinute_53 (fun H locs hW => ?_)
      have hW : xW D A s.heap ([(aM, .inr (10, [.ref mA, .ref mB, .ref mC, .ref mD, .ref mE, .int pm, .int sp, .int (bi iw), .ref mF, .int rn])), (mA, .inl (cJ, 93, .inr (.inl (vp_updL o5_ 87 ((o5_ 87) + 0)))))] ++ []) H _ := hW
      refine lv_aload_n hx hb dX10_makeMinute_54 rfl (lv_at hl 0 rfl) ?_
      refine xget (ci := 10) (C := RX10) (T := TX10) (N := 10) hx hb hts hin10 hown hK hW.1 0 rfl rfl 0 (by decide) w1 rfl dX10_makeMinute_55 ?_
      refine lv_bipush (v := 77) hx hb dX10_makeMinute_58 (by decide) ?_
      refine lv_dup2_11 hx hb dX10_makeMinute_60 rfl rfl ?_
      refine xlald hx hb hK hW.1 1 1 rfl rfl (vp_in_iff.mpr ⟨by decide, by decide⟩) 77 rfl (v := o5_ 77) rfl dX10_makeMinute_61 ?_
      refine lv_lconst (v := 1) hx hb dX10_makeMinute_62 (by decide) ?_
      refine lv_ladd hx hb dX10_makeMinute_63 ?_
      refine xlast hx hb hK hW 1 1 rfl (Nat.le_of_ble_eq_true rfl) rfl (vp_in_iff.mpr ⟨by decide, by decide⟩) 77 rfl dX10_makeMinute_64 (fun H locs hW => ?_)
      have hW : xW D A s.heap ([(aM, .inr (10, [.ref mA, .ref mB, .ref mC, .ref mD, .ref mE, .int pm, .int sp, .int (bi iw), .ref mF, .int rn])), (mA, .inl (cJ, 93, .inr (.inl (vp_updL (vp_updL o5_ 87 ((o5_ 87) + 0)) 77 ((o5_ 77) + 1)))))] ++ []) H _ := hW
      refine lv_aload_n hx hb dX10_makeMinute_65 rfl (lv_at hl 0 rfl) ?_
      refine vp_callSi (va_Run.run (xrunV (As := []) (rest := []) ⟨hx, hb, hml, hown, hts⟩ (c_X10_isAway l D cI cJ cZ cB H.size aM mA mB mC mD mE pm sp iw mF rn (vp_updL (vp_updL o5_ 87 ((o5_ 87) + 0)) 77 ((o5_ 77) + 1)) _ rfl) (cwV 0 hts gX10_makeMinute_X10_isAway rfl rfl rfl (by decide +kernel) ⟨Nat.le_of_ble_eq_true rfl, Nat.le_of_ble_eq_true rfl⟩) hK hG hW.2.2 (xsubQ hW hA [0, 1] rfl (by decide)) (va_recv hK hW.1 (ci := 10) (q0 := 0) rfl rfl) rfl hl.1 rfl (Nat.le_of_ble_eq_true rfl) dX10_makeMinute_66 ⟨Nat.le_of_ble_eq_true rfl, Nat.le_of_ble_eq_true rfl⟩)) (fun r9 hq => ?_)
      subst hq
      refine xb_eq (tgt := 124) hx hb dX10_makeMinute_69 (by decide) (fun c3 => ?_) (fun c3 => ?_)
      · skip
        have hF : f_X10_makeMinute_k4 o5_ = vp_updL (vp_updL o5_ 87 ((o5_ 87) + 0)) 77 ((o5_ 77) + 1) := by
          rw [f_X10_makeMinute_k4, if_pos c1, if_pos c2, if_neg c3]
        obtain rfl : vp_updL (vp_updL o5_ 87 ((o5_ 87) + 0)) 77 ((o5_ 77) + 1) = o := hF.symm.trans hK4
        exact W.vret hx hb hrt (fun t ht hM => ⟨⟨(), rfl, trivial, ⟨by rw [ht]; exact hW.1, hW.2.1⟩⟩, hW.2.2.F ht⟩) hW.2.2.2.2 dX10_makeMinute_124 hlocks
      · skip
        refine lv_aload_n hx hb dX10_makeMinute_72 rfl (lv_at hl 0 rfl) ?_
        refine xget (ci := 10) (C := RX10) (T := TX10) (N := 10) hx hb hts hin10 hown hK hW.1 0 rfl rfl 0 (by decide) w1 rfl dX10_makeMinute_73 ?_
        refine lv_bipush (v := 85) hx hb dX10_makeMinute_76 (by decide) ?_
        refine lv_dup2_11 hx hb dX10_makeMinute_78 rfl rfl ?_
        refine xlald hx hb hK hW.1 1 1 rfl rfl (vp_in_iff.mpr ⟨by decide, by decide⟩) 85 rfl (v := o5_ 85) rfl dX10_makeMinute_79 ?_
        refine lv_lconst (v := 1) hx hb dX10_makeMinute_80 (by decide) ?_
        refine lv_ladd hx hb dX10_makeMinute_81 ?_
        refine xlast hx hb hK hW 1 1 rfl (Nat.le_of_ble_eq_true rfl) rfl (vp_in_iff.mpr ⟨by decide, by decide⟩) 85 rfl dX10_makeMinute_82 (fun H locs hW => ?_)
        have hW : xW D A s.heap ([(aM, .inr (10, [.ref mA, .ref mB, .ref mC, .ref mD, .ref mE, .int pm, .int sp, .int (bi iw), .ref mF, .int rn])), (mA, .inl (cJ, 93, .inr (.inl (vp_updL (vp_updL (vp_updL o5_ 87 ((o5_ 87) + 0)) 77 ((o5_ 77) + 1)) 85 ((o5_ 85) + 1)))))] ++ []) H _ := hW
        refine lv_aload_n hx hb dX10_makeMinute_83 rfl (lv_at hl 0 rfl) ?_
        refine xget (ci := 10) (C := RX10) (T := TX10) (N := 10) hx hb hts hin10 hown hK hW.1 0 rfl rfl 0 (by decide) w1 rfl dX10_makeMinute_84 ?_
        refine lv_bipush (v := 86) hx hb dX10_makeMinute_87 (by decide) ?_
        refine lv_aload_n hx hb dX10_makeMinute_89 rfl (lv_at hl 0 rfl) ?_
        refine xget (ci := 10) (C := RX10) (T := TX10) (N := 10) hx hb hts hin10 hown hK hW.1 0 rfl rfl 0 (by decide) w1 rfl dX10_makeMinute_90 ?_
        refine lv_bipush (v := 85) hx hb dX10_makeMinute_93 (by decide) ?_
        refine xlald hx hb hK hW.1 1 1 rfl rfl (vp_in_iff.mpr ⟨by decide, by decide⟩) 85 rfl (v := (o5_ 85) + 1) rfl dX10_makeMinute_95 ?_
        refine lv_aload_n hx hb dX10_makeMinute_96 rfl (lv_at hl 0 rfl) ?_
        refine xget (ci := 10) (C := RX10) (T := TX10) (N := 10) hx hb hts hin10 hown hK hW.1 0 rfl rfl 0 (by decide) w1 rfl dX10_makeMinute_97 ?_
        refine lv_bipush (v := 40) hx hb dX10_makeMinute_100 (by decide) ?_
        refine lv_iconst (v := 2) hx hb dX10_makeMinute_102 (by decide) ?_
        refine lv_aload_n hx hb dX10_makeMinute_103 rfl (lv_at hl 0 rfl) ?_
        refine xget (ci := 10) (C := RX10) (T := TX10) (N := 10) hx hb hts hin10 hown hK hW.1 0 rfl rfl 0 (by decide) w1 rfl dX10_makeMinute_104 ?_
        refine lv_bipush (v := 84) hx hb dX10_makeMinute_107 (by decide) ?_
        refine xlald hx hb hK hW.1 1 1 rfl rfl (vp_in_iff.mpr ⟨by decide, by decide⟩) 84 rfl (v := o5_ 84) rfl dX10_makeMinute_109 ?_
        refine lv_l2i hx hb dX10_makeMinute_110 rfl ?_
        refine lv_imul hx hb dX10_makeMinute_111 ?_
        refine lv_iadd hx hb dX10_makeMinute_112 ?_
        refine xlald hx hb hK hW.1 1 1 rfl rfl (lg_in (lg_la hokD)) (40 + (2 * (o5_ 84).toInt32)).toNatClampNeg rfl (v := (vp_updL (vp_updL (vp_updL o5_ 87 ((o5_ 87) + 0)) 77 ((o5_ 77) + 1)) 85 ((o5_ 85) + 1)) (40 + (2 * (o5_ 84).toInt32)).toNatClampNeg) rfl dX10_makeMinute_113 ?_
        refine xlc_ne (tgt := 122) hx hb dX10_makeMinute_114 dX10_makeMinute_115 (by decide) (fun c4 => ?_) (fun c4 => ?_)
        · skip
          refine lv_lconst (v := 1) hx hb dX10_makeMinute_122 (by decide) ?_
          refine xlast hx hb hK hW 1 1 rfl (Nat.le_of_ble_eq_true rfl) rfl (vp_in_iff.mpr ⟨by decide, by decide⟩) 86 rfl dX10_makeMinute_123 (fun H locs hW => ?_)
          have hW : xW D A s.heap ([(aM, .inr (10, [.ref mA, .ref mB, .ref mC, .ref mD, .ref mE, .int pm, .int sp, .int (bi iw), .ref mF, .int rn])), (mA, .inl (cJ, 93, .inr (.inl (vp_updL (vp_updL (vp_updL (vp_updL o5_ 87 ((o5_ 87) + 0)) 77 ((o5_ 77) + 1)) 85 ((o5_ 85) + 1)) 86 1))))] ++ []) H _ := hW
          have hF : f_X10_makeMinute_k4 o5_ = vp_updL (vp_updL (vp_updL (vp_updL o5_ 87 ((o5_ 87) + 0)) 77 ((o5_ 77) + 1)) 85 ((o5_ 85) + 1)) 86 1 := by
            rw [f_X10_makeMinute_k4, if_pos c1, if_pos c2, if_pos c3, if_neg c4]
          obtain rfl : vp_updL (vp_updL (vp_updL (vp_updL o5_ 87 ((o5_ 87) + 0)) 77 ((o5_ 77) + 1)) 85 ((o5_ 85) + 1)) 86 1 = o := hF.symm.trans hK4
          exact W.vret hx hb hrt (fun t ht hM => ⟨⟨(), rfl, trivial, ⟨by rw [ht]; exact hW.1, hW.2.1⟩⟩, hW.2.2.F ht⟩) hW.2.2.2.2 dX10_makeMinute_124 hlocks
        · skip
          refine lv_lconst (v := 0) hx hb dX10_makeMinute_118 (by decide) ?_
          refine lv_goto (tgt := 123) hx hb dX10_makeMinute_119 (by decide) ?_
          refine xlast hx hb hK hW 1 1 rfl (Nat.le_of_ble_eq_true rfl) rfl (vp_in_iff.mpr ⟨by decide, by decide⟩) 86 rfl dX10_makeMinute_123 (fun H locs hW => ?_)
          have hW : xW D A s.heap ([(aM, .inr (10, [.ref mA, .ref mB, .ref mC, .ref mD, .ref mE, .int pm, .int sp, .int (bi iw), .ref mF, .int rn])), (mA, .inl (cJ, 93, .inr (.inl (vp_updL (vp_updL (vp_updL (vp_updL o5_ 87 ((o5_ 87) + 0)) 77 ((o5_ 77) + 1)) 85 ((o5_ 85) + 1)) 86 0))))] ++ []) H _ := hW
          have hF : f_X10_makeMinute_k4 o5_ = vp_updL (vp_updL (vp_updL (vp_updL o5_ 87 ((o5_ 87) + 0)) 77 ((o5_ 77) + 1)) 85 ((o5_ 85) + 1)) 86 0 := by
            rw [f_X10_makeMinute_k4, if_pos c1, if_pos c2, if_pos c3, if_pos c4]
          obtain rfl : vp_updL (vp_updL (vp_updL (vp_updL o5_ 87 ((o5_ 87) + 0)) 77 ((o5_ 77) + 1)) 85 ((o5_ 85) + 1)) 86 0 = o := hF.symm.trans hK4
          exact W.vret hx hb hrt (fun t ht hM => ⟨⟨(), rfl, trivial, ⟨by rw [ht]; exact hW.1, hW.2.1⟩⟩, hW.2.2.F ht⟩) hW.2.2.2.2 dX10_makeMinute_124 hlocks
    · skip
      refine lv_lconst (v := 1) hx hb dX10_makeMinute_47 (by decide) ?_
      refine lv_goto (tgt := 52) hx hb dX10_makeMinute_48 (by decide) ?_
      refine lv_ladd hx hb dX10_makeMinute_52 ?_
      refine xlast hx hb hK hW 1 1 rfl (Nat.le_of_ble_eq_true rfl) rfl (vp_in_iff.mpr ⟨by decide, by decide⟩) 87 rfl dX10_makeMinute_53 (fun H locs hW => ?_)
      have hW : xW D A s.heap ([(aM, .inr (10, [.ref mA, .ref mB, .ref mC, .ref mD, .ref mE, .int pm, .int sp, .int (bi iw), .ref mF, .int rn])), (mA, .inl (cJ, 93, .inr (.inl (vp_updL o5_ 87 ((o5_ 87) + 1)))))] ++ []) H _ := hW
      refine lv_aload_n hx hb dX10_makeMinute_54 rfl (lv_at hl 0 rfl) ?_
      refine xget (ci := 10) (C := RX10) (T := TX10) (N := 10) hx hb hts hin10 hown hK hW.1 0 rfl rfl 0 (by decide) w1 rfl dX10_makeMinute_55 ?_
      refine lv_bipush (v := 77) hx hb dX10_makeMinute_58 (by decide) ?_
      refine lv_dup2_11 hx hb dX10_makeMinute_60 rfl rfl ?_
      refine xlald hx hb hK hW.1 1 1 rfl rfl (vp_in_iff.mpr ⟨by decide, by decide⟩) 77 rfl (v := o5_ 77) rfl dX10_makeMinute_61 ?_
      refine lv_lconst (v := 1) hx hb dX10_makeMinute_62 (by decide) ?_
      refine lv_ladd hx hb dX10_makeMinute_63 ?_
      refine xlast hx hb hK hW 1 1 rfl (Nat.le_of_ble_eq_true rfl) rfl (vp_in_iff.mpr ⟨by decide, by decide⟩) 77 rfl dX10_makeMinute_64 (fun H locs hW => ?_)
      have hW : xW D A s.heap ([(aM, .inr (10, [.ref mA, .ref mB, .ref mC, .ref mD, .ref mE, .int pm, .int sp, .int (bi iw), .ref mF, .int rn])), (mA, .inl (cJ, 93, .inr (.inl (vp_updL (vp_updL o5_ 87 ((o5_ 87) + 1)) 77 ((o5_ 77) + 1)))))] ++ []) H _ := hW
      refine lv_aload_n hx hb dX10_makeMinute_65 rfl (lv_at hl 0 rfl) ?_
      refine vp_callSi (va_Run.run (xrunV (As := []) (rest := []) ⟨hx, hb, hml, hown, hts⟩ (c_X10_isAway l D cI cJ cZ cB H.size aM mA mB mC mD mE pm sp iw mF rn (vp_updL (vp_updL o5_ 87 ((o5_ 87) + 1)) 77 ((o5_ 77) + 1)) _ rfl) (cwV 0 hts gX10_makeMinute_X10_isAway rfl rfl rfl (by decide +kernel) ⟨Nat.le_of_ble_eq_true rfl, Nat.le_of_ble_eq_true rfl⟩) hK hG hW.2.2 (xsubQ hW hA [0, 1] rfl (by decide)) (va_recv hK hW.1 (ci := 10) (q0 := 0) rfl rfl) rfl hl.1 rfl (Nat.le_of_ble_eq_true rfl) dX10_makeMinute_66 ⟨Nat.le_of_ble_eq_true rfl, Nat.le_of_ble_eq_true rfl⟩)) (fun r10 hq => ?_)
      subst hq
      refine xb_eq (tgt := 124) hx hb dX10_makeMinute_69 (by decide) (fun c3 => ?_) (fun c3 => ?_)
      · skip
        have hF : f_X10_makeMinute_k4 o5_ = vp_updL (vp_updL o5_ 87 ((o5_ 87) + 1)) 77 ((o5_ 77) + 1) := by
          rw [f_X10_makeMinute_k4, if_pos c1, if_neg c2, if_neg c3]
        obtain rfl : vp_updL (vp_updL o5_ 87 ((o5_ 87) + 1)) 77 ((o5_ 77) + 1) = o := hF.symm.trans hK4
        exact W.vret hx hb hrt (fun t ht hM => ⟨⟨(), rfl, trivial, ⟨by rw [ht]; exact hW.1, hW.2.1⟩⟩, hW.2.2.F ht⟩) hW.2.2.2.2 dX10_makeMinute_124 hlocks
      · skip
        refine lv_aload_n hx hb dX10_makeMinute_72 rfl (lv_at hl 0 rfl) ?_
        refine xget (ci := 10) (C := RX10) (T := TX10) (N := 10) hx hb hts hin10 hown hK hW.1 0 rfl rfl 0 (by decide) w1 rfl dX10_makeMinute_73 ?_
        refine lv_bipush (v := 85) hx hb dX10_makeMinute_76 (by decide) ?_
        refine lv_dup2_11 hx hb dX10_makeMinute_78 rfl rfl ?_
        refine xlald hx hb hK hW.1 1 1 rfl rfl (vp_in_iff.mpr ⟨by decide, by decide⟩) 85 rfl (v := o5_ 85) rfl dX10_makeMinute_79 ?_
        refine lv_lconst (v := 1) hx hb dX10_makeMinute_80 (by decide) ?_
        refine lv_ladd hx hb dX10_makeMinute_81 ?_
        refine xlast hx hb hK hW 1 1 rfl (Nat.le_of_ble_eq_true rfl) rfl (vp_in_iff.mpr ⟨by decide, by decide⟩) 85 rfl dX10_makeMinute_82 (fun H locs hW => ?_)
        have hW : xW D A s.heap ([(aM, .inr (10, [.ref mA, .ref mB, .ref mC, .ref mD, .ref mE, .int pm, .int sp, .int (bi iw), .ref mF, .int rn])), (mA, .inl (cJ, 93, .inr (.inl (vp_updL (vp_updL (vp_updL o5_ 87 ((o5_ 87) + 1)) 77 ((o5_ 77) + 1)) 85 ((o5_ 85) + 1)))))] ++ []) H _ := hW
        refine lv_aload_n hx hb dX10_makeMinute_83 rfl (lv_at hl 0 rfl) ?_
        refine xget (ci := 10) (C := RX10) (T := TX10) (N := 10) hx hb hts hin10 hown hK hW.1 0 rfl rfl 0 (by decide) w1 rfl dX10_makeMinute_84 ?_
        refine lv_bipush (v := 86) hx hb dX10_makeMinute_87 (by decide) ?_
        refine lv_aload_n hx hb dX10_makeMinute_89 rfl (lv_at hl 0 rfl) ?_
        refine xget (ci := 10) (C := RX10) (T := TX10) (N := 10) hx hb hts hin10 hown hK hW.1 0 rfl rfl 0 (by decide) w1 rfl dX10_makeMinute_90 ?_
        refine lv_bipush (v := 85) hx hb dX10_makeMinute_93 (by decide) ?_
        refine xlald hx hb hK hW.1 1 1 rfl rfl (vp_in_iff.mpr ⟨by decide, by decide⟩) 85 rfl (v := (o5_ 85) + 1) rfl dX10_makeMinute_95 ?_
        refine lv_aload_n hx hb dX10_makeMinute_96 rfl (lv_at hl 0 rfl) ?_
        refine xget (ci := 10) (C := RX10) (T := TX10) (N := 10) hx hb hts hin10 hown hK hW.1 0 rfl rfl 0 (by decide) w1 rfl dX10_makeMinute_97 ?_
        refine lv_bipush (v := 40) hx hb dX10_makeMinute_100 (by decide) ?_
        refine lv_iconst (v := 2) hx hb dX10_makeMinute_102 (by decide) ?_
        refine lv_aload_n hx hb dX10_makeMinute_103 rfl (lv_at hl 0 rfl) ?_
        refine xget (ci := 10) (C := RX10) (T := TX10) (N := 10) hx hb hts hin10 hown hK hW.1 0 rfl rfl 0 (by decide) w1 rfl dX10_makeMinute_104 ?_
        refine lv_bipush (v := 84) hx hb dX10_makeMinute_107 (by decide) ?_
        refine xlald hx hb hK hW.1 1 1 rfl rfl (vp_in_iff.mpr ⟨by decide, by decide⟩) 84 rfl (v := o5_ 84) rfl dX10_makeMinute_109 ?_
        refine lv_l2i hx hb dX10_makeMinute_110 rfl ?_
        refine lv_imul hx hb dX10_makeMinute_111 ?_
        refine lv_iadd hx hb dX10_makeMinute_112 ?_
        refine xlald hx hb hK hW.1 1 1 rfl rfl (lg_in (lg_la hokD)) (40 + (2 * (o5_ 84).toInt32)).toNatClampNeg rfl (v := (vp_updL (vp_updL (vp_updL o5_ 87 ((o5_ 87) + 1)) 77 ((o5_ 77) + 1)) 85 ((o5_ 85) + 1)) (40 + (2 * (o5_ 84).toInt32)).toNatClampNeg) rfl dX10_makeMinute_113 ?_
        refine xlc_ne (tgt := 122) hx hb dX10_makeMinute_114 dX10_makeMinute_115 (by decide) (fun c4 => ?_) (fun c4 => ?_)
        · skip
          refine lv_lconst (v := 1) hx hb dX10_makeMinute_122 (by decide) ?_
          refine xlast hx hb hK hW 1 1 rfl (Nat.le_of_ble_eq_true rfl) rfl (vp_in_iff.mpr ⟨by decide, by decide⟩) 86 rfl dX10_makeMinute_123 (fun H locs hW => ?_)
          have hW : xW D A s.heap ([(aM, .inr (10, [.ref mA, .ref mB, .ref mC, .ref mD, .ref mE, .int pm, .int sp, .int (bi iw), .ref mF, .int rn])), (mA, .inl (cJ, 93, .inr (.inl (vp_updL (vp_updL (vp_updL (vp_updL o5_ 87 ((o5_ 87) + 1)) 77 ((o5_ 77) + 1)) 85 ((o5_ 85) + 1)) 86 1))))] ++ []) H _ := hW
          have hF : f_X10_makeMinute_k4 o5_ = vp_updL (vp_updL (vp_updL (vp_updL o5_ 87 ((o5_ 87) + 1)) 77 ((o5_ 77) + 1)) 85 ((o5_ 85) + 1)) 86 1 := by
            rw [f_X10_makeMinute_k4, if_pos c1, if_neg c2, if_pos c3, if_neg c4]
          obtain rfl : vp_updL (vp_updL (vp_updL (vp_updL o5_ 87 ((o5_ 87) + 1)) 77 ((o5_ 77) + 1)) 85 ((o5_ 85) + 1)) 86 1 = o := hF.symm.trans hK4
          exact W.vret hx hb hrt (fun t ht hM => ⟨⟨(), rfl, trivial, ⟨by rw [ht]; exact hW.1, hW.2.1⟩⟩, hW.2.2.F ht⟩) hW.2.2.2.2 dX10_makeMinute_124 hlocks
        · skip
          refine lv_lconst (v := 0) hx hb dX10_makeMinute_118 (by decide) ?_
          refine lv_goto (tgt := 123) hx hb dX10_makeMinute_119 (by decide) ?_
          refine xlast hx hb hK hW 1 1 rfl (Nat.le_of_ble_eq_true rfl) rfl (vp_in_iff.mpr ⟨by decide, by decide⟩) 86 rfl dX10_makeMinute_123 (fun H locs hW => ?_)
          have hW : xW D A s.heap ([(aM, .inr (10, [.ref mA, .ref mB, .ref mC, .ref mD, .ref mE, .int pm, .int sp, .int (bi iw), .ref mF, .int rn])), (mA, .inl (cJ, 93, .inr (.inl (vp_updL (vp_updL (vp_updL (vp_updL o5_ 87 ((o5_ 87) + 1)) 77 ((o5_ 77) + 1)) 85 ((o5_ 85) + 1)) 86 0))))] ++ []) H _ := hW
          have hF : f_X10_makeMinute_k4 o5_ = vp_updL (vp_updL (vp_updL (vp_updL o5_ 87 ((o5_ 87) + 1)) 77 ((o5_ 77) + 1)) 85 ((o5_ 85) + 1)) 86 0 := by
            rw [f_X10_makeMinute_k4, if_pos c1, if_neg c2, if_pos c3, if_pos c4]
          obtain rfl : vp_updL (vp_updL (vp_updL (vp_updL o5_ 87 ((o5_ 87) + 1)) 77 ((o5_ 77) + 1)) 85 ((o5_ 85) + 1)) 86 0 = o := hF.symm.trans hK4
          exact W.vret hx hb hrt (fun t ht hM => ⟨⟨(), rfl, trivial, ⟨by rw [ht]; exact hW.1, hW.2.1⟩⟩, hW.2.2.F ht⟩) hW.2.2.2.2 dX10_makeMinute_124 hlocks
