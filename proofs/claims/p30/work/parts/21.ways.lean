theorem okM_lay {f : Nat → Int64} {a k : Int32} {v : Int64} (ha : 0 ≤ a.toInt ∧ a.toInt < 10) (hk : k = 1 ∨ k = 2 ∨ k = 3) (h : okM f) : okM (f_X10_lay a k v f) := by
  unfold f_X10_lay
  refine okM_u ?_ h
  have h1 := xkey_f (n := a.toInt.toNat) (by omega)
  rcases hk with rfl | rfl | rfl
  · rw [ix_n ha ⟨by decide, by decide⟩]; exact h1.1
  · rw [ix_n ha ⟨by decide, by decide⟩]; exact h1.2.1
  · rw [ix_n ha ⟨by decide, by decide⟩]; exact h1.2.2
theorem uL_75 {f : Nat → Int64} {i : Int32} {v : Int64} (h : i.toInt < 75) (h0 : 0 ≤ i.toInt) : vp_updL f i.toNatClampNeg v 75 = f 75 := by
  refine uL_ne fun q => ?_
  have q2 : i.toInt.toNat = 75 := q.symm
  omega
theorem lay_75 {f : Nat → Int64} {a k : Int32} {v : Int64} (ha : 0 ≤ a.toInt ∧ a.toInt < 10) (hk : 0 ≤ k.toInt ∧ k.toInt < 4) : f_X10_lay a k v f 75 = f 75 := by
  unfold f_X10_lay
  exact uL_75 (by rw [ix_i ha hk]; omega) (by rw [ix_i ha hk]; omega)
/-- how many boxes there are -/
def okB (f : Nat → Int64) : Prop := 0 ≤ (f 75).toInt ∧ (f 75).toInt ≤ 10
theorem okB_n {f : Nat → Int64} (h : okB f) : (f_X10_boxes f).toInt = (f 75).toInt := tI (by have := h.1; omega) (by have := h.2; omega)
theorem okB_4 {f : Nat → Int64} (h : okB f) : (4 * f_X10_boxes f).toInt = 4 * (f 75).toInt := by
  have e4 : (4 : Int32).toInt = 4 := by decide
  have h1 := okB_n h
  have h2 := h.1
  have h3 := h.2
  rw [xmulI (by rw [e4, h1]; omega) (by rw [e4, h1]; omega), e4, h1]
theorem unl_lt {f : Nat → Int64} {x : Int32} (h : okB f) (h0 : 0 ≤ x.toInt) (c : ¬ (4 * f_X10_boxes f) ≤ x) : 0 ≤ x.toInt ∧ x.toInt < 40 := by
  have h1 := xnle.mp c
  rw [okB_4 h] at h1
  have h3 := h.2
  omega
theorem unl_r {x : Int32} (h : 0 ≤ x.toInt ∧ x.toInt < 40) : vp_in (0 + x + 4) 93 := by
  have e4 : (4 : Int32).toInt = 4 := by decide
  refine vp_in_iff.mpr ?_
  rw [Int32.zero_add, xaddI (by rw [e4]; omega) (by rw [e4]; omega), e4]
  omega
theorem unl_w {x : Int32} (h : 0 ≤ x.toInt ∧ x.toInt < 40) : vp_in (0 + x) 93 := by
  refine vp_in_iff.mpr ?_
  rw [Int32.zero_add]
  omega
theorem unl_75 {f : Nat → Int64} {x : Int32} {v : Int64} (h : 0 ≤ x.toInt ∧ x.toInt < 40) : vp_updL f (0 + x).toNatClampNeg v 75 = f 75 := by
  rw [Int32.zero_add]; exact uL_75 (by omega) h.1
theorem okB_u {f g : Nat → Int64} (e : g 75 = f 75) (h : okB f) : okB g := by
  unfold okB; rw [e]; exact h
theorem okM_B {f : Nat → Int64} (h : okM f) : okB f := h.1
theorem okB_dn {f : Nat → Int64} {a : Int32} {v : Int64} (hok : okM f) (h : f_X10_isBox a f = true) : okB (vp_updL (vp_updL f 89 v) 75 (f 75 - 1)) := by
  have h1 := isBox_in h hok
  have h2 := hok.1
  have e1 : (1 : Int64).toInt = 1 := by decide
  have h3 : (f 75 - 1).toInt = (f 75).toInt - 1 := by rw [Int64.toInt_sub, e1, Int.bmod_eq_of_le (by omega) (by omega)]
  unfold okB
  rw [uL_eq, h3]
  omega
theorem up40 {x : Int32} (h : 0 ≤ x.toInt ∧ x.toInt < 40) : 0 ≤ (x + 1).toInt ∧ (x + 1).toInt = x.toInt + 1 := by
  have e := xI1
  rw [xaddI (by omega) (by omega), e]
  exact ⟨by omega, rfl⟩
theorem un_mu {x : Int32} {k : Nat} (h : 0 ≤ x.toInt ∧ x.toInt < 40) (hm : (40 - x.toInt).toNat < k + 1) : (40 - (x + 1).toInt).toNat < k := by
  rw [(up40 h).2]; omega
theorem ub_0 {a : Int32} {f : Nat → Int64} (hok : okM f) (h : f_X10_isBox a f = true) : 0 ≤ (4 * a).toInt := by
  have h1 := isBox_in h hok
  have e4 : (4 : Int32).toInt = 4 := by decide
  rw [xmulI (by rw [e4]; omega) (by rw [e4]; omega), e4]; omega

def f_X10_unload_lp55 (a0 : Int32) (mf : Nat → Int64) : Nat → Int32 → (Nat → Int64) → Int32 × (Nat → Int64)
  | 0, _, _ => (0, (fun _ => 0))
  | n + 1, xi, yf =>
    if (4 * (f_X10_boxes yf)) ≤ xi then
      ((f_X10_of a0 2 mf).toInt32, yf)
    else
      f_X10_unload_lp55 a0 mf n (xi + 1) (vp_updL yf (0 + xi).toNatClampNeg (yf ((0 + xi) + 4).toNatClampNeg))
def f_X10_unload (a0 : Int32) (mf : Nat → Int64) : Int32 × (Nat → Int64) :=
  if (f_X10_isBox a0 mf) = true then
    if (f_X10_isDoorOpen mf) = true then
      f_X10_unload_lp55 a0 mf ((40 - (4 * a0).toInt).toNat + 1) (4 * a0) (vp_updL (vp_updL mf 89 ((mf 89) + (f_X10_of a0 2 mf).toInt32.toInt64)) 75 ((mf 75) - 1))
    else
      (-5, mf)
  else
    (-1, mf)
set_option maxHeartbeats 4000000 in
set_option maxRecDepth 100000 in
theorem c_X10_unload (l : Launch) (D : va_G) (cI cJ cZ cB : ClassId) (sz : Nat) (aM : Nat) (mA : Nat) (a0 : Int32) (mB : Nat) (mC : Nat) (mD : Nat) (mE : Nat) (pm : Int32) (sp : Int32) (iw : Bool) (mF : Nat) (rn : Int32) (mf : Nat → Int64) (hok : okM mf) (o : Int32 × (Nat → Int64)) (ho : f_X10_unload a0 mf = o) : Met l yX10_unload wsX10_unload ({ frames := 2, cells := 0, slots := 0, locals := 46 } : Room) (xPre D (xT cI cJ cZ cB) [.ref aM, .int a0] [(aM, .inr (10, [.ref mA, .ref mB, .ref mC, .ref mD, .ref mE, .int pm, .int sp, .int (bi iw), .ref mF, .int rn])), (mA, .inl (cJ, 93, .inr (.inl mf)))] sz) (va_Qi (fun r (_ : Unit) => r = o.1) (fun _ t => xB D ([(aM, .inr (10, [.ref mA, .ref mB, .ref mC, .ref mD, .ref mE, .int pm, .int sp, .int (bi iw), .ref mF, .int rn])), (mA, .inl (cJ, 93, .inr (.inl o.2)))]) (va_A [(aM, .inr (10, [.ref mA, .ref mB, .ref mC, .ref mD, .ref mE, .int pm, .int sp, .int (bi iw), .ref mF, .int rn])), (mA, .inl (cJ, 93, .inr (.inl mf)))] sz) t) (va_A [(aM, .inr (10, [.ref mA, .ref mB, .ref mC, .ref mD, .ref mE, .int pm, .int sp, .int (bi iw), .ref mF, .int rn])), (mA, .inl (cJ, 93, .inr (.inl mf)))] sz)) 0 0 (va_A [(aM, .inr (10, [.ref mA, .ref mB, .ref mC, .ref mD, .ref mE, .int pm, .int sp, .int (bi iw), .ref mF, .int rn])), (mA, .inl (cJ, 93, .inr (.inl mf)))] sz) := by
  refine xofW (Qc := fun A0 => va_Qi (fun r (_ : Unit) => r = o.1) (fun _ t => xB D ([(aM, .inr (10, [.ref mA, .ref mB, .ref mC, .ref mD, .ref mE, .int pm, .int sp, .int (bi iw), .ref mF, .int rn])), (mA, .inl (cJ, 93, .inr (.inl o.2)))]) A0 t) A0) (fr := fun A => A) (cc := cX10_unload) (maxL := 4) (ret := (some .int)) (by decide) rfl (Nat.le_of_ble_eq_true rfl) ?_
  intro p e s m below meth c A ⟨hx, hb, hml, hown, hts⟩ hrt hlocks hnm hsz hK hW hA hG ls hl
  have hown : s.vm.findClass RX10 = some m.cls := hown
  have hl : lv_has ls 4 [(0, .ref aM), (1, .int a0)] := hl
  obtain ⟨H, hH⟩ : ∃ H, H = s.heap := ⟨_, rfl⟩
  have hW : xW D A s.heap ([(aM, .inr (10, [.ref mA, .ref mB, .ref mC, .ref mD, .ref mE, .int pm, .int sp, .int (bi iw), .ref mF, .int rn])), (mA, .inl (cJ, 93, .inr (.inl mf)))] ++ []) H [] := by rw [hH]; exact hW
  have w1 := hts (.fieldLink RX10 7 "DryIceLaneModel" "at" "[J") (by decide +kernel)
  have hin10 : ∀ w ∈ u_ws RX10 TX10 10, w ∈ wsX10_unload := by decide +kernel
  rw [← hH]
  refine lv_aload_n hx hb dX10_unload_0 rfl (lv_at hl 0 rfl) ?_
  refine lv_iload_n hx hb dX10_unload_1 rfl (lv_at hl 1 rfl) ?_
  refine vp_callSi (va_Run.run (xrunV (As := [.int a0]) (rest := []) ⟨hx, hb, hml, hown, hts⟩ (c_X10_isBox l D cI cJ cZ cB H.size aM mA a0 mB mC mD mE pm sp iw mF rn mf _ rfl) (cwV 1 hts gX10_unload_X10_isBox rfl rfl rfl (by decide +kernel) ⟨Nat.le_of_ble_eq_true rfl, Nat.le_of_ble_eq_true rfl⟩) hK hG hW.2.2 (xsubQ hW hA [0, 1] rfl (by decide)) (va_recv hK hW.1 (ci := 10) (q0 := 0) rfl rfl) rfl hl.1 rfl (Nat.le_of_ble_eq_true rfl) dX10_unload_2 ⟨Nat.le_of_ble_eq_true rfl, Nat.le_of_ble_eq_true rfl⟩)) (fun r1 hq => ?_)
  subst hq
  refine xb_ne (tgt := 10) hx hb dX10_unload_5 (by decide) (fun c1 => ?_) (fun c1 => ?_)
  · skip
    refine lv_aload_n hx hb dX10_unload_10 rfl (lv_at hl 0 rfl) ?_
    refine vp_callSi (va_Run.run (xrunV (As := []) (rest := []) ⟨hx, hb, hml, hown, hts⟩ (c_X10_isDoorOpen l D cI cJ cZ cB H.size aM mA mB mC mD mE pm sp iw mF rn mf _ rfl) (cwV 0 hts gX10_unload_X10_isDoorOpen rfl rfl rfl (by decide +kernel) ⟨Nat.le_of_ble_eq_true rfl, Nat.le_of_ble_eq_true rfl⟩) hK hG hW.2.2 (xsubQ hW hA [0, 1] rfl (by decide)) (va_recv hK hW.1 (ci := 10) (q0 := 0) rfl rfl) rfl hl.1 rfl (Nat.le_of_ble_eq_true rfl) dX10_unload_11 ⟨Nat.le_of_ble_eq_true rfl, Nat.le_of_ble_eq_true rfl⟩)) (fun r2 hq => ?_)
    subst hq
    refine xb_ne (tgt := 20) hx hb dX10_unload_14 (by decide) (fun c2 => ?_) (fun c2 => ?_)
    · skip
      refine lv_aload_n hx hb dX10_unload_20 rfl (lv_at hl 0 rfl) ?_
      refine lv_iload_n hx hb dX10_unload_21 rfl (lv_at hl 1 rfl) ?_
      refine lv_iconst (v := 2) hx hb dX10_unload_22 (by decide) ?_
      refine vp_callSl (va_Run.run (xrunV (As := [.int a0, .int 2]) (rest := []) ⟨hx, hb, hml, hown, hts⟩ (c_X10_of l D cI cJ cZ cB H.size aM mA a0 2 mB mC mD mE pm sp iw mF rn mf (ix_in (isBox_10 c1 hok) ⟨by decide, by decide⟩) _ rfl) (cwV 2 hts gX10_unload_X10_of rfl rfl rfl (by decide +kernel) ⟨Nat.le_of_ble_eq_true rfl, Nat.le_of_ble_eq_true rfl⟩) hK hG hW.2.2 (xsubQ hW hA [0, 1] rfl (by decide)) (va_recv hK hW.1 (ci := 10) (q0 := 0) rfl rfl) rfl hl.1 rfl (Nat.le_of_ble_eq_true rfl) dX10_unload_23 ⟨Nat.le_of_ble_eq_true rfl, Nat.le_of_ble_eq_true rfl⟩)) (fun r3 hq => ?_)
      subst hq
      refine lv_l2i hx hb dX10_unload_26 rfl ?_
      refine lv_istore_n (lv' := [(2, .int (f_X10_of a0 2 mf).toInt32), (0, .ref aM), (1, .int a0)]) hx hb dX10_unload_27 rfl hl (by decide) rfl (fun ls hl => ?_)
      refine lv_aload_n hx hb dX10_unload_28 rfl (lv_at hl 1 rfl) ?_
      refine xget (ci := 10) (C := RX10) (T := TX10) (N := 10) hx hb hts hin10 hown hK hW.1 0 rfl rfl 0 (by decide) w1 rfl dX10_unload_29 ?_
      refine lv_bipush (v := 89) hx hb dX10_unload_32 (by decide) ?_
      refine lv_dup2_11 hx hb dX10_unload_34 rfl rfl ?_
      refine xlald hx hb hK hW.1 1 1 rfl rfl (vp_in_iff.mpr ⟨by decide, by decide⟩) 89 rfl (v := mf 89) rfl dX10_unload_35 ?_
      refine lv_iload_n hx hb dX10_unload_36 rfl (lv_at hl 0 rfl) ?_
      refine lv_i2l hx hb dX10_unload_37 rfl ?_
      refine lv_ladd hx hb dX10_unload_38 ?_
      refine xlast hx hb hK hW 1 1 rfl (Nat.le_of_ble_eq_true rfl) rfl (vp_in_iff.mpr ⟨by decide, by decide⟩) 89 rfl dX10_unload_39 (fun H locs hW => ?_)
      have hW : xW D A s.heap ([(aM, .inr (10, [.ref mA, .ref mB, .ref mC, .ref mD, .ref mE, .int pm, .int sp, .int (bi iw), .ref mF, .int rn])), (mA, .inl (cJ, 93, .inr (.inl (vp_updL mf 89 ((mf 89) + (f_X10_of a0 2 mf).toInt32.toInt64)))))] ++ []) H _ := hW
      refine lv_aload_n hx hb dX10_unload_40 rfl (lv_at hl 1 rfl) ?_
      refine xget (ci := 10) (C := RX10) (T := TX10) (N := 10) hx hb hts hin10 hown hK hW.1 0 rfl rfl 0 (by decide) w1 rfl dX10_unload_41 ?_
      refine lv_bipush (v := 75) hx hb dX10_unload_44 (by decide) ?_
      refine lv_dup2_11 hx hb dX10_unload_46 rfl rfl ?_
      refine xlald hx hb hK hW.1 1 1 rfl rfl (vp_in_iff.mpr ⟨by decide, by decide⟩) 75 rfl (v := mf 75) rfl dX10_unload_47 ?_
      refine lv_lconst (v := 1) hx hb dX10_unload_48 (by decide) ?_
      refine lv_lsub hx hb dX10_unload_49 ?_
      refine xlast hx hb hK hW 1 1 rfl (Nat.le_of_ble_eq_true rfl) rfl (vp_in_iff.mpr ⟨by decide, by decide⟩) 75 rfl dX10_unload_50 (fun H locs hW => ?_)
      have hW : xW D A s.heap ([(aM, .inr (10, [.ref mA, .ref mB, .ref mC, .ref mD, .ref mE, .int pm, .int sp, .int (bi iw), .ref mF, .int rn])), (mA, .inl (cJ, 93, .inr (.inl (vp_updL (vp_updL mf 89 ((mf 89) + (f_X10_of a0 2 mf).toInt32.toInt64)) 75 ((mf 75) - 1)))))] ++ []) H _ := hW
      refine lv_iconst (v := 4) hx hb dX10_unload_51 (by decide) ?_
      refine lv_iload_n hx hb dX10_unload_52 rfl (lv_at hl 2 rfl) ?_
      refine lv_imul hx hb dX10_unload_53 ?_
      refine lv_istore_n (lv' := [(3, .int (4 * a0)), (2, .int (f_X10_of a0 2 mf).toInt32), (0, .ref aM), (1, .int a0)]) hx hb dX10_unload_54 rfl hl (by decide) rfl (fun ls hl => ?_)
      have hl55_ : ∀ (n : Nat) (xi : Int32) (yf : Nat → Int64), f_X10_unload_lp55 a0 mf n xi yf = o → (0 ≤ xi.toInt) → (okB yf) → (40 - xi.toInt).toNat < n → ∀ (H : Heap) (locs : List Loc) (ls : Array Slot), xW D A s.heap ([(aM, .inr (10, [.ref mA, .ref mB, .ref mC, .ref mD, .ref mE, .int pm, .int sp, .int (bi iw), .ref mF, .int rn])), (mA, .inl (cJ, 93, .inr (.inl yf)))] ++ []) H locs → lv_has ls 4 [(0, .ref aM), (1, .int a0), (2, .int (f_X10_of a0 2 mf).toInt32), (3, .int xi)] → W p l e ({ frames := 2, cells := 0, slots := 0, locals := 46 } : Room) s m [.ref aM, .int a0].toArray below meth c H locs 0 0 (MQ below (va_Qi (fun r (_ : Unit) => r = o.1) (fun _ t => xB D ([(aM, .inr (10, [.ref mA, .ref mB, .ref mC, .ref mD, .ref mE, .int pm, .int sp, .int (bi iw), .ref mF, .int rn])), (mA, .inl (cJ, 93, .inr (.inl o.2)))]) A t) A) [.ref aM, .int a0].toArray s 0 0 A) (F0 m 55 ls []) := by
        intro n
        induction n with
        | zero =>
          intro xi yf _ _ _ hm
          exact absurd hm (Nat.not_lt_zero _)
        | succ n ih55 =>
          intro xi yf hlp55 hi0 hyb hm55 H locs ls hW hl
          refine lv_iload_n hx hb dX10_unload_55 rfl (lv_at hl 3 rfl) ?_
          refine lv_iconst (v := 4) hx hb dX10_unload_56 (by decide) ?_
          refine lv_aload_n hx hb dX10_unload_57 rfl (lv_at hl 0 rfl) ?_
          refine vp_callSi (va_Run.run (xrunV (As := []) (rest := [.int 4, .int xi]) ⟨hx, hb, hml, hown, hts⟩ (c_X10_boxes l D cI cJ cZ cB H.size aM mA mB mC mD mE pm sp iw mF rn yf _ rfl) (cwV 0 hts gX10_unload_X10_boxes rfl rfl rfl (by decide +kernel) ⟨Nat.le_of_ble_eq_true rfl, Nat.le_of_ble_eq_true rfl⟩) hK hG hW.2.2 (xsubQ hW hA [0, 1] rfl (by decide)) (va_recv hK hW.1 (ci := 10) (q0 := 0) rfl rfl) rfl hl.1 rfl (Nat.le_of_ble_eq_true rfl) dX10_unload_58 ⟨Nat.le_of_ble_eq_true rfl, Nat.le_of_ble_eq_true rfl⟩)) (fun r4 hq => ?_)
          subst hq
          refine lv_imul hx hb dX10_unload_61 ?_
          refine lv_icmp_ge (tgt := 89) hx hb dX10_unload_62 (by decide) (fun c3 => ?_) (fun c3 => ?_)
          · skip
            refine lv_iload_n hx hb dX10_unload_89 rfl (lv_at hl 2 rfl) ?_
            have hF : f_X10_unload_lp55 a0 mf (n + 1) xi yf = ((f_X10_of a0 2 mf).toInt32, yf) := by
              rw [f_X10_unload_lp55, if_pos c3]
            obtain rfl : ((f_X10_of a0 2 mf).toInt32, yf) = o := hF.symm.trans hlp55
            exact W.iret (v := (f_X10_of a0 2 mf).toInt32) hx hb hrt (fun t ht hM => ⟨⟨_, (), rfl, rfl, ⟨by rw [ht]; exact hW.1, hW.2.1⟩⟩, hW.2.2.F ht⟩) hW.2.2.2.2 dX10_unload_90 hlocks
          · skip
            refine lv_aload_n hx hb dX10_unload_65 rfl (lv_at hl 0 rfl) ?_
            refine xget (ci := 10) (C := RX10) (T := TX10) (N := 10) hx hb hts hin10 hown hK hW.1 0 rfl rfl 0 (by decide) w1 rfl dX10_unload_66 ?_
            refine lv_iconst (v := 0) hx hb dX10_unload_69 (by decide) ?_
            refine lv_iload_n hx hb dX10_unload_70 rfl (lv_at hl 3 rfl) ?_
            refine lv_iadd hx hb dX10_unload_71 ?_
            refine lv_aload_n hx hb dX10_unload_72 rfl (lv_at hl 0 rfl) ?_
            refine xget (ci := 10) (C := RX10) (T := TX10) (N := 10) hx hb hts hin10 hown hK hW.1 0 rfl rfl 0 (by decide) w1 rfl dX10_unload_73 ?_
            refine lv_iconst (v := 0) hx hb dX10_unload_76 (by decide) ?_
            refine lv_iload_n hx hb dX10_unload_77 rfl (lv_at hl 3 rfl) ?_
            refine lv_iadd hx hb dX10_unload_78 ?_
            refine lv_iconst (v := 4) hx hb dX10_unload_79 (by decide) ?_
            refine lv_iadd hx hb dX10_unload_80 ?_
            refine xlald hx hb hK hW.1 1 1 rfl rfl (unl_r (unl_lt hyb hi0 c3)) ((0 + xi) + 4).toNatClampNeg rfl (v := yf ((0 + xi) + 4).toNatClampNeg) rfl dX10_unload_81 ?_
            refine xlast hx hb hK hW 1 1 rfl (Nat.le_of_ble_eq_true rfl) rfl (unl_w (unl_lt hyb hi0 c3)) (0 + xi).toNatClampNeg rfl dX10_unload_82 (fun H locs hW => ?_)
            have hW : xW D A s.heap ([(aM, .inr (10, [.ref mA, .ref mB, .ref mC, .ref mD, .ref mE, .int pm, .int sp, .int (bi iw), .ref mF, .int rn])), (mA, .inl (cJ, 93, .inr (.inl (vp_updL yf (0 + xi).toNatClampNeg (yf ((0 + xi) + 4).toNatClampNeg)))))] ++ []) H _ := hW
            refine lv_iinc (v := xi + 1) (lv' := [(3, .int (xi + 1)), (0, .ref aM), (1, .int a0), (2, .int (f_X10_of a0 2 mf).toInt32)]) hx hb dX10_unload_83 hl (k := 3) rfl rfl (by decide) rfl (fun ls hl => ?_)
            refine lv_goto (tgt := 55) hx hb dX10_unload_86 (by decide) ?_
            have hF : f_X10_unload_lp55 a0 mf (n + 1) xi yf = f_X10_unload_lp55 a0 mf n (xi + 1) (vp_updL yf (0 + xi).toNatClampNeg (yf ((0 + xi) + 4).toNatClampNeg)) := by
              rw [f_X10_unload_lp55, if_neg c3]
            refine W.widen (k := 0) (n := 0) (Nat.le_of_ble_eq_true rfl) (Nat.le_of_ble_eq_true rfl) ?_
            exact ih55 (xi + 1) (vp_updL yf (0 + xi).toNatClampNeg (yf ((0 + xi) + 4).toNatClampNeg)) (hF.symm.trans hlp55) ((up40 (unl_lt hyb hi0 c3)).1) (okB_u (unl_75 (unl_lt hyb hi0 c3)) hyb) (un_mu (unl_lt hyb hi0 c3) hm55) _ _ _ hW (lv_sub hl [1, 2, 3, 0] rfl)
      have hF : f_X10_unload a0 mf = f_X10_unload_lp55 a0 mf ((40 - (4 * a0).toInt).toNat + 1) (4 * a0) (vp_updL (vp_updL mf 89 ((mf 89) + (f_X10_of a0 2 mf).toInt32.toInt64)) 75 ((mf 75) - 1)) := by
        rw [f_X10_unload, if_pos c1, if_pos c2]
      refine W.widen (k := 0) (n := 0) (Nat.le_of_ble_eq_true rfl) (Nat.le_of_ble_eq_true rfl) ?_
      exact hl55_ ((40 - (4 * a0).toInt).toNat + 1) (4 * a0) (vp_updL (vp_updL mf 89 ((mf 89) + (f_X10_of a0 2 mf).toInt32.toInt64)) 75 ((mf 75) - 1)) (hF.symm.trans ho) (ub_0 hok c1) (okB_dn hok c1) (Nat.lt_succ_self _) _ _ _ hW (lv_sub hl [2, 3, 1, 0] rfl)
    · skip
      refine lv_bipush (v := -5) hx hb dX10_unload_17 (by decide) ?_
      have hF : f_X10_unload a0 mf = (-5, mf) := by
        rw [f_X10_unload, if_pos c1, if_neg c2]
      obtain rfl : (-5, mf) = o := hF.symm.trans ho
      exact W.iret (v := -5) hx hb hrt (fun t ht hM => ⟨⟨_, (), rfl, rfl, ⟨by rw [ht]; exact hW.1, hW.2.1⟩⟩, hW.2.2.F ht⟩) hW.2.2.2.2 dX10_unload_19 hlocks
  · skip
    refine lv_iconst (v := -1) hx hb dX10_unload_8 (by decide) ?_
    have hF : f_X10_unload a0 mf = (-1, mf) := by
      rw [f_X10_unload, if_neg c1]
    obtain rfl : (-1, mf) = o := hF.symm.trans ho
    exact W.iret (v := -1) hx hb hrt (fun t ht hM => ⟨⟨_, (), rfl, rfl, ⟨by rw [ht]; exact hW.1, hW.2.1⟩⟩, hW.2.2.F ht⟩) hW.2.2.2.2 dX10_unload_9 hlocks

theorem sw_k {x : Int32} (h0 : 0 ≤ x.toInt) (c : ¬ 4 ≤ x) : 0 ≤ x.toInt ∧ x.toInt < 4 := by
  have h := xnle.mp c
  have e4 : (4 : Int32).toInt = 4 := by decide
  omega

def f_X10_swap_lp2 (a0 : Int32) (a1 : Int32) : Nat → Int32 → (Nat → Int64) → (Nat → Int64)
  | 0, _, _ => (fun _ => 0)
  | n + 1, xi, yf =>
    if 4 ≤ xi then
      yf
    else
      f_X10_swap_lp2 a0 a1 n (xi + 1) (f_X10_lay a1 xi (f_X10_of a0 xi yf) (f_X10_lay a0 xi (f_X10_of a1 xi yf) yf))
def f_X10_swap (a0 : Int32) (a1 : Int32) (mf : Nat → Int64) : (Nat → Int64) :=
  f_X10_swap_lp2 a0 a1 (((4 : Int32).toInt - (0 : Int32).toInt).toNat + 1) 0 mf
set_option maxHeartbeats 4000000 in
set_option maxRecDepth 100000 in
theorem c_X10_swap (l : Launch) (D : va_G) (cI cJ cZ cB : ClassId) (sz : Nat) (aM : Nat) (mA : Nat) (a0 : Int32) (a1 : Int32) (mB : Nat) (mC : Nat) (mD : Nat) (mE : Nat) (pm : Int32) (sp : Int32) (iw : Bool) (mF : Nat) (rn : Int32) (mf : Nat → Int64) (h0 : 0 ≤ a0.toInt ∧ a0.toInt < 10) (h1 : 0 ≤ a1.toInt ∧ a1.toInt < 10) (o : (Nat → Int64)) (ho : f_X10_swap a0 a1 mf = o) : Met l yX10_swap wsX10_swap ({ frames := 1, cells := 0, slots := 0, locals := 24 } : Room) (xPre D (xT cI cJ cZ cB) [.ref aM, .int a0, .int a1] [(aM, .inr (10, [.ref mA, .ref mB, .ref mC, .ref mD, .ref mE, .int pm, .int sp, .int (bi iw), .ref mF, .int rn])), (mA, .inl (cJ, 93, .inr (.inl mf)))] sz) (va_Qv (fun _ : Unit => True) (fun _ t => xB D ([(aM, .inr (10, [.ref mA, .ref mB, .ref mC, .ref mD, .ref mE, .int pm, .int sp, .int (bi iw), .ref mF, .int rn])), (mA, .inl (cJ, 93, .inr (.inl o)))]) (va_A [(aM, .inr (10, [.ref mA, .ref mB, .ref mC, .ref mD, .ref mE, .int pm, .int sp, .int (bi iw), .ref mF, .int rn])), (mA, .inl (cJ, 93, .inr (.inl mf)))] sz) t) (va_A [(aM, .inr (10, [.ref mA, .ref mB, .ref mC, .ref mD, .ref mE, .int pm, .int sp, .int (bi iw), .ref mF, .int rn])), (mA, .inl (cJ, 93, .inr (.inl mf)))] sz)) 0 0 (va_A [(aM, .inr (10, [.ref mA, .ref mB, .ref mC, .ref mD, .ref mE, .int pm, .int sp, .int (bi iw), .ref mF, .int rn])), (mA, .inl (cJ, 93, .inr (.inl mf)))] sz) := by
  refine xofW (Qc := fun A0 => va_Qv (fun _ : Unit => True) (fun _ t => xB D ([(aM, .inr (10, [.ref mA, .ref mB, .ref mC, .ref mD, .ref mE, .int pm, .int sp, .int (bi iw), .ref mF, .int rn])), (mA, .inl (cJ, 93, .inr (.inl o)))]) A0 t) A0) (fr := fun A => A) (cc := cX10_swap) (maxL := 6) (ret := none) (by decide) rfl (Nat.le_of_ble_eq_true rfl) ?_
  intro p e s m below meth c A ⟨hx, hb, hml, hown, hts⟩ hrt hlocks hnm hsz hK hW hA hG ls hl
  have hown : s.vm.findClass RX10 = some m.cls := hown
  have hl : lv_has ls 6 [(0, .ref aM), (1, .int a0), (2, .int a1)] := hl
  obtain ⟨H, hH⟩ : ∃ H, H = s.heap := ⟨_, rfl⟩
  have hW : xW D A s.heap ([(aM, .inr (10, [.ref mA, .ref mB, .ref mC, .ref mD, .ref mE, .int pm, .int sp, .int (bi iw), .ref mF, .int rn])), (mA, .inl (cJ, 93, .inr (.inl mf)))] ++ []) H [] := by rw [hH]; exact hW
  rw [← hH]
  refine lv_iconst (v := 0) hx hb dX10_swap_0 (by decide) ?_
  refine lv_istore_n (lv' := [(3, .int 0), (0, .ref aM), (1, .int a0), (2, .int a1)]) hx hb dX10_swap_1 rfl hl (by decide) rfl (fun ls hl => ?_)
  have hl2_ : ∀ (n : Nat) (xi : Int32) (yf : Nat → Int64), f_X10_swap_lp2 a0 a1 n xi yf = o → (0 ≤ xi.toInt) → ((4 : Int32).toInt - xi.toInt).toNat < n → ∀ (H : Heap) (locs : List Loc) (ls : Array Slot), xW D A s.heap ([(aM, .inr (10, [.ref mA, .ref mB, .ref mC, .ref mD, .ref mE, .int pm, .int sp, .int (bi iw), .ref mF, .int rn])), (mA, .inl (cJ, 93, .inr (.inl yf)))] ++ []) H locs → lv_has ls 6 [(0, .ref aM), (1, .int a0), (2, .int a1), (3, .int xi)] → W p l e ({ frames := 1, cells := 0, slots := 0, locals := 24 } : Room) s m [.ref aM, .int a0, .int a1].toArray below meth c H locs 0 0 (MQ below (va_Qv (fun _ : Unit => True) (fun _ t => xB D ([(aM, .inr (10, [.ref mA, .ref mB, .ref mC, .ref mD, .ref mE, .int pm, .int sp, .int (bi iw), .ref mF, .int rn])), (mA, .inl (cJ, 93, .inr (.inl o)))]) A t) A) [.ref aM, .int a0, .int a1].toArray s 0 0 A) (F0 m 2 ls []) := by
    intro n
    induction n with
    | zero =>
      intro xi yf _ _ hm
      exact absurd hm (Nat.not_lt_zero _)
    | succ n ih2 =>
      intro xi yf hlp2 hi0 hm2 H locs ls hW hl
      refine lv_iload_n hx hb dX10_swap_2 rfl (lv_at hl 3 rfl) ?_
      refine lv_iconst (v := 4) hx hb dX10_swap_3 (by decide) ?_
      refine lv_icmp_ge (tgt := 41) hx hb dX10_swap_4 (by decide) (fun c1 => ?_) (fun c1 => ?_)
      · skip
        have hF : f_X10_swap_lp2 a0 a1 (n + 1) xi yf = yf := by
          rw [f_X10_swap_lp2, if_pos c1]
        obtain rfl : yf = o := hF.symm.trans hlp2
        exact W.vret hx hb hrt (fun t ht hM => ⟨⟨(), rfl, trivial, ⟨by rw [ht]; exact hW.1, hW.2.1⟩⟩, hW.2.2.F ht⟩) hW.2.2.2.2 dX10_swap_41 hlocks
      · skip
        refine lv_aload_n hx hb dX10_swap_7 rfl (lv_at hl 0 rfl) ?_
        refine lv_iload_n hx hb dX10_swap_8 rfl (lv_at hl 1 rfl) ?_
        refine lv_iload_n hx hb dX10_swap_9 rfl (lv_at hl 3 rfl) ?_
        refine vp_callSl (va_Run.run (xrunV (As := [.int a0, .int xi]) (rest := []) ⟨hx, hb, hml, hown, hts⟩ (c_X10_of l D cI cJ cZ cB H.size aM mA a0 xi mB mC mD mE pm sp iw mF rn yf (ix_in h0 (sw_k hi0 c1)) _ rfl) (cwV 2 hts gX10_swap_X10_of rfl rfl rfl (by decide +kernel) ⟨Nat.le_of_ble_eq_true rfl, Nat.le_of_ble_eq_true rfl⟩) hK hG hW.2.2 (xsubQ hW hA [0, 1] rfl (by decide)) (va_recv hK hW.1 (ci := 10) (q0 := 0) rfl rfl) rfl hl.1 rfl (Nat.le_of_ble_eq_true rfl) dX10_swap_10 ⟨Nat.le_of_ble_eq_true rfl, Nat.le_of_ble_eq_true rfl⟩)) (fun r1 hq => ?_)
        subst hq
        refine lv_lstore (lv' := [(4, .long (f_X10_of a0 xi yf)), (0, .ref aM), (1, .int a0), (2, .int a1), (3, .int xi)]) hx hb dX10_swap_13 hl (by decide) rfl (fun ls hl => ?_)
        refine lv_aload_n hx hb dX10_swap_15 rfl (lv_at hl 1 rfl) ?_
        refine lv_iload_n hx hb dX10_swap_16 rfl (lv_at hl 2 rfl) ?_
        refine lv_iload_n hx hb dX10_swap_17 rfl (lv_at hl 4 rfl) ?_
        refine lv_aload_n hx hb dX10_swap_18 rfl (lv_at hl 1 rfl) ?_
        refine lv_iload_n hx hb dX10_swap_19 rfl (lv_at hl 3 rfl) ?_
        refine lv_iload_n hx hb dX10_swap_20 rfl (lv_at hl 4 rfl) ?_
        refine vp_callSl (va_Run.run (xrunV (As := [.int a1, .int xi]) (rest := [.int xi, .int a0, .ref aM]) ⟨hx, hb, hml, hown, hts⟩ (c_X10_of l D cI cJ cZ cB H.size aM mA a1 xi mB mC mD mE pm sp iw mF rn yf (ix_in h1 (sw_k hi0 c1)) _ rfl) (cwV 2 hts gX10_swap_X10_of rfl rfl rfl (by decide +kernel) ⟨Nat.le_of_ble_eq_true rfl, Nat.le_of_ble_eq_true rfl⟩) hK hG hW.2.2 (xsubQ hW hA [0, 1] rfl (by decide)) (va_recv hK hW.1 (ci := 10) (q0 := 0) rfl rfl) rfl hl.1 rfl (Nat.le_of_ble_eq_true rfl) dX10_swap_21 ⟨Nat.le_of_ble_eq_true rfl, Nat.le_of_ble_eq_true rfl⟩)) (fun r2 hq => ?_)
        subst hq
        refine xQv (wr := []) hW hA [0, 1] [] rfl rfl (by decide) (by decide) (by decide) (xrunV (As := [.int a0, .int xi, .long (f_X10_of a1 xi yf)]) (rest := []) ⟨hx, hb, hml, hown, hts⟩ (c_X10_lay l D cI cJ cZ cB H.size aM mA a0 xi (f_X10_of a1 xi yf) mB mC mD mE pm sp iw mF rn yf (ix_in h0 (sw_k hi0 c1)) _ rfl) (cwV 3 hts gX10_swap_X10_lay rfl rfl rfl (by decide +kernel) ⟨Nat.le_of_ble_eq_true rfl, Nat.le_of_ble_eq_true rfl⟩) hK hG hW.2.2 (xsubQ hW hA [0, 1] rfl (by decide)) (va_recv hK hW.1 (ci := 10) (q0 := 0) rfl rfl) rfl hl.1 rfl (Nat.le_of_ble_eq_true rfl) dX10_swap_24 ⟨Nat.le_of_ble_eq_true rfl, Nat.le_of_ble_eq_true rfl⟩) (fun _ H locs _ hW => ?_)
        have hW : xW D A s.heap ([(aM, .inr (10, [.ref mA, .ref mB, .ref mC, .ref mD, .ref mE, .int pm, .int sp, .int (bi iw), .ref mF, .int rn])), (mA, .inl (cJ, 93, .inr (.inl (f_X10_lay a0 xi (f_X10_of a1 xi yf) yf))))] ++ []) H _ := hW
        refine lv_aload_n hx hb dX10_swap_27 rfl (lv_at hl 1 rfl) ?_
        refine lv_iload_n hx hb dX10_swap_28 rfl (lv_at hl 3 rfl) ?_
        refine lv_iload_n hx hb dX10_swap_29 rfl (lv_at hl 4 rfl) ?_
        refine lv_lload hx hb dX10_swap_30 (lv_at hl 0 rfl) ?_
        refine xQv (wr := []) hW hA [0, 1] [] rfl rfl (by decide) (by decide) (by decide) (xrunV (As := [.int a1, .int xi, .long (f_X10_of a0 xi yf)]) (rest := []) ⟨hx, hb, hml, hown, hts⟩ (c_X10_lay l D cI cJ cZ cB H.size aM mA a1 xi (f_X10_of a0 xi yf) mB mC mD mE pm sp iw mF rn (f_X10_lay a0 xi (f_X10_of a1 xi yf) yf) (ix_in h1 (sw_k hi0 c1)) _ rfl) (cwV 3 hts gX10_swap_X10_lay rfl rfl rfl (by decide +kernel) ⟨Nat.le_of_ble_eq_true rfl, Nat.le_of_ble_eq_true rfl⟩) hK hG hW.2.2 (xsubQ hW hA [0, 1] rfl (by decide)) (va_recv hK hW.1 (ci := 10) (q0 := 0) rfl rfl) rfl hl.1 rfl (Nat.le_of_ble_eq_true rfl) dX10_swap_32 ⟨Nat.le_of_ble_eq_true rfl, Nat.le_of_ble_eq_true rfl⟩) (fun _ H locs _ hW => ?_)
        have hW : xW D A s.heap ([(aM, .inr (10, [.ref mA, .ref mB, .ref mC, .ref mD, .ref mE, .int pm, .int sp, .int (bi iw), .ref mF, .int rn])), (mA, .inl (cJ, 93, .inr (.inl (f_X10_lay a1 xi (f_X10_of a0 xi yf) (f_X10_lay a0 xi (f_X10_of a1 xi yf) yf)))))] ++ []) H _ := hW
        refine lv_iinc (v := xi + 1) (lv' := [(3, .int (xi + 1)), (4, .long (f_X10_of a0 xi yf)), (0, .ref aM), (1, .int a0), (2, .int a1)]) hx hb dX10_swap_35 hl (k := 4) rfl rfl (by decide) rfl (fun ls hl => ?_)
        refine lv_goto (tgt := 2) hx hb dX10_swap_38 (by decide) ?_
        have hF : f_X10_swap_lp2 a0 a1 (n + 1) xi yf = f_X10_swap_lp2 a0 a1 n (xi + 1) (f_X10_lay a1 xi (f_X10_of a0 xi yf) (f_X10_lay a0 xi (f_X10_of a1 xi yf) yf)) := by
          rw [f_X10_swap_lp2, if_neg c1]
        refine W.widen (k := 0) (n := 0) (Nat.le_of_ble_eq_true rfl) (Nat.le_of_ble_eq_true rfl) ?_
        exact ih2 (xi + 1) (f_X10_lay a1 xi (f_X10_of a0 xi yf) (f_X10_lay a0 xi (f_X10_of a1 xi yf) yf)) (hF.symm.trans hlp2) (up_0 hi0 c1) (up_mu c1 hm2) _ _ _ hW (lv_sub hl [2, 3, 4, 0] rfl)
  have hF : f_X10_swap a0 a1 mf = f_X10_swap_lp2 a0 a1 (((4 : Int32).toInt - (0 : Int32).toInt).toNat + 1) 0 mf := by
    rw [f_X10_swap]
  refine W.widen (k := 0) (n := 0) (Nat.le_of_ble_eq_true rfl) (Nat.le_of_ble_eq_true rfl) ?_
  exact hl2_ (((4 : Int32).toInt - (0 : Int32).toInt).toNat + 1) 0 mf (hF.symm.trans ho) (by decide) (Nat.lt_succ_self _) _ _ _ hW (lv_sub hl [1, 2, 3, 0] rfl)

theorem mv_up {x t : Int32} (h : 0 ≤ x.toInt ∧ x.toInt < 10) (ht : 0 ≤ t.toInt ∧ t.toInt < 10) (c : ¬ t ≤ x) : 0 ≤ (x + 1).toInt ∧ (x + 1).toInt < 10 := by
  have h1 := xnle.mp c
  rw [up_i c]; omega
theorem mv_dn {x t : Int32} (h : 0 ≤ x.toInt ∧ x.toInt < 10) (ht : 0 ≤ t.toInt ∧ t.toInt < 10) (c : ¬ x ≤ t) : 0 ≤ (x + (-1)).toInt ∧ (x + (-1)).toInt < 10 := by
  have h1 := xnle.mp c
  rw [dn_i c]; omega
theorem mv_ds {x t : Int32} (h : 0 ≤ x.toInt ∧ x.toInt < 10) (ht : 0 ≤ t.toInt ∧ t.toInt < 10) (c : ¬ x ≤ t) : 0 ≤ (x - 1).toInt ∧ (x - 1).toInt < 10 := by
  have h1 := xnle.mp c
  rw [dn_s c]; omega

def f_X10_move_lp23 (a1 : Int32) : Nat → Int32 → (Nat → Int64) → (Nat → Int64)
  | 0, _, _ => (fun _ => 0)
  | n + 1, xi, yf =>
    if xi ≤ a1 then
      yf
    else
      f_X10_move_lp23 a1 n (xi + (-1)) (f_X10_swap xi (xi - 1) yf)
def f_X10_move_lp2 (a0 : Int32) (a1 : Int32) : Nat → Int32 → (Nat → Int64) → (Nat → Int64)
  | 0, _, _ => (fun _ => 0)
  | n + 1, xi, yf =>
    if a1 ≤ xi then
      f_X10_move_lp23 a1 ((a0.toInt - a1.toInt).toNat + 1) a0 yf
    else
      f_X10_move_lp2 a0 a1 n (xi + 1) (f_X10_swap xi (xi + 1) yf)
def f_X10_move (a0 : Int32) (a1 : Int32) (mf : Nat → Int64) : (Nat → Int64) :=
  f_X10_move_lp2 a0 a1 ((a1.toInt - a0.toInt).toNat + 1) a0 mf
set_option maxHeartbeats 4000000 in
set_option maxRecDepth 100000 in
theorem c_X10_move (l : Launch) (D : va_G) (cI cJ cZ cB : ClassId) (sz : Nat) (aM : Nat) (mA : Nat) (a0 : Int32) (a1 : Int32) (mB : Nat) (mC : Nat) (mD : Nat) (mE : Nat) (pm : Int32) (sp : Int32) (iw : Bool) (mF : Nat) (rn : Int32) (mf : Nat → Int64) (h0 : 0 ≤ a0.toInt ∧ a0.toInt < 10) (h1 : 0 ≤ a1.toInt ∧ a1.toInt < 10) (o : (Nat → Int64)) (ho : f_X10_move a0 a1 mf = o) : Met l yX10_move wsX10_move ({ frames := 2, cells := 0, slots := 0, locals := 49 } : Room) (xPre D (xT cI cJ cZ cB) [.ref aM, .int a0, .int a1] [(aM, .inr (10, [.ref mA, .ref mB, .ref mC, .ref mD, .ref mE, .int pm, .int sp, .int (bi iw), .ref mF, .int rn])), (mA, .inl (cJ, 93, .inr (.inl mf)))] sz) (va_Qv (fun _ : Unit => True) (fun _ t => xB D ([(aM, .inr (10, [.ref mA, .ref mB, .ref mC, .ref mD, .ref mE, .int pm, .int sp, .int (bi iw), .ref mF, .int rn])), (mA, .inl (cJ, 93, .inr (.inl o)))]) (va_A [(aM, .inr (10, [.ref mA, .ref mB, .ref mC, .ref mD, .ref mE, .int pm, .int sp, .int (bi iw), .ref mF, .int rn])), (mA, .inl (cJ, 93, .inr (.inl mf)))] sz) t) (va_A [(aM, .inr (10, [.ref mA, .ref mB, .ref mC, .ref mD, .ref mE, .int pm, .int sp, .int (bi iw), .ref mF, .int rn])), (mA, .inl (cJ, 93, .inr (.inl mf)))] sz)) 0 0 (va_A [(aM, .inr (10, [.ref mA, .ref mB, .ref mC, .ref mD, .ref mE, .int pm, .int sp, .int (bi iw), .ref mF, .int rn])), (mA, .inl (cJ, 93, .inr (.inl mf)))] sz) := by
  refine xofW (Qc := fun A0 => va_Qv (fun _ : Unit => True) (fun _ t => xB D ([(aM, .inr (10, [.ref mA, .ref mB, .ref mC, .ref mD, .ref mE, .int pm, .int sp, .int (bi iw), .ref mF, .int rn])), (mA, .inl (cJ, 93, .inr (.inl o)))]) A0 t) A0) (fr := fun A => A) (cc := cX10_move) (maxL := 4) (ret := none) (by decide) rfl (Nat.le_of_ble_eq_true rfl) ?_
  intro p e s m below meth c A ⟨hx, hb, hml, hown, hts⟩ hrt hlocks hnm hsz hK hW hA hG ls hl
  have hown : s.vm.findClass RX10 = some m.cls := hown
  have hl : lv_has ls 4 [(0, .ref aM), (1, .int a0), (2, .int a1)] := hl
  obtain ⟨H, hH⟩ : ∃ H, H = s.heap := ⟨_, rfl⟩
  have hW : xW D A s.heap ([(aM, .inr (10, [.ref mA, .ref mB, .ref mC, .ref mD, .ref mE, .int pm, .int sp, .int (bi iw), .ref mF, .int rn])), (mA, .inl (cJ, 93, .inr (.inl mf)))] ++ []) H [] := by rw [hH]; exact hW
  rw [← hH]
  refine lv_iload_n hx hb dX10_move_0 rfl (lv_at hl 1 rfl) ?_
  refine lv_istore_n (lv' := [(3, .int a0), (0, .ref aM), (1, .int a0), (2, .int a1)]) hx hb dX10_move_1 rfl hl (by decide) rfl (fun ls hl => ?_)
  have hl2_ : ∀ (n : Nat) (xi : Int32) (yf : Nat → Int64), f_X10_move_lp2 a0 a1 n xi yf = o → (0 ≤ xi.toInt ∧ xi.toInt < 10) → (a1.toInt - xi.toInt).toNat < n → ∀ (H : Heap) (locs : List Loc) (ls : Array Slot), xW D A s.heap ([(aM, .inr (10, [.ref mA, .ref mB, .ref mC, .ref mD, .ref mE, .int pm, .int sp, .int (bi iw), .ref mF, .int rn])), (mA, .inl (cJ, 93, .inr (.inl yf)))] ++ []) H locs → lv_has ls 4 [(0, .ref aM), (1, .int a0), (2, .int a1), (3, .int xi)] → W p l e ({ frames := 2, cells := 0, slots := 0, locals := 49 } : Room) s m [.ref aM, .int a0, .int a1].toArray below meth c H locs 0 0 (MQ below (va_Qv (fun _ : Unit => True) (fun _ t => xB D ([(aM, .inr (10, [.ref mA, .ref mB, .ref mC, .ref mD, .ref mE, .int pm, .int sp, .int (bi iw), .ref mF, .int rn])), (mA, .inl (cJ, 93, .inr (.inl o)))]) A t) A) [.ref aM, .int a0, .int a1].toArray s 0 0 A) (F0 m 2 ls []) := by
    intro n
    induction n with
    | zero =>
      intro xi yf _ _ hm
      exact absurd hm (Nat.not_lt_zero _)
    | succ n ih2 =>
      intro xi yf hlp2 hi hm2 H locs ls hW hl
      refine lv_iload_n hx hb dX10_move_2 rfl (lv_at hl 3 rfl) ?_
      refine lv_iload_n hx hb dX10_move_3 rfl (lv_at hl 2 rfl) ?_
      refine lv_icmp_ge (tgt := 21) hx hb dX10_move_4 (by decide) (fun c1 => ?_) (fun c1 => ?_)
      · skip
        refine lv_iload_n hx hb dX10_move_21 rfl (lv_at hl 1 rfl) ?_
        refine lv_istore_n (lv' := [(3, .int a0), (0, .ref aM), (1, .int a0), (2, .int a1)]) hx hb dX10_move_22 rfl hl (by decide) rfl (fun ls hl => ?_)
        have hl23_ : ∀ (n : Nat) (xi : Int32) (yf : Nat → Int64), f_X10_move_lp23 a1 n xi yf = o → (0 ≤ xi.toInt ∧ xi.toInt < 10) → (xi.toInt - a1.toInt).toNat < n → ∀ (H : Heap) (locs : List Loc) (ls : Array Slot), xW D A s.heap ([(aM, .inr (10, [.ref mA, .ref mB, .ref mC, .ref mD, .ref mE, .int pm, .int sp, .int (bi iw), .ref mF, .int rn])), (mA, .inl (cJ, 93, .inr (.inl yf)))] ++ []) H locs → lv_has ls 4 [(0, .ref aM), (1, .int a0), (2, .int a1), (3, .int xi)] → W p l e ({ frames := 2, cells := 0, slots := 0, locals := 49 } : Room) s m [.ref aM, .int a0, .int a1].toArray below meth c H locs 0 0 (MQ below (va_Qv (fun _ : Unit => True) (fun _ t => xB D ([(aM, .inr (10, [.ref mA, .ref mB, .ref mC, .ref mD, .ref mE, .int pm, .int sp, .int (bi iw), .ref mF, .int rn])), (mA, .inl (cJ, 93, .inr (.inl o)))]) A t) A) [.ref aM, .int a0, .int a1].toArray s 0 0 A) (F0 m 23 ls []) := by
          intro n
          induction n with
          | zero =>
            intro xi yf _ _ hm
            exact absurd hm (Nat.not_lt_zero _)
          | succ n ih23 =>
            intro xi yf hlp23 hi hm23 H locs ls hW hl
            refine lv_iload_n hx hb dX10_move_23 rfl (lv_at hl 3 rfl) ?_
            refine lv_iload_n hx hb dX10_move_24 rfl (lv_at hl 2 rfl) ?_
            refine lv_icmp_le (tgt := 42) hx hb dX10_move_25 (by decide) (fun c2 => ?_) (fun c2 => ?_)
            · skip
              have hF : f_X10_move_lp23 a1 (n + 1) xi yf = yf := by
                rw [f_X10_move_lp23, if_pos c2]
              obtain rfl : yf = o := hF.symm.trans hlp23
              exact W.vret hx hb hrt (fun t ht hM => ⟨⟨(), rfl, trivial, ⟨by rw [ht]; exact hW.1, hW.2.1⟩⟩, hW.2.2.F ht⟩) hW.2.2.2.2 dX10_move_42 hlocks
            · skip
              refine lv_aload_n hx hb dX10_move_28 rfl (lv_at hl 0 rfl) ?_
              refine lv_iload_n hx hb dX10_move_29 rfl (lv_at hl 3 rfl) ?_
              refine lv_iload_n hx hb dX10_move_30 rfl (lv_at hl 3 rfl) ?_
              refine lv_iconst (v := 1) hx hb dX10_move_31 (by decide) ?_
              refine lv_isub hx hb dX10_move_32 ?_
              refine xQv (wr := []) hW hA [0, 1] [] rfl rfl (by decide) (by decide) (by decide) (xrunV (As := [.int xi, .int (xi - 1)]) (rest := []) ⟨hx, hb, hml, hown, hts⟩ (c_X10_swap l D cI cJ cZ cB H.size aM mA xi (xi - 1) mB mC mD mE pm sp iw mF rn yf (hi) (mv_ds hi h1 c2) _ rfl) (cwV 2 hts gX10_move_X10_swap rfl rfl rfl (by decide +kernel) ⟨Nat.le_of_ble_eq_true rfl, Nat.le_of_ble_eq_true rfl⟩) hK hG hW.2.2 (xsubQ hW hA [0, 1] rfl (by decide)) (va_recv hK hW.1 (ci := 10) (q0 := 0) rfl rfl) rfl hl.1 rfl (Nat.le_of_ble_eq_true rfl) dX10_move_33 ⟨Nat.le_of_ble_eq_true rfl, Nat.le_of_ble_eq_true rfl⟩) (fun _ H locs _ hW => ?_)
              have hW : xW D A s.heap ([(aM, .inr (10, [.ref mA, .ref mB, .ref mC, .ref mD, .ref mE, .int pm, .int sp, .int (bi iw), .ref mF, .int rn])), (mA, .inl (cJ, 93, .inr (.inl (f_X10_swap xi (xi - 1) yf))))] ++ []) H _ := hW
              refine lv_iinc (v := xi + (-1)) (lv' := [(3, .int (xi + (-1))), (0, .ref aM), (1, .int a0), (2, .int a1)]) hx hb dX10_move_36 hl (k := 3) rfl rfl (by decide) rfl (fun ls hl => ?_)
              refine lv_goto (tgt := 23) hx hb dX10_move_39 (by decide) ?_
              have hF : f_X10_move_lp23 a1 (n + 1) xi yf = f_X10_move_lp23 a1 n (xi + (-1)) (f_X10_swap xi (xi - 1) yf) := by
                rw [f_X10_move_lp23, if_neg c2]
              refine W.widen (k := 0) (n := 0) (Nat.le_of_ble_eq_true rfl) (Nat.le_of_ble_eq_true rfl) ?_
              exact ih23 (xi + (-1)) (f_X10_swap xi (xi - 1) yf) (hF.symm.trans hlp23) (mv_dn hi h1 c2) (dn_mu c2 hm23) _ _ _ hW (lv_sub hl [1, 2, 3, 0] rfl)
        have hF : f_X10_move_lp2 a0 a1 (n + 1) xi yf = f_X10_move_lp23 a1 ((a0.toInt - a1.toInt).toNat + 1) a0 yf := by
          rw [f_X10_move_lp2, if_pos c1]
        refine W.widen (k := 0) (n := 0) (Nat.le_of_ble_eq_true rfl) (Nat.le_of_ble_eq_true rfl) ?_
        exact hl23_ ((a0.toInt - a1.toInt).toNat + 1) a0 yf (hF.symm.trans hlp2) (h0) (Nat.lt_succ_self _) _ _ _ hW (lv_sub hl [1, 2, 3, 0] rfl)
      · skip
        refine lv_aload_n hx hb dX10_move_7 rfl (lv_at hl 0 rfl) ?_
        refine lv_iload_n hx hb dX10_move_8 rfl (lv_at hl 3 rfl) ?_
        refine lv_iload_n hx hb dX10_move_9 rfl (lv_at hl 3 rfl) ?_
        refine lv_iconst (v := 1) hx hb dX10_move_10 (by decide) ?_
        refine lv_iadd hx hb dX10_move_11 ?_
        refine xQv (wr := []) hW hA [0, 1] [] rfl rfl (by decide) (by decide) (by decide) (xrunV (As := [.int xi, .int (xi + 1)]) (rest := []) ⟨hx, hb, hml, hown, hts⟩ (c_X10_swap l D cI cJ cZ cB H.size aM mA xi (xi + 1) mB mC mD mE pm sp iw mF rn yf (hi) (mv_up hi h1 c1) _ rfl) (cwV 2 hts gX10_move_X10_swap rfl rfl rfl (by decide +kernel) ⟨Nat.le_of_ble_eq_true rfl, Nat.le_of_ble_eq_true rfl⟩) hK hG hW.2.2 (xsubQ hW hA [0, 1] rfl (by decide)) (va_recv hK hW.1 (ci := 10) (q0 := 0) rfl rfl) rfl hl.1 rfl (Nat.le_of_ble_eq_true rfl) dX10_move_12 ⟨Nat.le_of_ble_eq_true rfl, Nat.le_of_ble_eq_true rfl⟩) (fun _ H locs _ hW => ?_)
        have hW : xW D A s.heap ([(aM, .inr (10, [.ref mA, .ref mB, .ref mC, .ref mD, .ref mE, .int pm, .int sp, .int (bi iw), .ref mF, .int rn])), (mA, .inl (cJ, 93, .inr (.inl (f_X10_swap xi (xi + 1) yf))))] ++ []) H _ := hW
        refine lv_iinc (v := xi + 1) (lv' := [(3, .int (xi + 1)), (0, .ref aM), (1, .int a0), (2, .int a1)]) hx hb dX10_move_15 hl (k := 3) rfl rfl (by decide) rfl (fun ls hl => ?_)
        refine lv_goto (tgt := 2) hx hb dX10_move_18 (by decide) ?_
        have hF : f_X10_move_lp2 a0 a1 (n + 1) xi yf = f_X10_move_lp2 a0 a1 n (xi + 1) (f_X10_swap xi (xi + 1) yf) := by
          rw [f_X10_move_lp2, if_neg c1]
        refine W.widen (k := 0) (n := 0) (Nat.le_of_ble_eq_true rfl) (Nat.le_of_ble_eq_true rfl) ?_
        exact ih2 (xi + 1) (f_X10_swap xi (xi + 1) yf) (hF.symm.trans hlp2) (mv_up hi h1 c1) (up_mu c1 hm2) _ _ _ hW (lv_sub hl [1, 2, 3, 0] rfl)
  have hF : f_X10_move a0 a1 mf = f_X10_move_lp2 a0 a1 ((a1.toInt - a0.toInt).toNat + 1) a0 mf := by
    rw [f_X10_move]
  refine W.widen (k := 0) (n := 0) (Nat.le_of_ble_eq_true rfl) (Nat.le_of_ble_eq_true rfl) ?_
  exact hl2_ ((a1.toInt - a0.toInt).toNat + 1) a0 mf (hF.symm.trans ho) (h0) (Nat.lt_succ_self _) _ _ _ hW (lv_sub hl [1, 2, 3, 0] rfl)

def f_X10_shift (a0 : Int32) (a1 : Int32) (mf : Nat → Int64) : Int32 × (Nat → Int64) :=
  if (f_X10_isBox a0 mf) = true then
    if (f_X10_isBox a1 mf) = true then
      ((f_X10_of a0 2 mf).toInt32, f_X10_move a0 a1 mf)
    else
      (-1, mf)
  else
    (-1, mf)
set_option maxHeartbeats 4000000 in
set_option maxRecDepth 100000 in
theorem c_X10_shift (l : Launch) (D : va_G) (cI cJ cZ cB : ClassId) (sz : Nat) (aM : Nat) (mA : Nat) (a0 : Int32) (a1 : Int32) (mB : Nat) (mC : Nat) (mD : Nat) (mE : Nat) (pm : Int32) (sp : Int32) (iw : Bool) (mF : Nat) (rn : Int32) (mf : Nat → Int64) (hok : okM mf) (o : Int32 × (Nat → Int64)) (ho : f_X10_shift a0 a1 mf = o) : Met l yX10_shift wsX10_shift ({ frames := 3, cells := 0, slots := 0, locals := 72 } : Room) (xPre D (xT cI cJ cZ cB) [.ref aM, .int a0, .int a1] [(aM, .inr (10, [.ref mA, .ref mB, .ref mC, .ref mD, .ref mE, .int pm, .int sp, .int (bi iw), .ref mF, .int rn])), (mA, .inl (cJ, 93, .inr (.inl mf)))] sz) (va_Qi (fun r (_ : Unit) => r = o.1) (fun _ t => xB D ([(aM, .inr (10, [.ref mA, .ref mB, .ref mC, .ref mD, .ref mE, .int pm, .int sp, .int (bi iw), .ref mF, .int rn])), (mA, .inl (cJ, 93, .inr (.inl o.2)))]) (va_A [(aM, .inr (10, [.ref mA, .ref mB, .ref mC, .ref mD, .ref mE, .int pm, .int sp, .int (bi iw), .ref mF, .int rn])), (mA, .inl (cJ, 93, .inr (.inl mf)))] sz) t) (va_A [(aM, .inr (10, [.ref mA, .ref mB, .ref mC, .ref mD, .ref mE, .int pm, .int sp, .int (bi iw), .ref mF, .int rn])), (mA, .inl (cJ, 93, .inr (.inl mf)))] sz)) 0 0 (va_A [(aM, .inr (10, [.ref mA, .ref mB, .ref mC, .ref mD, .ref mE, .int pm, .int sp, .int (bi iw), .ref mF, .int rn])), (mA, .inl (cJ, 93, .inr (.inl mf)))] sz) := by
  refine xofW (Qc := fun A0 => va_Qi (fun r (_ : Unit) => r = o.1) (fun _ t => xB D ([(aM, .inr (10, [.ref mA, .ref mB, .ref mC, .ref mD, .ref mE, .int pm, .int sp, .int (bi iw), .ref mF, .int rn])), (mA, .inl (cJ, 93, .inr (.inl o.2)))]) A0 t) A0) (fr := fun A => A) (cc := cX10_shift) (maxL := 4) (ret := (some .int)) (by decide) rfl (Nat.le_of_ble_eq_true rfl) ?_
  intro p e s m below meth c A ⟨hx, hb, hml, hown, hts⟩ hrt hlocks hnm hsz hK hW hA hG ls hl
  have hown : s.vm.findClass RX10 = some m.cls := hown
  have hl : lv_has ls 4 [(0, .ref aM), (1, .int a0), (2, .int a1)] := hl
  obtain ⟨H, hH⟩ : ∃ H, H = s.heap := ⟨_, rfl⟩
  have hW : xW D A s.heap ([(aM, .inr (10, [.ref mA, .ref mB, .ref mC, .ref mD, .ref mE, .int pm, .int sp, .int (bi iw), .ref mF, .int rn])), (mA, .inl (cJ, 93, .inr (.inl mf)))] ++ []) H [] := by rw [hH]; exact hW
  rw [← hH]
  refine lv_aload_n hx hb dX10_shift_0 rfl (lv_at hl 0 rfl) ?_
  refine lv_iload_n hx hb dX10_shift_1 rfl (lv_at hl 1 rfl) ?_
  refine vp_callSi (va_Run.run (xrunV (As := [.int a0]) (rest := []) ⟨hx, hb, hml, hown, hts⟩ (c_X10_isBox l D cI cJ cZ cB H.size aM mA a0 mB mC mD mE pm sp iw mF rn mf _ rfl) (cwV 1 hts gX10_shift_X10_isBox rfl rfl rfl (by decide +kernel) ⟨Nat.le_of_ble_eq_true rfl, Nat.le_of_ble_eq_true rfl⟩) hK hG hW.2.2 (xsubQ hW hA [0, 1] rfl (by decide)) (va_recv hK hW.1 (ci := 10) (q0 := 0) rfl rfl) rfl hl.1 rfl (Nat.le_of_ble_eq_true rfl) dX10_shift_2 ⟨Nat.le_of_ble_eq_true rfl, Nat.le_of_ble_eq_true rfl⟩)) (fun r1 hq => ?_)
  subst hq
  refine xb_eq (tgt := 16) hx hb dX10_shift_5 (by decide) (fun c1 => ?_) (fun c1 => ?_)
  · skip
    refine lv_iconst (v := -1) hx hb dX10_shift_16 (by decide) ?_
    have hF : f_X10_shift a0 a1 mf = (-1, mf) := by
      rw [f_X10_shift, if_neg c1]
    obtain rfl : (-1, mf) = o := hF.symm.trans ho
    exact W.iret (v := -1) hx hb hrt (fun t ht hM => ⟨⟨_, (), rfl, rfl, ⟨by rw [ht]; exact hW.1, hW.2.1⟩⟩, hW.2.2.F ht⟩) hW.2.2.2.2 dX10_shift_17 hlocks
  · skip
    refine lv_aload_n hx hb dX10_shift_8 rfl (lv_at hl 0 rfl) ?_
    refine lv_iload_n hx hb dX10_shift_9 rfl (lv_at hl 2 rfl) ?_
    refine vp_callSi (va_Run.run (xrunV (As := [.int a1]) (rest := []) ⟨hx, hb, hml, hown, hts⟩ (c_X10_isBox l D cI cJ cZ cB H.size aM mA a1 mB mC mD mE pm sp iw mF rn mf _ rfl) (cwV 1 hts gX10_shift_X10_isBox rfl rfl rfl (by decide +kernel) ⟨Nat.le_of_ble_eq_true rfl, Nat.le_of_ble_eq_true rfl⟩) hK hG hW.2.2 (xsubQ hW hA [0, 1] rfl (by decide)) (va_recv hK hW.1 (ci := 10) (q0 := 0) rfl rfl) rfl hl.1 rfl (Nat.le_of_ble_eq_true rfl) dX10_shift_10 ⟨Nat.le_of_ble_eq_true rfl, Nat.le_of_ble_eq_true rfl⟩)) (fun r2 hq => ?_)
    subst hq
    refine xb_ne (tgt := 18) hx hb dX10_shift_13 (by decide) (fun c2 => ?_) (fun c2 => ?_)
    · skip
      refine lv_aload_n hx hb dX10_shift_18 rfl (lv_at hl 0 rfl) ?_
      refine lv_iload_n hx hb dX10_shift_19 rfl (lv_at hl 1 rfl) ?_
      refine lv_iconst (v := 2) hx hb dX10_shift_20 (by decide) ?_
      refine vp_callSl (va_Run.run (xrunV (As := [.int a0, .int 2]) (rest := []) ⟨hx, hb, hml, hown, hts⟩ (c_X10_of l D cI cJ cZ cB H.size aM mA a0 2 mB mC mD mE pm sp iw mF rn mf (ix_in (isBox_10 c1 hok) ⟨by decide, by decide⟩) _ rfl) (cwV 2 hts gX10_shift_X10_of rfl rfl rfl (by decide +kernel) ⟨Nat.le_of_ble_eq_true rfl, Nat.le_of_ble_eq_true rfl⟩) hK hG hW.2.2 (xsubQ hW hA [0, 1] rfl (by decide)) (va_recv hK hW.1 (ci := 10) (q0 := 0) rfl rfl) rfl hl.1 rfl (Nat.le_of_ble_eq_true rfl) dX10_shift_21 ⟨Nat.le_of_ble_eq_true rfl, Nat.le_of_ble_eq_true rfl⟩)) (fun r3 hq => ?_)
      subst hq
      refine lv_l2i hx hb dX10_shift_24 rfl ?_
      refine lv_istore_n (lv' := [(3, .int (f_X10_of a0 2 mf).toInt32), (0, .ref aM), (1, .int a0), (2, .int a1)]) hx hb dX10_shift_25 rfl hl (by decide) rfl (fun ls hl => ?_)
      refine lv_aload_n hx hb dX10_shift_26 rfl (lv_at hl 1 rfl) ?_
      refine lv_iload_n hx hb dX10_shift_27 rfl (lv_at hl 2 rfl) ?_
      refine lv_iload_n hx hb dX10_shift_28 rfl (lv_at hl 3 rfl) ?_
      refine xQv (wr := []) hW hA [0, 1] [] rfl rfl (by decide) (by decide) (by decide) (xrunV (As := [.int a0, .int a1]) (rest := []) ⟨hx, hb, hml, hown, hts⟩ (c_X10_move l D cI cJ cZ cB H.size aM mA a0 a1 mB mC mD mE pm sp iw mF rn mf (isBox_10 c1 hok) (isBox_10 c2 hok) _ rfl) (cwV 2 hts gX10_shift_X10_move rfl rfl rfl (by decide +kernel) ⟨Nat.le_of_ble_eq_true rfl, Nat.le_of_ble_eq_true rfl⟩) hK hG hW.2.2 (xsubQ hW hA [0, 1] rfl (by decide)) (va_recv hK hW.1 (ci := 10) (q0 := 0) rfl rfl) rfl hl.1 rfl (Nat.le_of_ble_eq_true rfl) dX10_shift_29 ⟨Nat.le_of_ble_eq_true rfl, Nat.le_of_ble_eq_true rfl⟩) (fun _ H locs _ hW => ?_)
      have hW : xW D A s.heap ([(aM, .inr (10, [.ref mA, .ref mB, .ref mC, .ref mD, .ref mE, .int pm, .int sp, .int (bi iw), .ref mF, .int rn])), (mA, .inl (cJ, 93, .inr (.inl (f_X10_move a0 a1 mf))))] ++ []) H _ := hW
      refine lv_iload_n hx hb dX10_shift_32 rfl (lv_at hl 0 rfl) ?_
      have hF : f_X10_shift a0 a1 mf = ((f_X10_of a0 2 mf).toInt32, f_X10_move a0 a1 mf) := by
        rw [f_X10_shift, if_pos c1, if_pos c2]
      obtain rfl : ((f_X10_of a0 2 mf).toInt32, f_X10_move a0 a1 mf) = o := hF.symm.trans ho
      exact W.iret (v := (f_X10_of a0 2 mf).toInt32) hx hb hrt (fun t ht hM => ⟨⟨_, (), rfl, rfl, ⟨by rw [ht]; exact hW.1, hW.2.1⟩⟩, hW.2.2.F ht⟩) hW.2.2.2.2 dX10_shift_33 hlocks
    · skip
      refine lv_iconst (v := -1) hx hb dX10_shift_16 (by decide) ?_
      have hF : f_X10_shift a0 a1 mf = (-1, mf) := by
        rw [f_X10_shift, if_pos c1, if_neg c2]
      obtain rfl : (-1, mf) = o := hF.symm.trans ho
      exact W.iret (v := -1) hx hb hrt (fun t ht hM => ⟨⟨_, (), rfl, rfl, ⟨by rw [ht]; exact hW.1, hW.2.1⟩⟩, hW.2.2.F ht⟩) hW.2.2.2.2 dX10_shift_17 hlocks

def f_X10_takes (a0 : Int32) (a1 : Int32) : Bool :=
  if a0 = 0 then
    f_X10_in a1.toInt64 0 1000
  else
    if a0 = 1 then
      f_X10_in a1.toInt64 1 100
    else
      if a0 = 2 then
        f_X10_in a1.toInt64 0 500
      else
        if a0 = 3 then
          f_X10_in a1.toInt64 0 100
        else
          if a0 = 4 then
            f_X10_in a1.toInt64 0 900
          else
            if a0 = 5 then
              f_X10_in a1.toInt64 1 50000
            else
              if a0 = 6 then
                f_X10_in a1.toInt64 0 50000
              else
                if a0 = 7 then
                  f_X10_in a1.toInt64 0 100
                else
                  if a0 = 8 then
                    f_X10_in a1.toInt64 1 50000
                  else
                    if a0 = 9 then
                      f_X10_in a1.toInt64 1 200
                    else
                      if a0 = 10 then
                        if (f_X10_in a1.toInt64 1 100000) = true then
                          true
                        else
                          false
                      else
                        false
set_option maxHeartbeats 4000000 in
set_option maxRecDepth 100000 in
theorem c_X10_takes (l : Launch) (D : va_G) (cI cJ cZ cB : ClassId) (sz : Nat) (a0 : Int32) (a1 : Int32) (o : Bool) (ho : f_X10_takes a0 a1 = o) : Met l yX10_takes wsX10_takes ({ frames := 1, cells := 0, slots := 0, locals := 25 } : Room) (xPre D (xT cI cJ cZ cB) [.int a0, .int a1] [] sz) (vp_Si (fun r => r = bi o)) 0 0 (fun _ => False) := by
  refine xofW (Qc := fun _ => vp_Si (fun r => r = bi o)) (fr := fun _ _ => False) (cc := cX10_takes) (maxL := 2) (ret := (some .boolean)) (by decide) rfl (Nat.le_of_ble_eq_true rfl) ?_
  intro p e s m below meth c A ⟨hx, hb, hml, hown, hts⟩ hrt hlocks hnm hsz hK hW hA hG ls hl
  have hown : s.vm.findClass RX10 = some m.cls := hown
  have hl : lv_has ls 2 [(0, .int a0), (1, .int a1)] := hl
  obtain ⟨H, hH⟩ : ∃ H, H = s.heap := ⟨_, rfl⟩
  have hW : xW D A s.heap ([] ++ []) H [] := by rw [hH]; exact hW
  have w1 := hts (.constantLong RX10 44 (1000)) (by decide +kernel)
  have w2 := hts (.constantLong RX10 34 (100)) (by decide +kernel)
  have w3 := hts (.constantLong RX10 85 (500)) (by decide +kernel)
  have w4 := hts (.constantLong RX10 87 (900)) (by decide +kernel)
  have w5 := hts (.constantLong RX10 89 (50000)) (by decide +kernel)
  have w6 := hts (.constantLong RX10 91 (200)) (by decide +kernel)
  have w7 := hts (.constantLong RX10 93 (100000)) (by decide +kernel)
  rw [← hH]
  refine lv_iload_n hx hb dX10_takes_0 rfl (lv_at hl 0 rfl) ?_
  by_cases c1 : a0 = 0
  · skip
    refine lv_tableIn (off := 55) (tgt := 56) hx hb dX10_takes_1 (by rw [c1]; decide) (by rw [c1]; decide) (by rw [c1]; rfl) (by decide) ?_
    refine lv_iload_n hx hb dX10_takes_56 rfl (lv_at hl 1 rfl) ?_
    refine lv_i2l hx hb dX10_takes_57 rfl ?_
    refine lv_lconst (v := 0) hx hb dX10_takes_58 (by decide) ?_
    refine lv_ldc2 hx hb hown w1 dX10_takes_59 ?_
    refine vp_callSi (va_Run.run (xrunS (As := [.long a1.toInt64, .long 0, .long 1000]) (rest := []) ⟨hx, hb, hml, hown, hts⟩ (c_X10_in l D cI cJ cZ cB H.size a1.toInt64 0 1000 _ rfl) (cwS 3 hts gX10_takes_X10_in rfl rfl rfl (by decide +kernel) ⟨Nat.le_of_ble_eq_true rfl, Nat.le_of_ble_eq_true rfl⟩) hK hG hW.2.2 (xsubQ hW hA [] rfl (by decide)) rfl hl.1 rfl (Nat.le_of_ble_eq_true rfl) dX10_takes_62 ⟨Nat.le_of_ble_eq_true rfl, Nat.le_of_ble_eq_true rfl⟩)) (fun r1 hq => ?_)
    subst hq
    have hF : f_X10_takes a0 a1 = f_X10_in a1.toInt64 0 1000 := by
      rw [f_X10_takes, if_pos c1]
    obtain rfl : f_X10_in a1.toInt64 0 1000 = o := hF.symm.trans ho
    exact W.zret (v := bi (f_X10_in a1.toInt64 0 1000)) hx hb hrt (bi_nar _) (fun t ht hM => ⟨_, rfl, rfl, ht.trans hH⟩) (fun q h => by cases h) dX10_takes_65 hlocks
  · skip
    by_cases c2 : a0 = 1
    · skip
      refine lv_tableIn (off := 65) (tgt := 66) hx hb dX10_takes_1 (by rw [c2]; decide) (by rw [c2]; decide) (by rw [c2]; rfl) (by decide) ?_
      refine lv_iload_n hx hb dX10_takes_66 rfl (lv_at hl 1 rfl) ?_
      refine lv_i2l hx hb dX10_takes_67 rfl ?_
      refine lv_lconst (v := 1) hx hb dX10_takes_68 (by decide) ?_
      refine lv_ldc2 hx hb hown w2 dX10_takes_69 ?_
      refine vp_callSi (va_Run.run (xrunS (As := [.long a1.toInt64, .long 1, .long 100]) (rest := []) ⟨hx, hb, hml, hown, hts⟩ (c_X10_in l D cI cJ cZ cB H.size a1.toInt64 1 100 _ rfl) (cwS 3 hts gX10_takes_X10_in rfl rfl rfl (by decide +kernel) ⟨Nat.le_of_ble_eq_true rfl, Nat.le_of_ble_eq_true rfl⟩) hK hG hW.2.2 (xsubQ hW hA [] rfl (by decide)) rfl hl.1 rfl (Nat.le_of_ble_eq_true rfl) dX10_takes_72 ⟨Nat.le_of_ble_eq_true rfl, Nat.le_of_ble_eq_true rfl⟩)) (fun r2 hq => ?_)
      subst hq
      have hF : f_X10_takes a0 a1 = f_X10_in a1.toInt64 1 100 := by
        rw [f_X10_takes, if_neg c1, if_pos c2]
      obtain rfl : f_X10_in a1.toInt64 1 100 = o := hF.symm.trans ho
      exact W.zret (v := bi (f_X10_in a1.toInt64 1 100)) hx hb hrt (bi_nar _) (fun t ht hM => ⟨_, rfl, rfl, ht.trans hH⟩) (fun q h => by cases h) dX10_takes_75 hlocks
    · skip
      by_cases c3 : a0 = 2
      · skip
        refine lv_tableIn (off := 75) (tgt := 76) hx hb dX10_takes_1 (by rw [c3]; decide) (by rw [c3]; decide) (by rw [c3]; rfl) (by decide) ?_
        refine lv_iload_n hx hb dX10_takes_76 rfl (lv_at hl 1 rfl) ?_
        refine lv_i2l hx hb dX10_takes_77 rfl ?_
        refine lv_lconst (v := 0) hx hb dX10_takes_78 (by decide) ?_
        refine lv_ldc2 hx hb hown w3 dX10_takes_79 ?_
        refine vp_callSi (va_Run.run (xrunS (As := [.long a1.toInt64, .long 0, .long 500]) (rest := []) ⟨hx, hb, hml, hown, hts⟩ (c_X10_in l D cI cJ cZ cB H.size a1.toInt64 0 500 _ rfl) (cwS 3 hts gX10_takes_X10_in rfl rfl rfl (by decide +kernel) ⟨Nat.le_of_ble_eq_true rfl, Nat.le_of_ble_eq_true rfl⟩) hK hG hW.2.2 (xsubQ hW hA [] rfl (by decide)) rfl hl.1 rfl (Nat.le_of_ble_eq_true rfl) dX10_takes_82 ⟨Nat.le_of_ble_eq_true rfl, Nat.le_of_ble_eq_true rfl⟩)) (fun r3 hq => ?_)
        subst hq
        have hF : f_X10_takes a0 a1 = f_X10_in a1.toInt64 0 500 := by
          rw [f_X10_takes, if_neg c1, if_neg c2, if_pos c3]
        obtain rfl : f_X10_in a1.toInt64 0 500 = o := hF.symm.trans ho
        exact W.zret (v := bi (f_X10_in a1.toInt64 0 500)) hx hb hrt (bi_nar _) (fun t ht hM => ⟨_, rfl, rfl, ht.trans hH⟩) (fun q h => by cases h) dX10_takes_85 hlocks
      · skip
        by_cases c4 : a0 = 3
        · skip
          refine lv_tableIn (off := 85) (tgt := 86) hx hb dX10_takes_1 (by rw [c4]; decide) (by rw [c4]; decide) (by rw [c4]; rfl) (by decide) ?_
          refine lv_iload_n hx hb dX10_takes_86 rfl (lv_at hl 1 rfl) ?_
          refine lv_i2l hx hb dX10_takes_87 rfl ?_
          refine lv_lconst (v := 0) hx hb dX10_takes_88 (by decide) ?_
          refine lv_ldc2 hx hb hown w2 dX10_takes_89 ?_
          refine vp_callSi (va_Run.run (xrunS (As := [.long a1.toInt64, .long 0, .long 100]) (rest := []) ⟨hx, hb, hml, hown, hts⟩ (c_X10_in l D cI cJ cZ cB H.size a1.toInt64 0 100 _ rfl) (cwS 3 hts gX10_takes_X10_in rfl rfl rfl (by decide +kernel) ⟨Nat.le_of_ble_eq_true rfl, Nat.le_of_ble_eq_true rfl⟩) hK hG hW.2.2 (xsubQ hW hA [] rfl (by decide)) rfl hl.1 rfl (Nat.le_of_ble_eq_true rfl) dX10_takes_92 ⟨Nat.le_of_ble_eq_true rfl, Nat.le_of_ble_eq_true rfl⟩)) (fun r4 hq => ?_)
          subst hq
          have hF : f_X10_takes a0 a1 = f_X10_in a1.toInt64 0 100 := by
            rw [f_X10_takes, if_neg c1, if_neg c2, if_neg c3, if_pos c4]
          obtain rfl : f_X10_in a1.toInt64 0 100 = o := hF.symm.trans ho
          exact W.zret (v := bi (f_X10_in a1.toInt64 0 100)) hx hb hrt (bi_nar _) (fun t ht hM => ⟨_, rfl, rfl, ht.trans hH⟩) (fun q h => by cases h) dX10_takes_95 hlocks
        · skip
          by_cases c5 : a0 = 4
          · skip
            refine lv_tableIn (off := 95) (tgt := 96) hx hb dX10_takes_1 (by rw [c5]; decide) (by rw [c5]; decide) (by rw [c5]; rfl) (by decide) ?_
            refine lv_iload_n hx hb dX10_takes_96 rfl (lv_at hl 1 rfl) ?_
            refine lv_i2l hx hb dX10_takes_97 rfl ?_
            refine lv_lconst (v := 0) hx hb dX10_takes_98 (by decide) ?_
            refine lv_ldc2 hx hb hown w4 dX10_takes_99 ?_
            refine vp_callSi (va_Run.run (xrunS (As := [.long a1.toInt64, .long 0, .long 900]) (rest := []) ⟨hx, hb, hml, hown, hts⟩ (c_X10_in l D cI cJ cZ cB H.size a1.toInt64 0 900 _ rfl) (cwS 3 hts gX10_takes_X10_in rfl rfl rfl (by decide +kernel) ⟨Nat.le_of_ble_eq_true rfl, Nat.le_of_ble_eq_true rfl⟩) hK hG hW.2.2 (xsubQ hW hA [] rfl (by decide)) rfl hl.1 rfl (Nat.le_of_ble_eq_true rfl) dX10_takes_102 ⟨Nat.le_of_ble_eq_true rfl, Nat.le_of_ble_eq_true rfl⟩)) (fun r5 hq => ?_)
            subst hq
            have hF : f_X10_takes a0 a1 = f_X10_in a1.toInt64 0 900 := by
              rw [f_X10_takes, if_neg c1, if_neg c2, if_neg c3, if_neg c4, if_pos c5]
            obtain rfl : f_X10_in a1.toInt64 0 900 = o := hF.symm.trans ho
            exact W.zret (v := bi (f_X10_in a1.toInt64 0 900)) hx hb hrt (bi_nar _) (fun t ht hM => ⟨_, rfl, rfl, ht.trans hH⟩) (fun q h => by cases h) dX10_takes_105 hlocks
          · skip
            by_cases c6 : a0 = 5
            · skip
              refine lv_tableIn (off := 105) (tgt := 106) hx hb dX10_takes_1 (by rw [c6]; decide) (by rw [c6]; decide) (by rw [c6]; rfl) (by decide) ?_
              refine lv_iload_n hx hb dX10_takes_106 rfl (lv_at hl 1 rfl) ?_
              refine lv_i2l hx hb dX10_takes_107 rfl ?_
              refine lv_lconst (v := 1) hx hb dX10_takes_108 (by decide) ?_
              refine lv_ldc2 hx hb hown w5 dX10_takes_109 ?_
              refine vp_callSi (va_Run.run (xrunS (As := [.long a1.toInt64, .long 1, .long 50000]) (rest := []) ⟨hx, hb, hml, hown, hts⟩ (c_X10_in l D cI cJ cZ cB H.size a1.toInt64 1 50000 _ rfl) (cwS 3 hts gX10_takes_X10_in rfl rfl rfl (by decide +kernel) ⟨Nat.le_of_ble_eq_true rfl, Nat.le_of_ble_eq_true rfl⟩) hK hG hW.2.2 (xsubQ hW hA [] rfl (by decide)) rfl hl.1 rfl (Nat.le_of_ble_eq_true rfl) dX10_takes_112 ⟨Nat.le_of_ble_eq_true rfl, Nat.le_of_ble_eq_true rfl⟩)) (fun r6 hq => ?_)
              subst hq
              have hF : f_X10_takes a0 a1 = f_X10_in a1.toInt64 1 50000 := by
                rw [f_X10_takes, if_neg c1, if_neg c2, if_neg c3, if_neg c4, if_neg c5, if_pos c6]
              obtain rfl : f_X10_in a1.toInt64 1 50000 = o := hF.symm.trans ho
              exact W.zret (v := bi (f_X10_in a1.toInt64 1 50000)) hx hb hrt (bi_nar _) (fun t ht hM => ⟨_, rfl, rfl, ht.trans hH⟩) (fun q h => by cases h) dX10_takes_115 hlocks
            · skip
              by_cases c7 : a0 = 6
              · skip
                refine lv_tableIn (off := 115) (tgt := 116) hx hb dX10_takes_1 (by rw [c7]; decide) (by rw [c7]; decide) (by rw [c7]; rfl) (by decide) ?_
                refine lv_iload_n hx hb dX10_takes_116 rfl (lv_at hl 1 rfl) ?_
                refine lv_i2l hx hb dX10_takes_117 rfl ?_
                refine lv_lconst (v := 0) hx hb dX10_takes_118 (by decide) ?_
                refine lv_ldc2 hx hb hown w5 dX10_takes_119 ?_
                refine vp_callSi (va_Run.run (xrunS (As := [.long a1.toInt64, .long 0, .long 50000]) (rest := []) ⟨hx, hb, hml, hown, hts⟩ (c_X10_in l D cI cJ cZ cB H.size a1.toInt64 0 50000 _ rfl) (cwS 3 hts gX10_takes_X10_in rfl rfl rfl (by decide +kernel) ⟨Nat.le_of_ble_eq_true rfl, Nat.le_of_ble_eq_true rfl⟩) hK hG hW.2.2 (xsubQ hW hA [] rfl (by decide)) rfl hl.1 rfl (Nat.le_of_ble_eq_true rfl) dX10_takes_122 ⟨Nat.le_of_ble_eq_true rfl, Nat.le_of_ble_eq_true rfl⟩)) (fun r7 hq => ?_)
                subst hq
                have hF : f_X10_takes a0 a1 = f_X10_in a1.toInt64 0 50000 := by
                  rw [f_X10_takes, if_neg c1, if_neg c2, if_neg c3, if_neg c4, if_neg c5, if_neg c6, if_pos c7]
                obtain rfl : f_X10_in a1.toInt64 0 50000 = o := hF.symm.trans ho
                exact W.zret (v := bi (f_X10_in a1.toInt64 0 50000)) hx hb hrt (bi_nar _) (fun t ht hM => ⟨_, rfl, rfl, ht.trans hH⟩) (fun q h => by cases h) dX10_takes_125 hlocks
              · skip
                by_cases c8 : a0 = 7
                · skip
                  refine lv_tableIn (off := 85) (tgt := 86) hx hb dX10_takes_1 (by rw [c8]; decide) (by rw [c8]; decide) (by rw [c8]; rfl) (by decide) ?_
                  refine lv_iload_n hx hb dX10_takes_86 rfl (lv_at hl 1 rfl) ?_
                  refine lv_i2l hx hb dX10_takes_87 rfl ?_
                  refine lv_lconst (v := 0) hx hb dX10_takes_88 (by decide) ?_
                  refine lv_ldc2 hx hb hown w2 dX10_takes_89 ?_
                  refine vp_callSi (va_Run.run (xrunS (As := [.long a1.toInt64, .long 0, .long 100]) (rest := []) ⟨hx, hb, hml, hown, hts⟩ (c_X10_in l D cI cJ cZ cB H.size a1.toInt64 0 100 _ rfl) (cwS 3 hts gX10_takes_X10_in rfl rfl rfl (by decide +kernel) ⟨Nat.le_of_ble_eq_true rfl, Nat.le_of_ble_eq_true rfl⟩) hK hG hW.2.2 (xsubQ hW hA [] rfl (by decide)) rfl hl.1 rfl (Nat.le_of_ble_eq_true rfl) dX10_takes_92 ⟨Nat.le_of_ble_eq_true rfl, Nat.le_of_ble_eq_true rfl⟩)) (fun r8 hq => ?_)
                  subst hq
                  have hF : f_X10_takes a0 a1 = f_X10_in a1.toInt64 0 100 := by
                    rw [f_X10_takes, if_neg c1, if_neg c2, if_neg c3, if_neg c4, if_neg c5, if_neg c6, if_neg c7, if_pos c8]
                  obtain rfl : f_X10_in a1.toInt64 0 100 = o := hF.symm.trans ho
                  exact W.zret (v := bi (f_X10_in a1.toInt64 0 100)) hx hb hrt (bi_nar _) (fun t ht hM => ⟨_, rfl, rfl, ht.trans hH⟩) (fun q h => by cases h) dX10_takes_95 hlocks
                · skip
                  by_cases c9 : a0 = 8
                  · skip
                    refine lv_tableIn (off := 105) (tgt := 106) hx hb dX10_takes_1 (by rw [c9]; decide) (by rw [c9]; decide) (by rw [c9]; rfl) (by decide) ?_
                    refine lv_iload_n hx hb dX10_takes_106 rfl (lv_at hl 1 rfl) ?_
                    refine lv_i2l hx hb dX10_takes_107 rfl ?_
                    refine lv_lconst (v := 1) hx hb dX10_takes_108 (by decide) ?_
                    refine lv_ldc2 hx hb hown w5 dX10_takes_109 ?_
                    refine vp_callSi (va_Run.run (xrunS (As := [.long a1.toInt64, .long 1, .long 50000]) (rest := []) ⟨hx, hb, hml, hown, hts⟩ (c_X10_in l D cI cJ cZ cB H.size a1.toInt64 1 50000 _ rfl) (cwS 3 hts gX10_takes_X10_in rfl rfl rfl (by decide +kernel) ⟨Nat.le_of_ble_eq_true rfl, Nat.le_of_ble_eq_true rfl⟩) hK hG hW.2.2 (xsubQ hW hA [] rfl (by decide)) rfl hl.1 rfl (Nat.le_of_ble_eq_true rfl) dX10_takes_112 ⟨Nat.le_of_ble_eq_true rfl, Nat.le_of_ble_eq_true rfl⟩)) (fun r9 hq => ?_)
                    subst hq
                    have hF : f_X10_takes a0 a1 = f_X10_in a1.toInt64 1 50000 := by
                      rw [f_X10_takes, if_neg c1, if_neg c2, if_neg c3, if_neg c4, if_neg c5, if_neg c6, if_neg c7, if_neg c8, if_pos c9]
                    obtain rfl : f_X10_in a1.toInt64 1 50000 = o := hF.symm.trans ho
                    exact W.zret (v := bi (f_X10_in a1.toInt64 1 50000)) hx hb hrt (bi_nar _) (fun t ht hM => ⟨_, rfl, rfl, ht.trans hH⟩) (fun q h => by cases h) dX10_takes_115 hlocks
                  · skip
                    by_cases c10 : a0 = 9
                    · skip
                      refine lv_tableIn (off := 125) (tgt := 126) hx hb dX10_takes_1 (by rw [c10]; decide) (by rw [c10]; decide) (by rw [c10]; rfl) (by decide) ?_
                      refine lv_iload_n hx hb dX10_takes_126 rfl (lv_at hl 1 rfl) ?_
                      refine lv_i2l hx hb dX10_takes_127 rfl ?_
                      refine lv_lconst (v := 1) hx hb dX10_takes_128 (by decide) ?_
                      refine lv_ldc2 hx hb hown w6 dX10_takes_129 ?_
                      refine vp_callSi (va_Run.run (xrunS (As := [.long a1.toInt64, .long 1, .long 200]) (rest := []) ⟨hx, hb, hml, hown, hts⟩ (c_X10_in l D cI cJ cZ cB H.size a1.toInt64 1 200 _ rfl) (cwS 3 hts gX10_takes_X10_in rfl rfl rfl (by decide +kernel) ⟨Nat.le_of_ble_eq_true rfl, Nat.le_of_ble_eq_true rfl⟩) hK hG hW.2.2 (xsubQ hW hA [] rfl (by decide)) rfl hl.1 rfl (Nat.le_of_ble_eq_true rfl) dX10_takes_132 ⟨Nat.le_of_ble_eq_true rfl, Nat.le_of_ble_eq_true rfl⟩)) (fun r10 hq => ?_)
                      subst hq
                      have hF : f_X10_takes a0 a1 = f_X10_in a1.toInt64 1 200 := by
                        rw [f_X10_takes, if_neg c1, if_neg c2, if_neg c3, if_neg c4, if_neg c5, if_neg c6, if_neg c7, if_neg c8, if_neg c9, if_pos c10]
                      obtain rfl : f_X10_in a1.toInt64 1 200 = o := hF.symm.trans ho
                      exact W.zret (v := bi (f_X10_in a1.toInt64 1 200)) hx hb hrt (bi_nar _) (fun t ht hM => ⟨_, rfl, rfl, ht.trans hH⟩) (fun q h => by cases h) dX10_takes_135 hlocks
                    · skip
                      refine lv_tableOut (tgt := 136) hx hb dX10_takes_1 (xsw a0 0 9 (fun k9 h9 => by rcases (show k9 = 0 ∨ k9 = 1 ∨ k9 = 2 ∨ k9 = 3 ∨ k9 = 4 ∨ k9 = 5 ∨ k9 = 6 ∨ k9 = 7 ∨ k9 = 8 ∨ k9 = 9 by omega) with rfl | rfl | rfl | rfl | rfl | rfl | rfl | rfl | rfl | rfl <;> first | exact xsne c1 (by decide) | exact xsne c2 (by decide) | exact xsne c3 (by decide) | exact xsne c4 (by decide) | exact xsne c5 (by decide) | exact xsne c6 (by decide) | exact xsne c7 (by decide) | exact xsne c8 (by decide) | exact xsne c9 (by decide) | exact xsne c10 (by decide))) (by decide) ?_
                      refine lv_iload_n hx hb dX10_takes_136 rfl (lv_at hl 0 rfl) ?_
                      refine lv_bipush (v := 10) hx hb dX10_takes_137 (by decide) ?_
                      refine lv_icmp_ne (tgt := 158) hx hb dX10_takes_139 (by decide) (fun c11 => ?_) (fun c11 => ?_)
                      · skip
                        refine lv_iconst (v := 0) hx hb dX10_takes_158 (by decide) ?_
                        have hF : f_X10_takes a0 a1 = false := by
                          rw [f_X10_takes, if_neg c1, if_neg c2, if_neg c3, if_neg c4, if_neg c5, if_neg c6, if_neg c7, if_neg c8, if_neg c9, if_neg c10, if_neg c11]
                        obtain rfl : false = o := hF.symm.trans ho
                        exact W.zret (v := bi false) hx hb hrt (bi_nar _) (fun t ht hM => ⟨_, rfl, rfl, ht.trans hH⟩) (fun q h => by cases h) dX10_takes_159 hlocks
                      · skip
                        refine lv_iload_n hx hb dX10_takes_142 rfl (lv_at hl 1 rfl) ?_
                        refine lv_i2l hx hb dX10_takes_143 rfl ?_
                        refine lv_lconst (v := 1) hx hb dX10_takes_144 (by decide) ?_
                        refine lv_ldc2 hx hb hown w7 dX10_takes_145 ?_
                        refine vp_callSi (va_Run.run (xrunS (As := [.long a1.toInt64, .long 1, .long 100000]) (rest := []) ⟨hx, hb, hml, hown, hts⟩ (c_X10_in l D cI cJ cZ cB H.size a1.toInt64 1 100000 _ rfl) (cwS 3 hts gX10_takes_X10_in rfl rfl rfl (by decide +kernel) ⟨Nat.le_of_ble_eq_true rfl, Nat.le_of_ble_eq_true rfl⟩) hK hG hW.2.2 (xsubQ hW hA [] rfl (by decide)) rfl hl.1 rfl (Nat.le_of_ble_eq_true rfl) dX10_takes_148 ⟨Nat.le_of_ble_eq_true rfl, Nat.le_of_ble_eq_true rfl⟩)) (fun r11 hq => ?_)
                        subst hq
                        refine xb_eq (tgt := 158) hx hb dX10_takes_151 (by decide) (fun c12 => ?_) (fun c12 => ?_)
                        · skip
                          refine lv_iconst (v := 0) hx hb dX10_takes_158 (by decide) ?_
                          have hF : f_X10_takes a0 a1 = false := by
                            rw [f_X10_takes, if_neg c1, if_neg c2, if_neg c3, if_neg c4, if_neg c5, if_neg c6, if_neg c7, if_neg c8, if_neg c9, if_neg c10, if_pos c11, if_neg c12]
                          obtain rfl : false = o := hF.symm.trans ho
                          exact W.zret (v := bi false) hx hb hrt (bi_nar _) (fun t ht hM => ⟨_, rfl, rfl, ht.trans hH⟩) (fun q h => by cases h) dX10_takes_159 hlocks
                        · skip
                          refine lv_iconst (v := 1) hx hb dX10_takes_154 (by decide) ?_
                          refine lv_goto (tgt := 159) hx hb dX10_takes_155 (by decide) ?_
                          have hF : f_X10_takes a0 a1 = true := by
                            rw [f_X10_takes, if_neg c1, if_neg c2, if_neg c3, if_neg c4, if_neg c5, if_neg c6, if_neg c7, if_neg c8, if_neg c9, if_neg c10, if_pos c11, if_pos c12]
                          obtain rfl : true = o := hF.symm.trans ho
                          exact W.zret (v := bi true) hx hb hrt (bi_nar _) (fun t ht hM => ⟨_, rfl, rfl, ht.trans hH⟩) (fun q h => by cases h) dX10_takes_159 hlocks

theorem takes_in {s v : Int32} (h : f_X10_takes s v = true) : 0 ≤ s.toInt ∧ s.toInt < 11 := by
  unfold f_X10_takes at h
  repeat' split at h
  all_goals first
    | (rename_i q; subst q; exact ⟨by decide, by decide⟩)
    | (subst_vars; exact ⟨by decide, by decide⟩)
    | cases h
theorem set_in {s v : Int32} (h : f_X10_takes s v = true) : vp_in (64 + s) 93 := by
  have h1 := takes_in h
  have e : (64 : Int32).toInt = 64 := by decide
  refine vp_in_iff.mpr ?_
  rw [xaddI (by rw [e]; omega) (by rw [e]; omega), e]
  omega
theorem leg_ok {f : Nat → Int64} (hok : okM f) (h : ¬ f_X10_legs f = 12) : 0 ≤ (f_X10_legs f).toInt ∧ (f_X10_legs f).toInt < 12 := by
  have h1 : (f_X10_legs f).toInt = (f 76).toInt := okM_nl hok
  have h2 := hok.2.1
  have h4 : (f_X10_legs f).toInt ≠ 12 := fun q => h (Int32.toInt_inj.mp (q.trans (show (12 : Int) = (12 : Int32).toInt by decide)))
  omega
theorem lg_i {x : Int32} (h : -1 ≤ x.toInt ∧ x.toInt < 12) : (40 + 2 * x).toInt = 40 + 2 * x.toInt := by
  have e2 : (2 : Int32).toInt = 2 := by decide
  have e40 : (40 : Int32).toInt = 40 := by decide
  have h1 : (2 * x).toInt = 2 * x.toInt := by rw [xmulI (by rw [e2]; omega) (by rw [e2]; omega), e2]
  rw [xaddI (by rw [e40, h1]; omega) (by rw [e40, h1]; omega), e40, h1]
theorem lg_in {x : Int32} (h : -1 ≤ x.toInt ∧ x.toInt < 12) : vp_in (40 + 2 * x) 93 := by
  refine vp_in_iff.mpr ?_
  rw [lg_i h]; omega
theorem lg_in1 {x : Int32} (h : -1 ≤ x.toInt ∧ x.toInt < 12) : vp_in (40 + 2 * x + 1) 93 := by
  have e := xI1
  refine vp_in_iff.mpr ?_
  rw [xaddI (by rw [lg_i h, e]; omega) (by rw [lg_i h, e]; omega), lg_i h, e]; omega
theorem lg_up {x : Int32} (h : 0 ≤ x.toInt ∧ x.toInt < 12) : -1 ≤ x.toInt ∧ x.toInt < 12 := by omega
theorem lg_la {f : Nat → Int64} (hok : okM f) : -1 ≤ (f 84).toInt32.toInt ∧ (f 84).toInt32.toInt < 12 := by
  have h := hok.2.2.1
  rw [okM_la hok]; omega

def f_X10_set (a0 : Int32) (a1 : Int32) (mf : Nat → Int64) : Int32 × (Nat → Int64) :=
  if (f_X10_takes a0 a1) = true then
    ((mf (64 + a0).toNatClampNeg).toInt32, vp_updL mf (64 + a0).toNatClampNeg a1.toInt64)
  else
    (-2, mf)
set_option maxHeartbeats 4000000 in
set_option maxRecDepth 100000 in
theorem c_X10_set (l : Launch) (D : va_G) (cI cJ cZ cB : ClassId) (sz : Nat) (aM : Nat) (mA : Nat) (a0 : Int32) (a1 : Int32) (mB : Nat) (mC : Nat) (mD : Nat) (mE : Nat) (pm : Int32) (sp : Int32) (iw : Bool) (mF : Nat) (rn : Int32) (mf : Nat → Int64) (hok : okM mf) (o : Int32 × (Nat → Int64)) (ho : f_X10_set a0 a1 mf = o) : Met l yX10_set wsX10_set ({ frames := 2, cells := 0, slots := 0, locals := 46 } : Room) (xPre D (xT cI cJ cZ cB) [.ref aM, .int a0, .int a1] [(aM, .inr (10, [.ref mA, .ref mB, .ref mC, .ref mD, .ref mE, .int pm, .int sp, .int (bi iw), .ref mF, .int rn])), (mA, .inl (cJ, 93, .inr (.inl mf)))] sz) (va_Qi (fun r (_ : Unit) => r = o.1) (fun _ t => xB D ([(aM, .inr (10, [.ref mA, .ref mB, .ref mC, .ref mD, .ref mE, .int pm, .int sp, .int (bi iw), .ref mF, .int rn])), (mA, .inl (cJ, 93, .inr (.inl o.2)))]) (va_A [(aM, .inr (10, [.ref mA, .ref mB, .ref mC, .ref mD, .ref mE, .int pm, .int sp, .int (bi iw), .ref mF, .int rn])), (mA, .inl (cJ, 93, .inr (.inl mf)))] sz) t) (va_A [(aM, .inr (10, [.ref mA, .ref mB, .ref mC, .ref mD, .ref mE, .int pm, .int sp, .int (bi iw), .ref mF, .int rn])), (mA, .inl (cJ, 93, .inr (.inl mf)))] sz)) 0 0 (va_A [(aM, .inr (10, [.ref mA, .ref mB, .ref mC, .ref mD, .ref mE, .int pm, .int sp, .int (bi iw), .ref mF, .int rn])), (mA, .inl (cJ, 93, .inr (.inl mf)))] sz) := by
  refine xofW (Qc := fun A0 => va_Qi (fun r (_ : Unit) => r = o.1) (fun _ t => xB D ([(aM, .inr (10, [.ref mA, .ref mB, .ref mC, .ref mD, .ref mE, .int pm, .int sp, .int (bi iw), .ref mF, .int rn])), (mA, .inl (cJ, 93, .inr (.inl o.2)))]) A0 t) A0) (fr := fun A => A) (cc := cX10_set) (maxL := 4) (ret := (some .int)) (by decide) rfl (Nat.le_of_ble_eq_true rfl) ?_
  intro p e s m below meth c A ⟨hx, hb, hml, hown, hts⟩ hrt hlocks hnm hsz hK hW hA hG ls hl
  have hown : s.vm.findClass RX10 = some m.cls := hown
  have hl : lv_has ls 4 [(0, .ref aM), (1, .int a0), (2, .int a1)] := hl
  obtain ⟨H, hH⟩ : ∃ H, H = s.heap := ⟨_, rfl⟩
  have hW : xW D A s.heap ([(aM, .inr (10, [.ref mA, .ref mB, .ref mC, .ref mD, .ref mE, .int pm, .int sp, .int (bi iw), .ref mF, .int rn])), (mA, .inl (cJ, 93, .inr (.inl mf)))] ++ []) H [] := by rw [hH]; exact hW
  have w1 := hts (.fieldLink RX10 7 "DryIceLaneModel" "at" "[J") (by decide +kernel)
  have hin10 : ∀ w ∈ u_ws RX10 TX10 10, w ∈ wsX10_set := by decide +kernel
  rw [← hH]
  refine lv_iload_n hx hb dX10_set_0 rfl (lv_at hl 1 rfl) ?_
  refine lv_iload_n hx hb dX10_set_1 rfl (lv_at hl 2 rfl) ?_
  refine vp_callSi (va_Run.run (xrunS (As := [.int a0, .int a1]) (rest := []) ⟨hx, hb, hml, hown, hts⟩ (c_X10_takes l D cI cJ cZ cB H.size a0 a1 _ rfl) (cwS 2 hts gX10_set_X10_takes rfl rfl rfl (by decide +kernel) ⟨Nat.le_of_ble_eq_true rfl, Nat.le_of_ble_eq_true rfl⟩) hK hG hW.2.2 (xsubQ hW hA [] rfl (by decide)) rfl hl.1 rfl (Nat.le_of_ble_eq_true rfl) dX10_set_2 ⟨Nat.le_of_ble_eq_true rfl, Nat.le_of_ble_eq_true rfl⟩)) (fun r1 hq => ?_)
  subst hq
  refine xb_ne (tgt := 11) hx hb dX10_set_5 (by decide) (fun c1 => ?_) (fun c1 => ?_)
  · skip
    refine lv_aload_n hx hb dX10_set_11 rfl (lv_at hl 0 rfl) ?_
    refine xget (ci := 10) (C := RX10) (T := TX10) (N := 10) hx hb hts hin10 hown hK hW.1 0 rfl rfl 0 (by decide) w1 rfl dX10_set_12 ?_
    refine lv_bipush (v := 64) hx hb dX10_set_15 (by decide) ?_
    refine lv_iload_n hx hb dX10_set_17 rfl (lv_at hl 1 rfl) ?_
    refine lv_iadd hx hb dX10_set_18 ?_
    refine xlald hx hb hK hW.1 1 1 rfl rfl (set_in c1) (64 + a0).toNatClampNeg rfl (v := mf (64 + a0).toNatClampNeg) rfl dX10_set_19 ?_
    refine lv_l2i hx hb dX10_set_20 rfl ?_
    refine lv_istore_n (lv' := [(3, .int (mf (64 + a0).toNatClampNeg).toInt32), (0, .ref aM), (1, .int a0), (2, .int a1)]) hx hb dX10_set_21 rfl hl (by decide) rfl (fun ls hl => ?_)
    refine lv_aload_n hx hb dX10_set_22 rfl (lv_at hl 1 rfl) ?_
    refine xget (ci := 10) (C := RX10) (T := TX10) (N := 10) hx hb hts hin10 hown hK hW.1 0 rfl rfl 0 (by decide) w1 rfl dX10_set_23 ?_
    refine lv_bipush (v := 64) hx hb dX10_set_26 (by decide) ?_
    refine lv_iload_n hx hb dX10_set_28 rfl (lv_at hl 2 rfl) ?_
    refine lv_iadd hx hb dX10_set_29 ?_
    refine lv_iload_n hx hb dX10_set_30 rfl (lv_at hl 3 rfl) ?_
    refine lv_i2l hx hb dX10_set_31 rfl ?_
    refine xlast hx hb hK hW 1 1 rfl (Nat.le_of_ble_eq_true rfl) rfl (set_in c1) (64 + a0).toNatClampNeg rfl dX10_set_32 (fun H locs hW => ?_)
    have hW : xW D A s.heap ([(aM, .inr (10, [.ref mA, .ref mB, .ref mC, .ref mD, .ref mE, .int pm, .int sp, .int (bi iw), .ref mF, .int rn])), (mA, .inl (cJ, 93, .inr (.inl (vp_updL mf (64 + a0).toNatClampNeg a1.toInt64))))] ++ []) H _ := hW
    refine lv_iload_n hx hb dX10_set_33 rfl (lv_at hl 0 rfl) ?_
    have hF : f_X10_set a0 a1 mf = ((mf (64 + a0).toNatClampNeg).toInt32, vp_updL mf (64 + a0).toNatClampNeg a1.toInt64) := by
      rw [f_X10_set, if_pos c1]
    obtain rfl : ((mf (64 + a0).toNatClampNeg).toInt32, vp_updL mf (64 + a0).toNatClampNeg a1.toInt64) = o := hF.symm.trans ho
    exact W.iret (v := (mf (64 + a0).toNatClampNeg).toInt32) hx hb hrt (fun t ht hM => ⟨⟨_, (), rfl, rfl, ⟨by rw [ht]; exact hW.1, hW.2.1⟩⟩, hW.2.2.F ht⟩) hW.2.2.2.2 dX10_set_34 hlocks
  · skip
    refine lv_bipush (v := -2) hx hb dX10_set_8 (by decide) ?_
    have hF : f_X10_set a0 a1 mf = (-2, mf) := by
      rw [f_X10_set, if_neg c1]
    obtain rfl : (-2, mf) = o := hF.symm.trans ho
    exact W.iret (v := -2) hx hb hrt (fun t ht hM => ⟨⟨_, (), rfl, rfl, ⟨by rw [ht]; exact hW.1, hW.2.1⟩⟩, hW.2.2.F ht⟩) hW.2.2.2.2 dX10_set_10 hlocks

def f_X10_leg (a0 : Int32) (a1 : Int32) (mf : Nat → Int64) : Int32 × (Nat → Int64) :=
  if (f_X10_in a0.toInt64 1 600) = true then
    if (f_X10_in a1.toInt64 (-4000) 5000) = true then
      if (f_X10_legs mf) = 12 then
        (-4, mf)
      else
        (f_X10_legs mf, vp_updL (vp_updL (vp_updL mf (40 + (2 * (f_X10_legs mf))).toNatClampNeg a0.toInt64) ((40 + (2 * (f_X10_legs mf))) + 1).toNatClampNeg a1.toInt64) 76 (((vp_updL (vp_updL mf (40 + (2 * (f_X10_legs mf))).toNatClampNeg a0.toInt64) ((40 + (2 * (f_X10_legs mf))) + 1).toNatClampNeg a1.toInt64) 76) + 1))
    else
      (-2, mf)
  else
    (-2, mf)
set_option maxHeartbeats 4000000 in
set_option maxRecDepth 100000 in
theorem c_X10_leg (l : Launch) (D : va_G) (cI cJ cZ cB : ClassId) (sz : Nat) (aM : Nat) (mA : Nat) (a0 : Int32) (a1 : Int32) (mB : Nat) (mC : Nat) (mD : Nat) (mE : Nat) (pm : Int32) (sp : Int32) (iw : Bool) (mF : Nat) (rn : Int32) (mf : Nat → Int64) (hok : okM mf) (o : Int32 × (Nat → Int64)) (ho : f_X10_leg a0 a1 mf = o) : Met l yX10_leg wsX10_leg ({ frames := 1, cells := 0, slots := 0, locals := 25 } : Room) (xPre D (xT cI cJ cZ cB) [.ref aM, .int a0, .int a1] [(aM, .inr (10, [.ref mA, .ref mB, .ref mC, .ref mD, .ref mE, .int pm, .int sp, .int (bi iw), .ref mF, .int rn])), (mA, .inl (cJ, 93, .inr (.inl mf)))] sz) (va_Qi (fun r (_ : Unit) => r = o.1) (fun _ t => xB D ([(aM, .inr (10, [.ref mA, .ref mB, .ref mC, .ref mD, .ref mE, .int pm, .int sp, .int (bi iw), .ref mF, .int rn])), (mA, .inl (cJ, 93, .inr (.inl o.2)))]) (va_A [(aM, .inr (10, [.ref mA, .ref mB, .ref mC, .ref mD, .ref mE, .int pm, .int sp, .int (bi iw), .ref mF, .int rn])), (mA, .inl (cJ, 93, .inr (.inl mf)))] sz) t) (va_A [(aM, .inr (10, [.ref mA, .ref mB, .ref mC, .ref mD, .ref mE, .int pm, .int sp, .int (bi iw), .ref mF, .int rn])), (mA, .inl (cJ, 93, .inr (.inl mf)))] sz)) 0 0 (va_A [(aM, .inr (10, [.ref mA, .ref mB, .ref mC, .ref mD, .ref mE, .int pm, .int sp, .int (bi iw), .ref mF, .int rn])), (mA, .inl (cJ, 93, .inr (.inl mf)))] sz) := by
  refine xofW (Qc := fun A0 => va_Qi (fun r (_ : Unit) => r = o.1) (fun _ t => xB D ([(aM, .inr (10, [.ref mA, .ref mB, .ref mC, .ref mD, .ref mE, .int pm, .int sp, .int (bi iw), .ref mF, .int rn])), (mA, .inl (cJ, 93, .inr (.inl o.2)))]) A0 t) A0) (fr := fun A => A) (cc := cX10_leg) (maxL := 4) (ret := (some .int)) (by decide) rfl (Nat.le_of_ble_eq_true rfl) ?_
  intro p e s m below meth c A ⟨hx, hb, hml, hown, hts⟩ hrt hlocks hnm hsz hK hW hA hG ls hl
  have hown : s.vm.findClass RX10 = some m.cls := hown
  have hl : lv_has ls 4 [(0, .ref aM), (1, .int a0), (2, .int a1)] := hl
  obtain ⟨H, hH⟩ : ∃ H, H = s.heap := ⟨_, rfl⟩
  have hW : xW D A s.heap ([(aM, .inr (10, [.ref mA, .ref mB, .ref mC, .ref mD, .ref mE, .int pm, .int sp, .int (bi iw), .ref mF, .int rn])), (mA, .inl (cJ, 93, .inr (.inl mf)))] ++ []) H [] := by rw [hH]; exact hW
  have w1 := hts (.constantLong RX10 99 (600)) (by decide +kernel)
  have w2 := hts (.constantLong RX10 101 (-4000)) (by decide +kernel)
  have w3 := hts (.constantLong RX10 42 (5000)) (by decide +kernel)
  have w4 := hts (.fieldLink RX10 7 "DryIceLaneModel" "at" "[J") (by decide +kernel)
  have hin10 : ∀ w ∈ u_ws RX10 TX10 10, w ∈ wsX10_leg := by decide +kernel
  rw [← hH]
  refine lv_iload_n hx hb dX10_leg_0 rfl (lv_at hl 1 rfl) ?_
  refine lv_i2l hx hb dX10_leg_1 rfl ?_
  refine lv_lconst (v := 1) hx hb dX10_leg_2 (by decide) ?_
  refine lv_ldc2 hx hb hown w1 dX10_leg_3 ?_
  refine vp_callSi (va_Run.run (xrunS (As := [.long a0.toInt64, .long 1, .long 600]) (rest := []) ⟨hx, hb, hml, hown, hts⟩ (c_X10_in l D cI cJ cZ cB H.size a0.toInt64 1 600 _ rfl) (cwS 3 hts gX10_leg_X10_in rfl rfl rfl (by decide +kernel) ⟨Nat.le_of_ble_eq_true rfl, Nat.le_of_ble_eq_true rfl⟩) hK hG hW.2.2 (xsubQ hW hA [] rfl (by decide)) rfl hl.1 rfl (Nat.le_of_ble_eq_true rfl) dX10_leg_6 ⟨Nat.le_of_ble_eq_true rfl, Nat.le_of_ble_eq_true rfl⟩)) (fun r1 hq => ?_)
  subst hq
  refine xb_eq (tgt := 26) hx hb dX10_leg_9 (by decide) (fun c1 => ?_) (fun c1 => ?_)
  · skip
    refine lv_bipush (v := -2) hx hb dX10_leg_26 (by decide) ?_
    have hF : f_X10_leg a0 a1 mf = (-2, mf) := by
      rw [f_X10_leg, if_neg c1]
    obtain rfl : (-2, mf) = o := hF.symm.trans ho
    exact W.iret (v := -2) hx hb hrt (fun t ht hM => ⟨⟨_, (), rfl, rfl, ⟨by rw [ht]; exact hW.1, hW.2.1⟩⟩, hW.2.2.F ht⟩) hW.2.2.2.2 dX10_leg_28 hlocks
  · skip
    refine lv_iload_n hx hb dX10_leg_12 rfl (lv_at hl 2 rfl) ?_
    refine lv_i2l hx hb dX10_leg_13 rfl ?_
    refine lv_ldc2 hx hb hown w2 dX10_leg_14 ?_
    refine lv_ldc2 hx hb hown w3 dX10_leg_17 ?_
    refine vp_callSi (va_Run.run (xrunS (As := [.long a1.toInt64, .long (-4000), .long 5000]) (rest := []) ⟨hx, hb, hml, hown, hts⟩ (c_X10_in l D cI cJ cZ cB H.size a1.toInt64 (-4000) 5000 _ rfl) (cwS 3 hts gX10_leg_X10_in rfl rfl rfl (by decide +kernel) ⟨Nat.le_of_ble_eq_true rfl, Nat.le_of_ble_eq_true rfl⟩) hK hG hW.2.2 (xsubQ hW hA [] rfl (by decide)) rfl hl.1 rfl (Nat.le_of_ble_eq_true rfl) dX10_leg_20 ⟨Nat.le_of_ble_eq_true rfl, Nat.le_of_ble_eq_true rfl⟩)) (fun r2 hq => ?_)
    subst hq
    refine xb_ne (tgt := 29) hx hb dX10_leg_23 (by decide) (fun c2 => ?_) (fun c2 => ?_)
    · skip
      refine lv_aload_n hx hb dX10_leg_29 rfl (lv_at hl 0 rfl) ?_
      refine vp_callSi (va_Run.run (xrunV (As := []) (rest := []) ⟨hx, hb, hml, hown, hts⟩ (c_X10_legs l D cI cJ cZ cB H.size aM mA mB mC mD mE pm sp iw mF rn mf _ rfl) (cwV 0 hts gX10_leg_X10_legs rfl rfl rfl (by decide +kernel) ⟨Nat.le_of_ble_eq_true rfl, Nat.le_of_ble_eq_true rfl⟩) hK hG hW.2.2 (xsubQ hW hA [0, 1] rfl (by decide)) (va_recv hK hW.1 (ci := 10) (q0 := 0) rfl rfl) rfl hl.1 rfl (Nat.le_of_ble_eq_true rfl) dX10_leg_30 ⟨Nat.le_of_ble_eq_true rfl, Nat.le_of_ble_eq_true rfl⟩)) (fun r3 hq => ?_)
      subst hq
      refine lv_bipush (v := 12) hx hb dX10_leg_33 (by decide) ?_
      refine lv_icmp_ne (tgt := 41) hx hb dX10_leg_35 (by decide) (fun c3 => ?_) (fun c3 => ?_)
      · skip
        refine lv_aload_n hx hb dX10_leg_41 rfl (lv_at hl 0 rfl) ?_
        refine vp_callSi (va_Run.run (xrunV (As := []) (rest := []) ⟨hx, hb, hml, hown, hts⟩ (c_X10_legs l D cI cJ cZ cB H.size aM mA mB mC mD mE pm sp iw mF rn mf _ rfl) (cwV 0 hts gX10_leg_X10_legs rfl rfl rfl (by decide +kernel) ⟨Nat.le_of_ble_eq_true rfl, Nat.le_of_ble_eq_true rfl⟩) hK hG hW.2.2 (xsubQ hW hA [0, 1] rfl (by decide)) (va_recv hK hW.1 (ci := 10) (q0 := 0) rfl rfl) rfl hl.1 rfl (Nat.le_of_ble_eq_true rfl) dX10_leg_42 ⟨Nat.le_of_ble_eq_true rfl, Nat.le_of_ble_eq_true rfl⟩)) (fun r4 hq => ?_)
        subst hq
        refine lv_istore_n (lv' := [(3, .int (f_X10_legs mf)), (0, .ref aM), (1, .int a0), (2, .int a1)]) hx hb dX10_leg_45 rfl hl (by decide) rfl (fun ls hl => ?_)
        refine lv_aload_n hx hb dX10_leg_46 rfl (lv_at hl 1 rfl) ?_
        refine xget (ci := 10) (C := RX10) (T := TX10) (N := 10) hx hb hts hin10 hown hK hW.1 0 rfl rfl 0 (by decide) w4 rfl dX10_leg_47 ?_
        refine lv_bipush (v := 40) hx hb dX10_leg_50 (by decide) ?_
        refine lv_iconst (v := 2) hx hb dX10_leg_52 (by decide) ?_
        refine lv_iload_n hx hb dX10_leg_53 rfl (lv_at hl 0 rfl) ?_
        refine lv_imul hx hb dX10_leg_54 ?_
        refine lv_iadd hx hb dX10_leg_55 ?_
        refine lv_iload_n hx hb dX10_leg_56 rfl (lv_at hl 2 rfl) ?_
        refine lv_i2l hx hb dX10_leg_57 rfl ?_
        refine xlast hx hb hK hW 1 1 rfl (Nat.le_of_ble_eq_true rfl) rfl (lg_in (lg_up (leg_ok hok c3))) (40 + (2 * (f_X10_legs mf))).toNatClampNeg rfl dX10_leg_58 (fun H locs hW => ?_)
        have hW : xW D A s.heap ([(aM, .inr (10, [.ref mA, .ref mB, .ref mC, .ref mD, .ref mE, .int pm, .int sp, .int (bi iw), .ref mF, .int rn])), (mA, .inl (cJ, 93, .inr (.inl (vp_updL mf (40 + (2 * (f_X10_legs mf))).toNatClampNeg a0.toInt64))))] ++ []) H _ := hW
        refine lv_aload_n hx hb dX10_leg_59 rfl (lv_at hl 1 rfl) ?_
        refine xget (ci := 10) (C := RX10) (T := TX10) (N := 10) hx hb hts hin10 hown hK hW.1 0 rfl rfl 0 (by decide) w4 rfl dX10_leg_60 ?_
        refine lv_bipush (v := 40) hx hb dX10_leg_63 (by decide) ?_
        refine lv_iconst (v := 2) hx hb dX10_leg_65 (by decide) ?_
        refine lv_iload_n hx hb dX10_leg_66 rfl (lv_at hl 0 rfl) ?_
        refine lv_imul hx hb dX10_leg_67 ?_
        refine lv_iadd hx hb dX10_leg_68 ?_
        refine lv_iconst (v := 1) hx hb dX10_leg_69 (by decide) ?_
        refine lv_iadd hx hb dX10_leg_70 ?_
        refine lv_iload_n hx hb dX10_leg_71 rfl (lv_at hl 3 rfl) ?_
        refine lv_i2l hx hb dX10_leg_72 rfl ?_
        refine xlast hx hb hK hW 1 1 rfl (Nat.le_of_ble_eq_true rfl) rfl (lg_in1 (lg_up (leg_ok hok c3))) ((40 + (2 * (f_X10_legs mf))) + 1).toNatClampNeg rfl dX10_leg_73 (fun H locs hW => ?_)
        have hW : xW D A s.heap ([(aM, .inr (10, [.ref mA, .ref mB, .ref mC, .ref mD, .ref mE, .int pm, .int sp, .int (bi iw), .ref mF, .int rn])), (mA, .inl (cJ, 93, .inr (.inl (vp_updL (vp_updL mf (40 + (2 * (f_X10_legs mf))).toNatClampNeg a0.toInt64) ((40 + (2 * (f_X10_legs mf))) + 1).toNatClampNeg a1.toInt64))))] ++ []) H _ := hW
        refine lv_aload_n hx hb dX10_leg_74 rfl (lv_at hl 1 rfl) ?_
        refine xget (ci := 10) (C := RX10) (T := TX10) (N := 10) hx hb hts hin10 hown hK hW.1 0 rfl rfl 0 (by decide) w4 rfl dX10_leg_75 ?_
        refine lv_bipush (v := 76) hx hb dX10_leg_78 (by decide) ?_
        refine lv_dup2_11 hx hb dX10_leg_80 rfl rfl ?_
        refine xlald hx hb hK hW.1 1 1 rfl rfl (vp_in_iff.mpr ⟨by decide, by decide⟩) 76 rfl (v := (vp_updL (vp_updL mf (40 + (2 * (f_X10_legs mf))).toNatClampNeg a0.toInt64) ((40 + (2 * (f_X10_legs mf))) + 1).toNatClampNeg a1.toInt64) 76) rfl dX10_leg_81 ?_
        refine lv_lconst (v := 1) hx hb dX10_leg_82 (by decide) ?_
        refine lv_ladd hx hb dX10_leg_83 ?_
        refine xlast hx hb hK hW 1 1 rfl (Nat.le_of_ble_eq_true rfl) rfl (vp_in_iff.mpr ⟨by decide, by decide⟩) 76 rfl dX10_leg_84 (fun H locs hW => ?_)
        have hW : xW D A s.heap ([(aM, .inr (10, [.ref mA, .ref mB, .ref mC, .ref mD, .ref mE, .int pm, .int sp, .int (bi iw), .ref mF, .int rn])), (mA, .inl (cJ, 93, .inr (.inl (vp_updL (vp_updL (vp_updL mf (40 + (2 * (f_X10_legs mf))).toNatClampNeg a0.toInt64) ((40 + (2 * (f_X10_legs mf))) + 1).toNatClampNeg a1.toInt64) 76 (((vp_updL (vp_updL mf (40 + (2 * (f_X10_legs mf))).toNatClampNeg a0.toInt64) ((40 + (2 * (f_X10_legs mf))) + 1).toNatClampNeg a1.toInt64) 76) + 1)))))] ++ []) H _ := hW
        refine lv_iload_n hx hb dX10_leg_85 rfl (lv_at hl 0 rfl) ?_
        have hF : f_X10_leg a0 a1 mf = (f_X10_legs mf, vp_updL (vp_updL (vp_updL mf (40 + (2 * (f_X10_legs mf))).toNatClampNeg a0.toInt64) ((40 + (2 * (f_X10_legs mf))) + 1).toNatClampNeg a1.toInt64) 76 (((vp_updL (vp_updL mf (40 + (2 * (f_X10_legs mf))).toNatClampNeg a0.toInt64) ((40 + (2 * (f_X10_legs mf))) + 1).toNatClampNeg a1.toInt64) 76) + 1)) := by
          rw [f_X10_leg, if_pos c1, if_pos c2, if_neg c3]
        obtain rfl : (f_X10_legs mf, vp_updL (vp_updL (vp_updL mf (40 + (2 * (f_X10_legs mf))).toNatClampNeg a0.toInt64) ((40 + (2 * (f_X10_legs mf))) + 1).toNatClampNeg a1.toInt64) 76 (((vp_updL (vp_updL mf (40 + (2 * (f_X10_legs mf))).toNatClampNeg a0.toInt64) ((40 + (2 * (f_X10_legs mf))) + 1).toNatClampNeg a1.toInt64) 76) + 1)) = o := hF.symm.trans ho
        exact W.iret (v := f_X10_legs mf) hx hb hrt (fun t ht hM => ⟨⟨_, (), rfl, rfl, ⟨by rw [ht]; exact hW.1, hW.2.1⟩⟩, hW.2.2.F ht⟩) hW.2.2.2.2 dX10_leg_86 hlocks
      · skip
        refine lv_bipush (v := -4) hx hb dX10_leg_38 (by decide) ?_
        have hF : f_X10_leg a0 a1 mf = (-4, mf) := by
          rw [f_X10_leg, if_pos c1, if_pos c2, if_pos c3]
        obtain rfl : (-4, mf) = o := hF.symm.trans ho
        exact W.iret (v := -4) hx hb hrt (fun t ht hM => ⟨⟨_, (), rfl, rfl, ⟨by rw [ht]; exact hW.1, hW.2.1⟩⟩, hW.2.2.F ht⟩) hW.2.2.2.2 dX10_leg_40 hlocks
    · skip
      refine lv_bipush (v := -2) hx hb dX10_leg_26 (by decide) ?_
      have hF : f_X10_leg a0 a1 mf = (-2, mf) := by
        rw [f_X10_leg, if_pos c1, if_neg c2]
      obtain rfl : (-2, mf) = o := hF.symm.trans ho
      exact W.iret (v := -2) hx hb hrt (fun t ht hM => ⟨⟨_, (), rfl, rfl, ⟨by rw [ht]; exact hW.1, hW.2.1⟩⟩, hW.2.2.F ht⟩) hW.2.2.2.2 dX10_leg_28 hlocks

def f_X10_cut (mf : Nat → Int64) : Int32 × (Nat → Int64) :=
  if (f_X10_legs mf) = 0 then
    (-5, mf)
  else
    if (mf 84) = ((f_X10_legs mf) - 1).toInt64 then
      (-5, mf)
    else
      (f_X10_legs (vp_updL mf 76 ((mf 76) - 1)), vp_updL mf 76 ((mf 76) - 1))
set_option maxHeartbeats 4000000 in
set_option maxRecDepth 100000 in
theorem c_X10_cut (l : Launch) (D : va_G) (cI cJ cZ cB : ClassId) (sz : Nat) (aM : Nat) (mA : Nat) (mB : Nat) (mC : Nat) (mD : Nat) (mE : Nat) (pm : Int32) (sp : Int32) (iw : Bool) (mF : Nat) (rn : Int32) (mf : Nat → Int64) (hok : okM mf) (o : Int32 × (Nat → Int64)) (ho : f_X10_cut mf = o) : Met l yX10_cut wsX10_cut ({ frames := 1, cells := 0, slots := 0, locals := 20 } : Room) (xPre D (xT cI cJ cZ cB) [.ref aM] [(aM, .inr (10, [.ref mA, .ref mB, .ref mC, .ref mD, .ref mE, .int pm, .int sp, .int (bi iw), .ref mF, .int rn])), (mA, .inl (cJ, 93, .inr (.inl mf)))] sz) (va_Qi (fun r (_ : Unit) => r = o.1) (fun _ t => xB D ([(aM, .inr (10, [.ref mA, .ref mB, .ref mC, .ref mD, .ref mE, .int pm, .int sp, .int (bi iw), .ref mF, .int rn])), (mA, .inl (cJ, 93, .inr (.inl o.2)))]) (va_A [(aM, .inr (10, [.ref mA, .ref mB, .ref mC, .ref mD, .ref mE, .int pm, .int sp, .int (bi iw), .ref mF, .int rn])), (mA, .inl (cJ, 93, .inr (.inl mf)))] sz) t) (va_A [(aM, .inr (10, [.ref mA, .ref mB, .ref mC, .ref mD, .ref mE, .int pm, .int sp, .int (bi iw), .ref mF, .int rn])), (mA, .inl (cJ, 93, .inr (.inl mf)))] sz)) 0 0 (va_A [(aM, .inr (10, [.ref mA, .ref mB, .ref mC, .ref mD, .ref mE, .int pm, .int sp, .int (bi iw), .ref mF, .int rn])), (mA, .inl (cJ, 93, .inr (.inl mf)))] sz) := by
  refine xofW (Qc := fun A0 => va_Qi (fun r (_ : Unit) => r = o.1) (fun _ t => xB D ([(aM, .inr (10, [.ref mA, .ref mB, .ref mC, .ref mD, .ref mE, .int pm, .int sp, .int (bi iw), .ref mF, .int rn])), (mA, .inl (cJ, 93, .inr (.inl o.2)))]) A0 t) A0) (fr := fun A => A) (cc := cX10_cut) (maxL := 1) (ret := (some .int)) (by decide) rfl (Nat.le_of_ble_eq_true rfl) ?_
  intro p e s m below meth c A ⟨hx, hb, hml, hown, hts⟩ hrt hlocks hnm hsz hK hW hA hG ls hl
  have hown : s.vm.findClass RX10 = some m.cls := hown
  have hl : lv_has ls 1 [(0, .ref aM)] := hl
  obtain ⟨H, hH⟩ : ∃ H, H = s.heap := ⟨_, rfl⟩
  have hW : xW D A s.heap ([(aM, .inr (10, [.ref mA, .ref mB, .ref mC, .ref mD, .ref mE, .int pm, .int sp, .int (bi iw), .ref mF, .int rn])), (mA, .inl (cJ, 93, .inr (.inl mf)))] ++ []) H [] := by rw [hH]; exact hW
  have w1 := hts (.fieldLink RX10 7 "DryIceLaneModel" "at" "[J") (by decide +kernel)
  have hin10 : ∀ w ∈ u_ws RX10 TX10 10, w ∈ wsX10_cut := by decide +kernel
  rw [← hH]
  refine lv_aload_n hx hb dX10_cut_0 rfl (lv_at hl 0 rfl) ?_
  refine vp_callSi (va_Run.run (xrunV (As := []) (rest := []) ⟨hx, hb, hml, hown, hts⟩ (c_X10_legs l D cI cJ cZ cB H.size aM mA mB mC mD mE pm sp iw mF rn mf _ rfl) (cwV 0 hts gX10_cut_X10_legs rfl rfl rfl (by decide +kernel) ⟨Nat.le_of_ble_eq_true rfl, Nat.le_of_ble_eq_true rfl⟩) hK hG hW.2.2 (xsubQ hW hA [0, 1] rfl (by decide)) (va_recv hK hW.1 (ci := 10) (q0 := 0) rfl rfl) rfl hl.1 rfl (Nat.le_of_ble_eq_true rfl) dX10_cut_1 ⟨Nat.le_of_ble_eq_true rfl, Nat.le_of_ble_eq_true rfl⟩)) (fun r1 hq => ?_)
  subst hq
  refine lv_if_eq (tgt := 25) hx hb dX10_cut_4 (by decide) (fun c1 => ?_) (fun c1 => ?_)
  · skip
    refine lv_bipush (v := -5) hx hb dX10_cut_25 (by decide) ?_
    have hF : f_X10_cut mf = (-5, mf) := by
      rw [f_X10_cut, if_pos c1]
    obtain rfl : (-5, mf) = o := hF.symm.trans ho
    exact W.iret (v := -5) hx hb hrt (fun t ht hM => ⟨⟨_, (), rfl, rfl, ⟨by rw [ht]; exact hW.1, hW.2.1⟩⟩, hW.2.2.F ht⟩) hW.2.2.2.2 dX10_cut_27 hlocks
  · skip
    refine lv_aload_n hx hb dX10_cut_7 rfl (lv_at hl 0 rfl) ?_
    refine xget (ci := 10) (C := RX10) (T := TX10) (N := 10) hx hb hts hin10 hown hK hW.1 0 rfl rfl 0 (by decide) w1 rfl dX10_cut_8 ?_
    refine lv_bipush (v := 84) hx hb dX10_cut_11 (by decide) ?_
    refine xlald hx hb hK hW.1 1 1 rfl rfl (vp_in_iff.mpr ⟨by decide, by decide⟩) 84 rfl (v := mf 84) rfl dX10_cut_13 ?_
    refine lv_aload_n hx hb dX10_cut_14 rfl (lv_at hl 0 rfl) ?_
    refine vp_callSi (va_Run.run (xrunV (As := []) (rest := [.long (mf 84)]) ⟨hx, hb, hml, hown, hts⟩ (c_X10_legs l D cI cJ cZ cB H.size aM mA mB mC mD mE pm sp iw mF rn mf _ rfl) (cwV 0 hts gX10_cut_X10_legs rfl rfl rfl (by decide +kernel) ⟨Nat.le_of_ble_eq_true rfl, Nat.le_of_ble_eq_true rfl⟩) hK hG hW.2.2 (xsubQ hW hA [0, 1] rfl (by decide)) (va_recv hK hW.1 (ci := 10) (q0 := 0) rfl rfl) rfl hl.1 rfl (Nat.le_of_ble_eq_true rfl) dX10_cut_15 ⟨Nat.le_of_ble_eq_true rfl, Nat.le_of_ble_eq_true rfl⟩)) (fun r2 hq => ?_)
    subst hq
    refine lv_iconst (v := 1) hx hb dX10_cut_18 (by decide) ?_
    refine lv_isub hx hb dX10_cut_19 ?_
    refine lv_i2l hx hb dX10_cut_20 rfl ?_
    refine xlc_ne (tgt := 28) hx hb dX10_cut_21 dX10_cut_22 (by decide) (fun c2 => ?_) (fun c2 => ?_)
    · skip
      refine lv_aload_n hx hb dX10_cut_28 rfl (lv_at hl 0 rfl) ?_
      refine xget (ci := 10) (C := RX10) (T := TX10) (N := 10) hx hb hts hin10 hown hK hW.1 0 rfl rfl 0 (by decide) w1 rfl dX10_cut_29 ?_
      refine lv_bipush (v := 76) hx hb dX10_cut_32 (by decide) ?_
      refine lv_dup2_11 hx hb dX10_cut_34 rfl rfl ?_
      refine xlald hx hb hK hW.1 1 1 rfl rfl (vp_in_iff.mpr ⟨by decide, by decide⟩) 76 rfl (v := mf 76) rfl dX10_cut_35 ?_
      refine lv_lconst (v := 1) hx hb dX10_cut_36 (by decide) ?_
      refine lv_lsub hx hb dX10_cut_37 ?_
      refine xlast hx hb hK hW 1 1 rfl (Nat.le_of_ble_eq_true rfl) rfl (vp_in_iff.mpr ⟨by decide, by decide⟩) 76 rfl dX10_cut_38 (fun H locs hW => ?_)
      have hW : xW D A s.heap ([(aM, .inr (10, [.ref mA, .ref mB, .ref mC, .ref mD, .ref mE, .int pm, .int sp, .int (bi iw), .ref mF, .int rn])), (mA, .inl (cJ, 93, .inr (.inl (vp_updL mf 76 ((mf 76) - 1)))))] ++ []) H _ := hW
      refine lv_aload_n hx hb dX10_cut_39 rfl (lv_at hl 0 rfl) ?_
      refine vp_callSi (va_Run.run (xrunV (As := []) (rest := []) ⟨hx, hb, hml, hown, hts⟩ (c_X10_legs l D cI cJ cZ cB H.size aM mA mB mC mD mE pm sp iw mF rn (vp_updL mf 76 ((mf 76) - 1)) _ rfl) (cwV 0 hts gX10_cut_X10_legs rfl rfl rfl (by decide +kernel) ⟨Nat.le_of_ble_eq_true rfl, Nat.le_of_ble_eq_true rfl⟩) hK hG hW.2.2 (xsubQ hW hA [0, 1] rfl (by decide)) (va_recv hK hW.1 (ci := 10) (q0 := 0) rfl rfl) rfl hl.1 rfl (Nat.le_of_ble_eq_true rfl) dX10_cut_40 ⟨Nat.le_of_ble_eq_true rfl, Nat.le_of_ble_eq_true rfl⟩)) (fun r3 hq => ?_)
      subst hq
      have hF : f_X10_cut mf = (f_X10_legs (vp_updL mf 76 ((mf 76) - 1)), vp_updL mf 76 ((mf 76) - 1)) := by
        rw [f_X10_cut, if_neg c1, if_neg c2]
      obtain rfl : (f_X10_legs (vp_updL mf 76 ((mf 76) - 1)), vp_updL mf 76 ((mf 76) - 1)) = o := hF.symm.trans ho
      exact W.iret (v := f_X10_legs (vp_updL mf 76 ((mf 76) - 1))) hx hb hrt (fun t ht hM => ⟨⟨_, (), rfl, rfl, ⟨by rw [ht]; exact hW.1, hW.2.1⟩⟩, hW.2.2.F ht⟩) hW.2.2.2.2 dX10_cut_43 hlocks
    · skip
      refine lv_bipush (v := -5) hx hb dX10_cut_25 (by decide) ?_
      have hF : f_X10_cut mf = (-5, mf) := by
        rw [f_X10_cut, if_neg c1, if_pos c2]
      obtain rfl : (-5, mf) = o := hF.symm.trans ho
      exact W.iret (v := -5) hx hb hrt (fun t ht hM => ⟨⟨_, (), rfl, rfl, ⟨by rw [ht]; exact hW.1, hW.2.1⟩⟩, hW.2.2.F ht⟩) hW.2.2.2.2 dX10_cut_27 hlocks

def f_X10_hasNext (mf : Nat → Int64) : Bool :=
  if (f_X10_legs mf).toInt64 ≤ ((mf 84) + 1) then
    false
  else
    true
set_option maxHeartbeats 4000000 in
set_option maxRecDepth 100000 in
theorem c_X10_hasNext (l : Launch) (D : va_G) (cI cJ cZ cB : ClassId) (sz : Nat) (aM : Nat) (mA : Nat) (mB : Nat) (mC : Nat) (mD : Nat) (mE : Nat) (pm : Int32) (sp : Int32) (iw : Bool) (mF : Nat) (rn : Int32) (mf : Nat → Int64) (o : Bool) (ho : f_X10_hasNext mf = o) : Met l yX10_hasNext wsX10_hasNext ({ frames := 1, cells := 0, slots := 0, locals := 20 } : Room) (xPre D (xT cI cJ cZ cB) [.ref aM] [(aM, .inr (10, [.ref mA, .ref mB, .ref mC, .ref mD, .ref mE, .int pm, .int sp, .int (bi iw), .ref mF, .int rn])), (mA, .inl (cJ, 93, .inr (.inl mf)))] sz) (vp_Si (fun r => r = bi o)) 0 0 (fun _ => False) := by
  refine xofW (Qc := fun _ => vp_Si (fun r => r = bi o)) (fr := fun _ _ => False) (cc := cX10_hasNext) (maxL := 1) (ret := (some .boolean)) (by decide) rfl (Nat.le_of_ble_eq_true rfl) ?_
  intro p e s m below meth c A ⟨hx, hb, hml, hown, hts⟩ hrt hlocks hnm hsz hK hW hA hG ls hl
  have hown : s.vm.findClass RX10 = some m.cls := hown
  have hl : lv_has ls 1 [(0, .ref aM)] := hl
  obtain ⟨H, hH⟩ : ∃ H, H = s.heap := ⟨_, rfl⟩
  have hW : xW D A s.heap ([(aM, .inr (10, [.ref mA, .ref mB, .ref mC, .ref mD, .ref mE, .int pm, .int sp, .int (bi iw), .ref mF, .int rn])), (mA, .inl (cJ, 93, .inr (.inl mf)))] ++ []) H [] := by rw [hH]; exact hW
  have w1 := hts (.fieldLink RX10 7 "DryIceLaneModel" "at" "[J") (by decide +kernel)
  have hin10 : ∀ w ∈ u_ws RX10 TX10 10, w ∈ wsX10_hasNext := by decide +kernel
  rw [← hH]
  refine lv_aload_n hx hb dX10_hasNext_0 rfl (lv_at hl 0 rfl) ?_
  refine xget (ci := 10) (C := RX10) (T := TX10) (N := 10) hx hb hts hin10 hown hK hW.1 0 rfl rfl 0 (by decide) w1 rfl dX10_hasNext_1 ?_
  refine lv_bipush (v := 84) hx hb dX10_hasNext_4 (by decide) ?_
  refine xlald hx hb hK hW.1 1 1 rfl rfl (vp_in_iff.mpr ⟨by decide, by decide⟩) 84 rfl (v := mf 84) rfl dX10_hasNext_6 ?_
  refine lv_lconst (v := 1) hx hb dX10_hasNext_7 (by decide) ?_
  refine lv_ladd hx hb dX10_hasNext_8 ?_
  refine lv_aload_n hx hb dX10_hasNext_9 rfl (lv_at hl 0 rfl) ?_
  refine vp_callSi (va_Run.run (xrunV (As := []) (rest := [.long ((mf 84) + 1)]) ⟨hx, hb, hml, hown, hts⟩ (c_X10_legs l D cI cJ cZ cB H.size aM mA mB mC mD mE pm sp iw mF rn mf _ rfl) (cwV 0 hts gX10_hasNext_X10_legs rfl rfl rfl (by decide +kernel) ⟨Nat.le_of_ble_eq_true rfl, Nat.le_of_ble_eq_true rfl⟩) hK hG hW.2.2 (xsubQ hW hA [0, 1] rfl (by decide)) (va_recv hK hW.1 (ci := 10) (q0 := 0) rfl rfl) rfl hl.1 rfl (Nat.le_of_ble_eq_true rfl) dX10_hasNext_10 ⟨Nat.le_of_ble_eq_true rfl, Nat.le_of_ble_eq_true rfl⟩)) (fun r1 hq => ?_)
  subst hq
  refine lv_i2l hx hb dX10_hasNext_13 rfl ?_
  refine xlc_ge (tgt := 22) hx hb dX10_hasNext_14 dX10_hasNext_15 (by decide) (fun c1 => ?_) (fun c1 => ?_)
  · skip
    refine lv_iconst (v := 0) hx hb dX10_hasNext_22 (by decide) ?_
    have hF : f_X10_hasNext mf = false := by
      rw [f_X10_hasNext, if_pos c1]
    obtain rfl : false = o := hF.symm.trans ho
    exact W.zret (v := bi false) hx hb hrt (bi_nar _) (fun t ht hM => ⟨_, rfl, rfl, ht.trans hH⟩) (fun q h => by cases h) dX10_hasNext_23 hlocks
  · skip
    refine lv_iconst (v := 1) hx hb dX10_hasNext_18 (by decide) ?_
    refine lv_goto (tgt := 23) hx hb dX10_hasNext_19 (by decide) ?_
    have hF : f_X10_hasNext mf = true := by
      rw [f_X10_hasNext, if_neg c1]
    obtain rfl : true = o := hF.symm.trans ho
    exact W.zret (v := bi true) hx hb hrt (bi_nar _) (fun t ht hM => ⟨_, rfl, rfl, ht.trans hH⟩) (fun q h => by cases h) dX10_hasNext_23 hlocks

def f_X10_begin (mf : Nat → Int64) : (Nat → Int64) :=
  vp_updL (vp_updL (vp_updL mf 84 ((mf 84) + 1)) 85 0) 86 1
set_option maxHeartbeats 4000000 in
set_option maxRecDepth 100000 in
theorem c_X10_begin (l : Launch) (D : va_G) (cI cJ cZ cB : ClassId) (sz : Nat) (aM : Nat) (mA : Nat) (mB : Nat) (mC : Nat) (mD : Nat) (mE : Nat) (pm : Int32) (sp : Int32) (iw : Bool) (mF : Nat) (rn : Int32) (mf : Nat → Int64) (o : (Nat → Int64)) (ho : f_X10_begin mf = o) : Met l yX10_begin wsX10_begin ({ frames := 0, cells := 0, slots := 0, locals := 0 } : Room) (xPre D (xT cI cJ cZ cB) [.ref aM] [(aM, .inr (10, [.ref mA, .ref mB, .ref mC, .ref mD, .ref mE, .int pm, .int sp, .int (bi iw), .ref mF, .int rn])), (mA, .inl (cJ, 93, .inr (.inl mf)))] sz) (va_Qv (fun _ : Unit => True) (fun _ t => xB D ([(aM, .inr (10, [.ref mA, .ref mB, .ref mC, .ref mD, .ref mE, .int pm, .int sp, .int (bi iw), .ref mF, .int rn])), (mA, .inl (cJ, 93, .inr (.inl o)))]) (va_A [(aM, .inr (10, [.ref mA, .ref mB, .ref mC, .ref mD, .ref mE, .int pm, .int sp, .int (bi iw), .ref mF, .int rn])), (mA, .inl (cJ, 93, .inr (.inl mf)))] sz) t) (va_A [(aM, .inr (10, [.ref mA, .ref mB, .ref mC, .ref mD, .ref mE, .int pm, .int sp, .int (bi iw), .ref mF, .int rn])), (mA, .inl (cJ, 93, .inr (.inl mf)))] sz)) 0 0 (va_A [(aM, .inr (10, [.ref mA, .ref mB, .ref mC, .ref mD, .ref mE, .int pm, .int sp, .int (bi iw), .ref mF, .int rn])), (mA, .inl (cJ, 93, .inr (.inl mf)))] sz) := by
  refine xofW (Qc := fun A0 => va_Qv (fun _ : Unit => True) (fun _ t => xB D ([(aM, .inr (10, [.ref mA, .ref mB, .ref mC, .ref mD, .ref mE, .int pm, .int sp, .int (bi iw), .ref mF, .int rn])), (mA, .inl (cJ, 93, .inr (.inl o)))]) A0 t) A0) (fr := fun A => A) (cc := cX10_begin) (maxL := 1) (ret := none) (by decide) rfl (Nat.le_of_ble_eq_true rfl) ?_
  intro p e s m below meth c A ⟨hx, hb, hml, hown, hts⟩ hrt hlocks hnm hsz hK hW hA hG ls hl
  have hown : s.vm.findClass RX10 = some m.cls := hown
  have hl : lv_has ls 1 [(0, .ref aM)] := hl
  obtain ⟨H, hH⟩ : ∃ H, H = s.heap := ⟨_, rfl⟩
  have hW : xW D A s.heap ([(aM, .inr (10, [.ref mA, .ref mB, .ref mC, .ref mD, .ref mE, .int pm, .int sp, .int (bi iw), .ref mF, .int rn])), (mA, .inl (cJ, 93, .inr (.inl mf)))] ++ []) H [] := by rw [hH]; exact hW
  have w1 := hts (.fieldLink RX10 7 "DryIceLaneModel" "at" "[J") (by decide +kernel)
  have hin10 : ∀ w ∈ u_ws RX10 TX10 10, w ∈ wsX10_begin := by decide +kernel
  rw [← hH]
  refine lv_aload_n hx hb dX10_begin_0 rfl (lv_at hl 0 rfl) ?_
  refine xget (ci := 10) (C := RX10) (T := TX10) (N := 10) hx hb hts hin10 hown hK hW.1 0 rfl rfl 0 (by decide) w1 rfl dX10_begin_1 ?_
  refine lv_bipush (v := 84) hx hb dX10_begin_4 (by decide) ?_
  refine lv_dup2_11 hx hb dX10_begin_6 rfl rfl ?_
  refine xlald hx hb hK hW.1 1 1 rfl rfl (vp_in_iff.mpr ⟨by decide, by decide⟩) 84 rfl (v := mf 84) rfl dX10_begin_7 ?_
  refine lv_lconst (v := 1) hx hb dX10_begin_8 (by decide) ?_
  refine lv_ladd hx hb dX10_begin_9 ?_
  refine xlast hx hb hK hW 1 1 rfl (Nat.le_of_ble_eq_true rfl) rfl (vp_in_iff.mpr ⟨by decide, by decide⟩) 84 rfl dX10_begin_10 (fun H locs hW => ?_)
  have hW : xW D A s.heap ([(aM, .inr (10, [.ref mA, .ref mB, .ref mC, .ref mD, .ref mE, .int pm, .int sp, .int (bi iw), .ref mF, .int rn])), (mA, .inl (cJ, 93, .inr (.inl (vp_updL mf 84 ((mf 84) + 1)))))] ++ []) H _ := hW
  refine lv_aload_n hx hb dX10_begin_11 rfl (lv_at hl 0 rfl) ?_
  refine xget (ci := 10) (C := RX10) (T := TX10) (N := 10) hx hb hts hin10 hown hK hW.1 0 rfl rfl 0 (by decide) w1 rfl dX10_begin_12 ?_
  refine lv_bipush (v := 85) hx hb dX10_begin_15 (by decide) ?_
  refine lv_lconst (v := 0) hx hb dX10_begin_17 (by decide) ?_
  refine xlast hx hb hK hW 1 1 rfl (Nat.le_of_ble_eq_true rfl) rfl (vp_in_iff.mpr ⟨by decide, by decide⟩) 85 rfl dX10_begin_18 (fun H locs hW => ?_)
  have hW : xW D A s.heap ([(aM, .inr (10, [.ref mA, .ref mB, .ref mC, .ref mD, .ref mE, .int pm, .int sp, .int (bi iw), .ref mF, .int rn])), (mA, .inl (cJ, 93, .inr (.inl (vp_updL (vp_updL mf 84 ((mf 84) + 1)) 85 0))))] ++ []) H _ := hW
  refine lv_aload_n hx hb dX10_begin_19 rfl (lv_at hl 0 rfl) ?_
  refine xget (ci := 10) (C := RX10) (T := TX10) (N := 10) hx hb hts hin10 hown hK hW.1 0 rfl rfl 0 (by decide) w1 rfl dX10_begin_20 ?_
  refine lv_bipush (v := 86) hx hb dX10_begin_23 (by decide) ?_
  refine lv_lconst (v := 1) hx hb dX10_begin_25 (by decide) ?_
  refine xlast hx hb hK hW 1 1 rfl (Nat.le_of_ble_eq_true rfl) rfl (vp_in_iff.mpr ⟨by decide, by decide⟩) 86 rfl dX10_begin_26 (fun H locs hW => ?_)
  have hW : xW D A s.heap ([(aM, .inr (10, [.ref mA, .ref mB, .ref mC, .ref mD, .ref mE, .int pm, .int sp, .int (bi iw), .ref mF, .int rn])), (mA, .inl (cJ, 93, .inr (.inl (vp_updL (vp_updL (vp_updL mf 84 ((mf 84) + 1)) 85 0) 86 1))))] ++ []) H _ := hW
  have hF : f_X10_begin mf = vp_updL (vp_updL (vp_updL mf 84 ((mf 84) + 1)) 85 0) 86 1 := by
    rw [f_X10_begin]
  obtain rfl : vp_updL (vp_updL (vp_updL mf 84 ((mf 84) + 1)) 85 0) 86 1 = o := hF.symm.trans ho
  exact W.vret hx hb hrt (fun t ht hM => ⟨⟨(), rfl, trivial, ⟨by rw [ht]; exact hW.1, hW.2.1⟩⟩, hW.2.2.F ht⟩) hW.2.2.2.2 dX10_begin_27 hlocks

def f_X10_depart (mf : Nat → Int64) : Int32 × (Nat → Int64) :=
  if (f_X10_isAway mf) = true then
    (-5, mf)
  else
    if (f_X10_isDoorOpen mf) = true then
      (-5, mf)
    else
      if (f_X10_hasNext mf) = true then
        (((f_X10_begin mf) 84).toInt32, f_X10_begin mf)
      else
        (-5, mf)
set_option maxHeartbeats 4000000 in
set_option maxRecDepth 100000 in
theorem c_X10_depart (l : Launch) (D : va_G) (cI cJ cZ cB : ClassId) (sz : Nat) (aM : Nat) (mA : Nat) (mB : Nat) (mC : Nat) (mD : Nat) (mE : Nat) (pm : Int32) (sp : Int32) (iw : Bool) (mF : Nat) (rn : Int32) (mf : Nat → Int64) (o : Int32 × (Nat → Int64)) (ho : f_X10_depart mf = o) : Met l yX10_depart wsX10_depart ({ frames := 2, cells := 0, slots := 0, locals := 40 } : Room) (xPre D (xT cI cJ cZ cB) [.ref aM] [(aM, .inr (10, [.ref mA, .ref mB, .ref mC, .ref mD, .ref mE, .int pm, .int sp, .int (bi iw), .ref mF, .int rn])), (mA, .inl (cJ, 93, .inr (.inl mf)))] sz) (va_Qi (fun r (_ : Unit) => r = o.1) (fun _ t => xB D ([(aM, .inr (10, [.ref mA, .ref mB, .ref mC, .ref mD, .ref mE, .int pm, .int sp, .int (bi iw), .ref mF, .int rn])), (mA, .inl (cJ, 93, .inr (.inl o.2)))]) (va_A [(aM, .inr (10, [.ref mA, .ref mB, .ref mC, .ref mD, .ref mE, .int pm, .int sp, .int (bi iw), .ref mF, .int rn])), (mA, .inl (cJ, 93, .inr (.inl mf)))] sz) t) (va_A [(aM, .inr (10, [.ref mA, .ref mB, .ref mC, .ref mD, .ref mE, .int pm, .int sp, .int (bi iw), .ref mF, .int rn])), (mA, .inl (cJ, 93, .inr (.inl mf)))] sz)) 0 0 (va_A [(aM, .inr (10, [.ref mA, .ref mB, .ref mC, .ref mD, .ref mE, .int pm, .int sp, .int (bi iw), .ref mF, .int rn])), (mA, .inl (cJ, 93, .inr (.inl mf)))] sz) := by
  refine xofW (Qc := fun A0 => va_Qi (fun r (_ : Unit) => r = o.1) (fun _ t => xB D ([(aM, .inr (10, [.ref mA, .ref mB, .ref mC, .ref mD, .ref mE, .int pm, .int sp, .int (bi iw), .ref mF, .int rn])), (mA, .inl (cJ, 93, .inr (.inl o.2)))]) A0 t) A0) (fr := fun A => A) (cc := cX10_depart) (maxL := 1) (ret := (some .int)) (by decide) rfl (Nat.le_of_ble_eq_true rfl) ?_
  intro p e s m below meth c A ⟨hx, hb, hml, hown, hts⟩ hrt hlocks hnm hsz hK hW hA hG ls hl
  have hown : s.vm.findClass RX10 = some m.cls := hown
  have hl : lv_has ls 1 [(0, .ref aM)] := hl
  obtain ⟨H, hH⟩ : ∃ H, H = s.heap := ⟨_, rfl⟩
  have hW : xW D A s.heap ([(aM, .inr (10, [.ref mA, .ref mB, .ref mC, .ref mD, .ref mE, .int pm, .int sp, .int (bi iw), .ref mF, .int rn])), (mA, .inl (cJ, 93, .inr (.inl mf)))] ++ []) H [] := by rw [hH]; exact hW
  have w1 := hts (.fieldLink RX10 7 "DryIceLaneModel" "at" "[J") (by decide +kernel)
  have hin10 : ∀ w ∈ u_ws RX10 TX10 10, w ∈ wsX10_depart := by decide +kernel
  rw [← hH]
  refine lv_aload_n hx hb dX10_depart_0 rfl (lv_at hl 0 rfl) ?_
  refine vp_callSi (va_Run.run (xrunV (As := []) (rest := []) ⟨hx, hb, hml, hown, hts⟩ (c_X10_isAway l D cI cJ cZ cB H.size aM mA mB mC mD mE pm sp iw mF rn mf _ rfl) (cwV 0 hts gX10_depart_X10_isAway rfl rfl rfl (by decide +kernel) ⟨Nat.le_of_ble_eq_true rfl, Nat.le_of_ble_eq_true rfl⟩) hK hG hW.2.2 (xsubQ hW hA [0, 1] rfl (by decide)) (va_recv hK hW.1 (ci := 10) (q0 := 0) rfl rfl) rfl hl.1 rfl (Nat.le_of_ble_eq_true rfl) dX10_depart_1 ⟨Nat.le_of_ble_eq_true rfl, Nat.le_of_ble_eq_true rfl⟩)) (fun r1 hq => ?_)
  subst hq
  refine xb_ne (tgt := 21) hx hb dX10_depart_4 (by decide) (fun c1 => ?_) (fun c1 => ?_)
  · skip
    refine lv_bipush (v := -5) hx hb dX10_depart_21 (by decide) ?_
    have hF : f_X10_depart mf = (-5, mf) := by
      rw [f_X10_depart, if_pos c1]
    obtain rfl : (-5, mf) = o := hF.symm.trans ho
    exact W.iret (v := -5) hx hb hrt (fun t ht hM => ⟨⟨_, (), rfl, rfl, ⟨by rw [ht]; exact hW.1, hW.2.1⟩⟩, hW.2.2.F ht⟩) hW.2.2.2.2 dX10_depart_23 hlocks
  · skip
    refine lv_aload_n hx hb dX10_depart_7 rfl (lv_at hl 0 rfl) ?_
    refine vp_callSi (va_Run.run (xrunV (As := []) (rest := []) ⟨hx, hb, hml, hown, hts⟩ (c_X10_isDoorOpen l D cI cJ cZ cB H.size aM mA mB mC mD mE pm sp iw mF rn mf _ rfl) (cwV 0 hts gX10_depart_X10_isDoorOpen rfl rfl rfl (by decide +kernel) ⟨Nat.le_of_ble_eq_true rfl, Nat.le_of_ble_eq_true rfl⟩) hK hG hW.2.2 (xsubQ hW hA [0, 1] rfl (by decide)) (va_recv hK hW.1 (ci := 10) (q0 := 0) rfl rfl) rfl hl.1 rfl (Nat.le_of_ble_eq_true rfl) dX10_depart_8 ⟨Nat.le_of_ble_eq_true rfl, Nat.le_of_ble_eq_true rfl⟩)) (fun r2 hq => ?_)
    subst hq
    refine xb_ne (tgt := 21) hx hb dX10_depart_11 (by decide) (fun c2 => ?_) (fun c2 => ?_)
    · skip
      refine lv_bipush (v := -5) hx hb dX10_depart_21 (by decide) ?_
      have hF : f_X10_depart mf = (-5, mf) := by
        rw [f_X10_depart, if_neg c1, if_pos c2]
      obtain rfl : (-5, mf) = o := hF.symm.trans ho
      exact W.iret (v := -5) hx hb hrt (fun t ht hM => ⟨⟨_, (), rfl, rfl, ⟨by rw [ht]; exact hW.1, hW.2.1⟩⟩, hW.2.2.F ht⟩) hW.2.2.2.2 dX10_depart_23 hlocks
    · skip
      refine lv_aload_n hx hb dX10_depart_14 rfl (lv_at hl 0 rfl) ?_
      refine vp_callSi (va_Run.run (xrunV (As := []) (rest := []) ⟨hx, hb, hml, hown, hts⟩ (c_X10_hasNext l D cI cJ cZ cB H.size aM mA mB mC mD mE pm sp iw mF rn mf _ rfl) (cwV 0 hts gX10_depart_X10_hasNext rfl rfl rfl (by decide +kernel) ⟨Nat.le_of_ble_eq_true rfl, Nat.le_of_ble_eq_true rfl⟩) hK hG hW.2.2 (xsubQ hW hA [0, 1] rfl (by decide)) (va_recv hK hW.1 (ci := 10) (q0 := 0) rfl rfl) rfl hl.1 rfl (Nat.le_of_ble_eq_true rfl) dX10_depart_15 ⟨Nat.le_of_ble_eq_true rfl, Nat.le_of_ble_eq_true rfl⟩)) (fun r3 hq => ?_)
      subst hq
      refine xb_ne (tgt := 24) hx hb dX10_depart_18 (by decide) (fun c3 => ?_) (fun c3 => ?_)
      · skip
        refine lv_aload_n hx hb dX10_depart_24 rfl (lv_at hl 0 rfl) ?_
        refine xQv (wr := []) hW hA [0, 1] [] rfl rfl (by decide) (by decide) (by decide) (xrunV (As := []) (rest := []) ⟨hx, hb, hml, hown, hts⟩ (c_X10_begin l D cI cJ cZ cB H.size aM mA mB mC mD mE pm sp iw mF rn mf _ rfl) (cwV 0 hts gX10_depart_X10_begin rfl rfl rfl (by decide +kernel) ⟨Nat.le_of_ble_eq_true rfl, Nat.le_of_ble_eq_true rfl⟩) hK hG hW.2.2 (xsubQ hW hA [0, 1] rfl (by decide)) (va_recv hK hW.1 (ci := 10) (q0 := 0) rfl rfl) rfl hl.1 rfl (Nat.le_of_ble_eq_true rfl) dX10_depart_25 ⟨Nat.le_of_ble_eq_true rfl, Nat.le_of_ble_eq_true rfl⟩) (fun _ H locs _ hW => ?_)
        have hW : xW D A s.heap ([(aM, .inr (10, [.ref mA, .ref mB, .ref mC, .ref mD, .ref mE, .int pm, .int sp, .int (bi iw), .ref mF, .int rn])), (mA, .inl (cJ, 93, .inr (.inl (f_X10_begin mf))))] ++ []) H _ := hW
        refine lv_aload_n hx hb dX10_depart_28 rfl (lv_at hl 0 rfl) ?_
        refine xget (ci := 10) (C := RX10) (T := TX10) (N := 10) hx hb hts hin10 hown hK hW.1 0 rfl rfl 0 (by decide) w1 rfl dX10_depart_29 ?_
        refine lv_bipush (v := 84) hx hb dX10_depart_32 (by decide) ?_
        refine xlald hx hb hK hW.1 1 1 rfl rfl (vp_in_iff.mpr ⟨by decide, by decide⟩) 84 rfl (v := (f_X10_begin mf) 84) rfl dX10_depart_34 ?_
        refine lv_l2i hx hb dX10_depart_35 rfl ?_
        have hF : f_X10_depart mf = (((f_X10_begin mf) 84).toInt32, f_X10_begin mf) := by
          rw [f_X10_depart, if_neg c1, if_neg c2, if_pos c3]
        obtain rfl : (((f_X10_begin mf) 84).toInt32, f_X10_begin mf) = o := hF.symm.trans ho
        exact W.iret (v := ((f_X10_begin mf) 84).toInt32) hx hb hrt (fun t ht hM => ⟨⟨_, (), rfl, rfl, ⟨by rw [ht]; exact hW.1, hW.2.1⟩⟩, hW.2.2.F ht⟩) hW.2.2.2.2 dX10_depart_36 hlocks
      · skip
        refine lv_bipush (v := -5) hx hb dX10_depart_21 (by decide) ?_
        have hF : f_X10_depart mf = (-5, mf) := by
          rw [f_X10_depart, if_neg c1, if_neg c2, if_neg c3]
        obtain rfl : (-5, mf) = o := hF.symm.trans ho
        exact W.iret (v := -5) hx hb hrt (fun t ht hM => ⟨⟨_, (), rfl, rfl, ⟨by rw [ht]; exact hW.1, hW.2.1⟩⟩, hW.2.2.F ht⟩) hW.2.2.2.2 dX10_depart_23 hlocks

def f_X10_outside (mf : Nat → Int64) : Int64 :=
  if 0 ≤ (mf 84) then
    mf ((40 + (2 * (mf 84).toInt32)) + 1).toNatClampNeg
  else
    2000
set_option maxHeartbeats 4000000 in
set_option maxRecDepth 100000 in
theorem c_X10_outside (l : Launch) (D : va_G) (cI cJ cZ cB : ClassId) (sz : Nat) (aM : Nat) (mA : Nat) (mB : Nat) (mC : Nat) (mD : Nat) (mE : Nat) (pm : Int32) (sp : Int32) (iw : Bool) (mF : Nat) (rn : Int32) (mf : Nat → Int64) (hok : okM mf) (o : Int64) (ho : f_X10_outside mf = o) : Met l yX10_outside wsX10_outside ({ frames := 0, cells := 0, slots := 0, locals := 0 } : Room) (xPre D (xT cI cJ cZ cB) [.ref aM] [(aM, .inr (10, [.ref mA, .ref mB, .ref mC, .ref mD, .ref mE, .int pm, .int sp, .int (bi iw), .ref mF, .int rn])), (mA, .inl (cJ, 93, .inr (.inl mf)))] sz) (vp_Sl (fun r => r = o)) 0 0 (fun _ => False) := by
  refine xofW (Qc := fun _ => vp_Sl (fun r => r = o)) (fr := fun _ _ => False) (cc := cX10_outside) (maxL := 1) (ret := (some .long)) (by decide) rfl (Nat.le_of_ble_eq_true rfl) ?_
  intro p e s m below meth c A ⟨hx, hb, hml, hown, hts⟩ hrt hlocks hnm hsz hK hW hA hG ls hl
  have hown : s.vm.findClass RX10 = some m.cls := hown
  have hl : lv_has ls 1 [(0, .ref aM)] := hl
  obtain ⟨H, hH⟩ : ∃ H, H = s.heap := ⟨_, rfl⟩
  have hW : xW D A s.heap ([(aM, .inr (10, [.ref mA, .ref mB, .ref mC, .ref mD, .ref mE, .int pm, .int sp, .int (bi iw), .ref mF, .int rn])), (mA, .inl (cJ, 93, .inr (.inl mf)))] ++ []) H [] := by rw [hH]; exact hW
  have w1 := hts (.fieldLink RX10 7 "DryIceLaneModel" "at" "[J") (by decide +kernel)
  have hin10 : ∀ w ∈ u_ws RX10 TX10 10, w ∈ wsX10_outside := by decide +kernel
  have w3 := hts (.constantLong RX10 30 (2000)) (by decide +kernel)
  rw [← hH]
  refine lv_aload_n hx hb dX10_outside_0 rfl (lv_at hl 0 rfl) ?_
  refine xget (ci := 10) (C := RX10) (T := TX10) (N := 10) hx hb hts hin10 hown hK hW.1 0 rfl rfl 0 (by decide) w1 rfl dX10_outside_1 ?_
  refine lv_bipush (v := 84) hx hb dX10_outside_4 (by decide) ?_
  refine xlald hx hb hK hW.1 1 1 rfl rfl (vp_in_iff.mpr ⟨by decide, by decide⟩) 84 rfl (v := mf 84) rfl dX10_outside_6 ?_
  refine lv_lconst (v := 0) hx hb dX10_outside_7 (by decide) ?_
  refine xlc_ge (tgt := 18) hx hb dX10_outside_8 dX10_outside_9 (by decide) (fun c1 => ?_) (fun c1 => ?_)
  · skip
    refine lv_aload_n hx hb dX10_outside_18 rfl (lv_at hl 0 rfl) ?_
    refine xget (ci := 10) (C := RX10) (T := TX10) (N := 10) hx hb hts hin10 hown hK hW.1 0 rfl rfl 0 (by decide) w1 rfl dX10_outside_19 ?_
    refine lv_bipush (v := 40) hx hb dX10_outside_22 (by decide) ?_
    refine lv_iconst (v := 2) hx hb dX10_outside_24 (by decide) ?_
    refine lv_aload_n hx hb dX10_outside_25 rfl (lv_at hl 0 rfl) ?_
    refine xget (ci := 10) (C := RX10) (T := TX10) (N := 10) hx hb hts hin10 hown hK hW.1 0 rfl rfl 0 (by decide) w1 rfl dX10_outside_26 ?_
    refine lv_bipush (v := 84) hx hb dX10_outside_29 (by decide) ?_
    refine xlald hx hb hK hW.1 1 1 rfl rfl (vp_in_iff.mpr ⟨by decide, by decide⟩) 84 rfl (v := mf 84) rfl dX10_outside_31 ?_
    refine lv_l2i hx hb dX10_outside_32 rfl ?_
    refine lv_imul hx hb dX10_outside_33 ?_
    refine lv_iadd hx hb dX10_outside_34 ?_
    refine lv_iconst (v := 1) hx hb dX10_outside_35 (by decide) ?_
    refine lv_iadd hx hb dX10_outside_36 ?_
    refine xlald hx hb hK hW.1 1 1 rfl rfl (lg_in1 (lg_la hok)) ((40 + (2 * (mf 84).toInt32)) + 1).toNatClampNeg rfl (v := mf ((40 + (2 * (mf 84).toInt32)) + 1).toNatClampNeg) rfl dX10_outside_37 ?_
    have hF : f_X10_outside mf = mf ((40 + (2 * (mf 84).toInt32)) + 1).toNatClampNeg := by
      rw [f_X10_outside, if_pos c1]
    obtain rfl : mf ((40 + (2 * (mf 84).toInt32)) + 1).toNatClampNeg = o := hF.symm.trans ho
    exact W.lret (v := mf ((40 + (2 * (mf 84).toInt32)) + 1).toNatClampNeg) hx hb hrt (fun t ht hM => ⟨_, rfl, rfl, ht.trans hH⟩) (fun q h => by cases h) dX10_outside_38 hlocks
  · skip
    refine lv_ldc2 hx hb hown w3 dX10_outside_12 ?_
    refine lv_goto (tgt := 38) hx hb dX10_outside_15 (by decide) ?_
    have hF : f_X10_outside mf = 2000 := by
      rw [f_X10_outside, if_neg c1]
    obtain rfl : 2000 = o := hF.symm.trans ho
    exact W.lret (v := 2000) hx hb hrt (fun t ht hM => ⟨_, rfl, rfl, ht.trans hH⟩) (fun q h => by cases h) dX10_outside_38 hlocks
