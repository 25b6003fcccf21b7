theorem ft_lp (pm : Int32) (mp : Nat → Int32) (hp : okC pm 80) : ∀ (n : Nat) (ys : Int32) (yw : Bool) (yr : Int32) (yg : Nat → Int32), (0 ≤ ys.toInt ∧ ys.toInt ≤ pm.toInt) → okY ys yr yw → (pm.toInt - ys.toInt).toNat < n → 0 ≤ (f_X10_fault_lp19 pm mp n ys yw yr yg).2.2.2.1.toInt ∧ (f_X10_fault_lp19 pm mp n ys yw yr yg).2.2.2.1.toInt ≤ 21 := by
  intro n
  induction n with
  | zero => intro ys yw yr yg _ _ h; exact absurd h (Nat.not_lt_zero _)
  | succ n ih =>
    intro ys yw yr yg hs hy hm
    rw [f_X10_fault_lp19]
    split
    · exact hy.1
    · rename_i c1
      split
      · rename_i c2
        have hl := nx_eq c2 (by decide)
        have hM := tl_f (iw := yw) (rn := yr) (mp := mp) (mr := yg) (sp_ok hs hl)
        generalize f_X10_takeLeg pm (ys + 1) yw yr mp yg = o at hM ⊢
        unfold f_X10_fault_k2
        exact ih _ _ _ _ hM.1 (okY_s hp hs.1 hy c1 hl hM.2.2.1 hM.2.2.2) (fl_mu hs hl hM.2.1 hm)
      · split <;> exact hy.1
theorem ft_f {pm : Int32} {mp mr : Nat → Int32} (hp : okC pm 80) : 0 ≤ (f_X10_fault pm mp mr).2.2.2.1.toInt ∧ (f_X10_fault pm mp mr).2.2.2.1.toInt ≤ 21 := by
  unfold f_X10_fault
  have hL := tl_f (iw := false) (rn := 0) (mp := mp) (mr := mr) (sp_z hp)
  generalize f_X10_takeLeg pm 0 false 0 mp mr = o at hL ⊢
  unfold f_X10_fault_k1
  exact ft_lp pm mp hp _ _ _ _ _ hL.1 (okY_0 hL.2.2.1 hL.2.2.2) (Nat.lt_succ_self _)
theorem rl_0 {f : Nat → Int64} {r : Int32} (hok : okM f) (hr : 0 ≤ r.toInt ∧ r.toInt ≤ 21) (c : f_X10_legs f + r ≤ 12) : (f 76).toInt + r.toInt ≤ 12 + (0 : Int32).toInt := by
  have h1 : (f_X10_legs f).toInt = (f 76).toInt := okM_nl hok
  have h2 := hok.2.1
  have h3 := xle.mp c
  have e : (12 : Int32).toInt = 12 := by decide
  rw [xaddI (by omega) (by omega), h1] at h3
  have e0 := xI0
  omega
theorem rl_b {f : Nat → Int64} {r x : Int32} (hok : okM f) (hr : 0 ≤ r.toInt ∧ r.toInt ≤ 21) (h : (f 76).toInt + r.toInt ≤ 12 + x.toInt) (c : ¬ r ≤ x) : (f 76).toInt ≤ 11 := by
  have := xnle.mp c
  omega
theorem rl_x {r x : Int32} (hr : 0 ≤ r.toInt ∧ r.toInt ≤ 21) (h0 : 0 ≤ x.toInt) (c : ¬ r ≤ x) : 0 ≤ x.toInt ∧ x.toInt ≤ 29 := by
  have := xnle.mp c
  omega
theorem rl_l {f : Nat → Int64} (hok : okM f) (h : (f 76).toInt ≤ 11) : -1 ≤ (f_X10_legs f).toInt ∧ (f_X10_legs f).toInt < 12 := by
  have h1 : (f_X10_legs f).toInt = (f 76).toInt := okM_nl hok
  have h2 := hok.2.1
  omega
theorem rl_n {f : Nat → Int64} (hok : okM f) (h : (f 76).toInt ≤ 11) : 40 ≤ (40 + 2 * f_X10_legs f).toNatClampNeg ∧ (40 + 2 * f_X10_legs f).toNatClampNeg < 63 ∧ (40 + 2 * f_X10_legs f + 1).toNatClampNeg = (40 + 2 * f_X10_legs f).toNatClampNeg + 1 := by
  have h1 : (f_X10_legs f).toInt = (f 76).toInt := okM_nl hok
  have h2 := hok.2.1
  have h3 := lg_i (rl_l hok h)
  have e := xI1
  have h4 : (40 + 2 * f_X10_legs f + 1).toInt = (40 + 2 * f_X10_legs f).toInt + 1 := by rw [xaddI (by omega) (by omega), e]
  show 40 ≤ (40 + 2 * f_X10_legs f).toInt.toNat ∧ (40 + 2 * f_X10_legs f).toInt.toNat < 63 ∧ (40 + 2 * f_X10_legs f + 1).toInt.toNat = (40 + 2 * f_X10_legs f).toInt.toNat + 1
  omega
theorem rl_s {f : Nat → Int64} {v : Int64} (hok : okM f) (h : (f 76).toInt ≤ 11) : f_X10_legs (vp_updL f (40 + 2 * f_X10_legs f).toNatClampNeg v) = f_X10_legs f := by
  have h1 := rl_n hok h
  show (vp_updL f (40 + 2 * f_X10_legs f).toNatClampNeg v 76).toInt32 = (f 76).toInt32
  rw [uL_ne (by omega)]
theorem rl_w {f : Nat → Int64} {v : Int64} (hok : okM f) (h : (f 76).toInt ≤ 11) : vp_in (40 + 2 * f_X10_legs (vp_updL f (40 + 2 * f_X10_legs f).toNatClampNeg v) + 1) 93 := by
  rw [rl_s hok h]; exact lg_in1 (rl_l hok h)
theorem rl_g {f : Nat → Int64} {v w : Int64} (hok : okM f) (h : (f 76).toInt ≤ 11) (k : Nat) (hk : k < 40 ∨ 64 ≤ k) : vp_updL (vp_updL f (40 + 2 * f_X10_legs f).toNatClampNeg v) (40 + 2 * f_X10_legs (vp_updL f (40 + 2 * f_X10_legs f).toNatClampNeg v) + 1).toNatClampNeg w k = f k := by
  have h1 := rl_n hok h
  rw [rl_s hok h, h1.2.2, uL_ne (by omega), uL_ne (by omega)]
theorem rl_k {f g : Nat → Int64} (hok : okM f) (h : (f 76).toInt ≤ 11) (hg : ∀ k, (k < 40 ∨ 64 ≤ k) → g k = f k) : okM (vp_updL g 76 (g 76 + 1)) ∧ (vp_updL g 76 (g 76 + 1) 76).toInt = (f 76).toInt + 1 := by
  have e1 : (1 : Int64).toInt = 1 := by decide
  have h2 := hok.2.1
  have e : (vp_updL g 76 (g 76 + 1) 76).toInt = (f 76).toInt + 1 := by
    rw [uL_eq, hg 76 (by decide), Int64.toInt_add, e1, Int.bmod_eq_of_le (by omega) (by omega)]
  refine ⟨?_, e⟩
  have q : ∀ k, k ≠ 76 → (k < 40 ∨ 64 ≤ k) → vp_updL g 76 (g 76 + 1) k = f k := fun k h1 h2 => by rw [uL_ne h1, hg k h2]
  obtain ⟨h1, h2, h3, h4, h5, h6, h7, h8⟩ := hok
  refine ⟨by rw [q 75 (by decide) (by decide)]; exact h1, by rw [e]; omega, by rw [q 84 (by decide) (by decide)]; exact h3, by rw [q 65 (by decide) (by decide)]; exact h4, by rw [q 73 (by decide) (by decide)]; exact h5, by rw [q 74 (by decide) (by decide)]; exact h6, by rw [q 86 (by decide) (by decide), q 84 (by decide) (by decide)]; exact h7, fun b hb => ?_⟩
  rw [q 75 (by decide) (by decide)] at hb
  rw [q (4 * b) (by omega) (by omega)]
  exact h8 b hb

def f_X10_read_lp31 (o1_ : Int32 × Int32 × Bool × Int32 × (Nat → Int32)) : Nat → Int32 → (Nat → Int64) → Int32 × Int32 × Int32 × Bool × Int32 × (Nat → Int64) × (Nat → Int32)
  | 0, _, _ => (0, 0, 0, false, 0, (fun _ => 0), (fun _ => 0))
  | n + 1, xi, yf =>
    if o1_.2.2.2.1 ≤ xi then
      (f_X10_legs yf, 0, o1_.2.1, o1_.2.2.1, o1_.2.2.2.1, yf, o1_.2.2.2.2)
    else
      f_X10_read_lp31 o1_ n (xi + 1) (vp_updL (vp_updL (vp_updL yf (40 + (2 * (f_X10_legs yf))).toNatClampNeg (o1_.2.2.2.2 (2 * xi).toNatClampNeg).toInt64) ((40 + (2 * (f_X10_legs (vp_updL yf (40 + (2 * (f_X10_legs yf))).toNatClampNeg (o1_.2.2.2.2 (2 * xi).toNatClampNeg).toInt64)))) + 1).toNatClampNeg (o1_.2.2.2.2 ((2 * xi) + 1).toNatClampNeg).toInt64) 76 (((vp_updL (vp_updL yf (40 + (2 * (f_X10_legs yf))).toNatClampNeg (o1_.2.2.2.2 (2 * xi).toNatClampNeg).toInt64) ((40 + (2 * (f_X10_legs (vp_updL yf (40 + (2 * (f_X10_legs yf))).toNatClampNeg (o1_.2.2.2.2 (2 * xi).toNatClampNeg).toInt64)))) + 1).toNatClampNeg (o1_.2.2.2.2 ((2 * xi) + 1).toNatClampNeg).toInt64) 76) + 1))
def f_X10_read_k1 (pm : Int32) (mf : Nat → Int64) (o1_ : Int32 × Int32 × Bool × Int32 × (Nat → Int32)) : Int32 × Int32 × Int32 × Bool × Int32 × (Nat → Int64) × (Nat → Int32) :=
  if o1_.1 = (-6) then
    if ((f_X10_legs mf) + o1_.2.2.2.1) ≤ 12 then
      f_X10_read_lp31 o1_ ((o1_.2.2.2.1.toInt - (0 : Int32).toInt).toNat + 1) 0 mf
    else
      (-4, pm, o1_.2.1, o1_.2.2.1, o1_.2.2.2.1, mf, o1_.2.2.2.2)
  else
    (-3, pm, o1_.2.1, o1_.2.2.1, o1_.2.2.2.1, mf, o1_.2.2.2.2)
def f_X10_read (pm : Int32) (mf : Nat → Int64) (mp : Nat → Int32) (mr : Nat → Int32) : Int32 × Int32 × Int32 × Bool × Int32 × (Nat → Int64) × (Nat → Int32) :=
  f_X10_read_k1 pm mf (f_X10_fault pm mp mr)
set_option maxHeartbeats 4000000 in
set_option maxRecDepth 100000 in
theorem c_X10_read (l : Launch) (D : va_G) (cI cJ cZ cB : ClassId) (sz : Nat) (aM : Nat) (mA : Nat) (mE : Nat) (mF : Nat) (mB : Nat) (mC : Nat) (mD : Nat) (pm : Int32) (sp : Int32) (iw : Bool) (rn : Int32) (mf : Nat → Int64) (mp : Nat → Int32) (mr : Nat → Int32) (hok : okM mf) (hpm : okC pm 80) (o : Int32 × Int32 × Int32 × Bool × Int32 × (Nat → Int64) × (Nat → Int32)) (ho : f_X10_read pm mf mp mr = o) : Met l yX10_read wsX10_read ({ frames := 4, cells := 0, slots := 0, locals := 91 } : Room) (xPre D (xT cI cJ cZ cB) [.ref aM] [(aM, .inr (10, [.ref mA, .ref mB, .ref mC, .ref mD, .ref mE, .int pm, .int sp, .int (bi iw), .ref mF, .int rn])), (mA, .inl (cJ, 93, .inr (.inl mf))), (mE, .inl (cI, 80, .inl mp)), (mF, .inl (cI, 60, .inl mr))] sz) (va_Qi (fun r (_ : Unit) => r = o.1) (fun _ t => xB D ([(aM, .inr (10, [.ref mA, .ref mB, .ref mC, .ref mD, .ref mE, .int o.2.1, .int o.2.2.1, .int (bi o.2.2.2.1), .ref mF, .int o.2.2.2.2.1])), (mA, .inl (cJ, 93, .inr (.inl o.2.2.2.2.2.1))), (mE, .inl (cI, 80, .inl mp)), (mF, .inl (cI, 60, .inl o.2.2.2.2.2.2))]) (va_A [(aM, .inr (10, [.ref mA, .ref mB, .ref mC, .ref mD, .ref mE, .int pm, .int sp, .int (bi iw), .ref mF, .int rn])), (mA, .inl (cJ, 93, .inr (.inl mf))), (mE, .inl (cI, 80, .inl mp)), (mF, .inl (cI, 60, .inl mr))] sz) t) (va_A [(aM, .inr (10, [.ref mA, .ref mB, .ref mC, .ref mD, .ref mE, .int pm, .int sp, .int (bi iw), .ref mF, .int rn])), (mA, .inl (cJ, 93, .inr (.inl mf))), (mE, .inl (cI, 80, .inl mp)), (mF, .inl (cI, 60, .inl mr))] sz)) 0 0 (va_A [(aM, .inr (10, [.ref mA, .ref mB, .ref mC, .ref mD, .ref mE, .int pm, .int sp, .int (bi iw), .ref mF, .int rn])), (mA, .inl (cJ, 93, .inr (.inl mf))), (mE, .inl (cI, 80, .inl mp)), (mF, .inl (cI, 60, .inl mr))] sz) := by
  refine xofW (Qc := fun A0 => va_Qi (fun r (_ : Unit) => r = o.1) (fun _ t => xB D ([(aM, .inr (10, [.ref mA, .ref mB, .ref mC, .ref mD, .ref mE, .int o.2.1, .int o.2.2.1, .int (bi o.2.2.2.1), .ref mF, .int o.2.2.2.2.1])), (mA, .inl (cJ, 93, .inr (.inl o.2.2.2.2.2.1))), (mE, .inl (cI, 80, .inl mp)), (mF, .inl (cI, 60, .inl o.2.2.2.2.2.2))]) A0 t) A0) (fr := fun A => A) (cc := cX10_read) (maxL := 2) (ret := (some .int)) (by decide) rfl (Nat.le_of_ble_eq_true rfl) ?_
  intro p e s m below meth c A ⟨hx, hb, hml, hown, hts⟩ hrt hlocks hnm hsz hK hW hA hG ls hl
  have hown : s.vm.findClass RX10 = some m.cls := hown
  have hl : lv_has ls 2 [(0, .ref aM)] := hl
  obtain ⟨H, hH⟩ : ∃ H, H = s.heap := ⟨_, rfl⟩
  have hW : xW D A s.heap ([(aM, .inr (10, [.ref mA, .ref mB, .ref mC, .ref mD, .ref mE, .int pm, .int sp, .int (bi iw), .ref mF, .int rn])), (mA, .inl (cJ, 93, .inr (.inl mf))), (mE, .inl (cI, 80, .inl mp)), (mF, .inl (cI, 60, .inl mr))] ++ []) H [] := by rw [hH]; exact hW
  have w1 := hts (.fieldLink RX10 216 "DryIceLaneModel" "readMany" "I") (by decide +kernel)
  have hin10 : ∀ w ∈ u_ws RX10 TX10 10, w ∈ wsX10_read := by decide +kernel
  have w3 := hts (.fieldLink RX10 179 "DryIceLaneModel" "padMany" "I") (by decide +kernel)
  have w4 := hts (.fieldLink RX10 7 "DryIceLaneModel" "at" "[J") (by decide +kernel)
  have w5 := hts (.fieldLink RX10 27 "DryIceLaneModel" "read" "[I") (by decide +kernel)
  rw [← hH]
  refine lv_aload_n hx hb dX10_read_0 rfl (lv_at hl 0 rfl) ?_
  obtain ⟨o1_, eo1_⟩ : ∃ z9, f_X10_fault pm mp mr = z9 := ⟨_, rfl⟩
  refine xQi (wr := [(mA, .inl (cJ, 93, .inr (.inl mf)))]) hW hA [0, 2, 3] [1] rfl rfl (by decide) (by decide) (by decide) (xrunV (As := []) (rest := []) ⟨hx, hb, hml, hown, hts⟩ (c_X10_fault l D cI cJ cZ cB H.size aM mE mF mA mB mC mD pm sp iw rn mp mr (by assumption) o1_ eo1_) (cwV 0 hts gX10_read_X10_fault rfl rfl rfl (by decide +kernel) ⟨Nat.le_of_ble_eq_true rfl, Nat.le_of_ble_eq_true rfl⟩) hK hG hW.2.2 (xsubQ hW hA [0, 2, 3] rfl (by decide)) (va_recv hK hW.1 (ci := 10) (q0 := 0) rfl rfl) rfl hl.1 rfl (Nat.le_of_ble_eq_true rfl) dX10_read_1 ⟨Nat.le_of_ble_eq_true rfl, Nat.le_of_ble_eq_true rfl⟩) (fun r2 _ H locs hq hW => ?_)
  subst hq
  have hW : xW D A s.heap ([(mA, .inl (cJ, 93, .inr (.inl mf))), (aM, .inr (10, [.ref mA, .ref mB, .ref mC, .ref mD, .ref mE, .int pm, .int o1_.2.1, .int (bi o1_.2.2.1), .ref mF, .int o1_.2.2.2.1])), (mE, .inl (cI, 80, .inl mp)), (mF, .inl (cI, 60, .inl o1_.2.2.2.2))] ++ []) H _ := hW
  have hF : f_X10_read pm mf mp mr = f_X10_read_k1 pm mf o1_ := by
    rw [f_X10_read, eo1_]
  have hK1 := hF.symm.trans ho
  have hR := ft_f (mp := mp) (mr := mr) hpm
  rw [eo1_] at hR
  refine lv_bipush (v := -6) hx hb dX10_read_4 (by decide) ?_
  refine lv_icmp_eq (tgt := 12) hx hb dX10_read_6 (by decide) (fun c1 => ?_) (fun c1 => ?_)
  · skip
    refine lv_aload_n hx hb dX10_read_12 rfl (lv_at hl 0 rfl) ?_
    refine vp_callSi (va_Run.run (xrunV (As := []) (rest := []) ⟨hx, hb, hml, hown, hts⟩ (c_X10_legs l D cI cJ cZ cB H.size aM mA mB mC mD mE pm o1_.2.1 o1_.2.2.1 mF o1_.2.2.2.1 mf _ rfl) (cwV 0 hts gX10_read_X10_legs rfl rfl rfl (by decide +kernel) ⟨Nat.le_of_ble_eq_true rfl, Nat.le_of_ble_eq_true rfl⟩) hK hG hW.2.2 (xsubQ hW hA [1, 0] rfl (by decide)) (va_recv hK hW.1 (ci := 10) (q0 := 1) rfl rfl) rfl hl.1 rfl (Nat.le_of_ble_eq_true rfl) dX10_read_13 ⟨Nat.le_of_ble_eq_true rfl, Nat.le_of_ble_eq_true rfl⟩)) (fun r3 hq => ?_)
    subst hq
    refine lv_aload_n hx hb dX10_read_16 rfl (lv_at hl 0 rfl) ?_
    refine xget (ci := 10) (C := RX10) (T := TX10) (N := 10) hx hb hts hin10 hown hK hW.1 1 rfl rfl 9 (by decide) w1 rfl dX10_read_17 ?_
    refine lv_iadd hx hb dX10_read_20 ?_
    refine lv_bipush (v := 12) hx hb dX10_read_21 (by decide) ?_
    refine lv_icmp_le (tgt := 29) hx hb dX10_read_23 (by decide) (fun c2 => ?_) (fun c2 => ?_)
    · skip
      refine lv_iconst (v := 0) hx hb dX10_read_29 (by decide) ?_
      refine lv_istore_n (lv' := [(1, .int 0), (0, .ref aM)]) hx hb dX10_read_30 rfl hl (by decide) rfl (fun ls hl => ?_)
      have hl31_ : ∀ (n : Nat) (xi : Int32) (yf : Nat → Int64), f_X10_read_lp31 o1_ n xi yf = o → (0 ≤ xi.toInt) → (okM yf) → ((yf 76).toInt + o1_.2.2.2.1.toInt ≤ 12 + xi.toInt) → (o1_.2.2.2.1.toInt - xi.toInt).toNat < n → ∀ (H : Heap) (locs : List Loc) (ls : Array Slot), xW D A s.heap ([(aM, .inr (10, [.ref mA, .ref mB, .ref mC, .ref mD, .ref mE, .int pm, .int o1_.2.1, .int (bi o1_.2.2.1), .ref mF, .int o1_.2.2.2.1])), (mA, .inl (cJ, 93, .inr (.inl yf))), (mE, .inl (cI, 80, .inl mp)), (mF, .inl (cI, 60, .inl o1_.2.2.2.2))] ++ []) H locs → lv_has ls 2 [(0, .ref aM), (1, .int xi)] → W p l e ({ frames := 4, cells := 0, slots := 0, locals := 91 } : Room) s m [.ref aM].toArray below meth c H locs 0 0 (MQ below (va_Qi (fun r (_ : Unit) => r = o.1) (fun _ t => xB D ([(aM, .inr (10, [.ref mA, .ref mB, .ref mC, .ref mD, .ref mE, .int o.2.1, .int o.2.2.1, .int (bi o.2.2.2.1), .ref mF, .int o.2.2.2.2.1])), (mA, .inl (cJ, 93, .inr (.inl o.2.2.2.2.2.1))), (mE, .inl (cI, 80, .inl mp)), (mF, .inl (cI, 60, .inl o.2.2.2.2.2.2))]) A t) A) [.ref aM].toArray s 0 0 A) (F0 m 31 ls []) := by
        intro n
        induction n with
        | zero =>
          intro xi yf _ _ _ _ hm
          exact absurd hm (Nat.not_lt_zero _)
        | succ n ih31 =>
          intro xi yf hlp31 hi0 hoy hle hm31 H locs ls hW hl
          refine lv_iload_n hx hb dX10_read_31 rfl (lv_at hl 1 rfl) ?_
          refine lv_aload_n hx hb dX10_read_32 rfl (lv_at hl 0 rfl) ?_
          refine xget (ci := 10) (C := RX10) (T := TX10) (N := 10) hx hb hts hin10 hown hK hW.1 0 rfl rfl 9 (by decide) w1 rfl dX10_read_33 ?_
          refine lv_icmp_ge (tgt := 106) hx hb dX10_read_36 (by decide) (fun c3 => ?_) (fun c3 => ?_)
          · skip
            refine lv_aload_n hx hb dX10_read_106 rfl (lv_at hl 0 rfl) ?_
            refine lv_iconst (v := 0) hx hb dX10_read_107 (by decide) ?_
            refine xput (ci := 10) (v := .int 0) (ty := .int) (C := RX10) (T := TX10) (N := 10) hx hb hts hin10 tyX10 tyX10_ok nmX10 hown hK hW 0 rfl (Nat.le_of_ble_eq_true rfl) rfl 5 (by decide) w3 rfl (by decide +kernel) rfl rfl (Nat.le_of_ble_eq_true rfl) dX10_read_108 (fun H locs hW => ?_)
            have hW : xW D A s.heap ([(aM, .inr (10, [.ref mA, .ref mB, .ref mC, .ref mD, .ref mE, .int 0, .int o1_.2.1, .int (bi o1_.2.2.1), .ref mF, .int o1_.2.2.2.1])), (mA, .inl (cJ, 93, .inr (.inl yf))), (mE, .inl (cI, 80, .inl mp)), (mF, .inl (cI, 60, .inl o1_.2.2.2.2))] ++ []) H _ := hW
            refine lv_aload_n hx hb dX10_read_111 rfl (lv_at hl 0 rfl) ?_
            refine vp_callSi (va_Run.run (xrunV (As := []) (rest := []) ⟨hx, hb, hml, hown, hts⟩ (c_X10_legs l D cI cJ cZ cB H.size aM mA mB mC mD mE 0 o1_.2.1 o1_.2.2.1 mF o1_.2.2.2.1 yf _ rfl) (cwV 0 hts gX10_read_X10_legs rfl rfl rfl (by decide +kernel) ⟨Nat.le_of_ble_eq_true rfl, Nat.le_of_ble_eq_true rfl⟩) hK hG hW.2.2 (xsubQ hW hA [0, 1] rfl (by decide)) (va_recv hK hW.1 (ci := 10) (q0 := 0) rfl rfl) rfl hl.1 rfl (Nat.le_of_ble_eq_true rfl) dX10_read_112 ⟨Nat.le_of_ble_eq_true rfl, Nat.le_of_ble_eq_true rfl⟩)) (fun r4 hq => ?_)
            subst hq
            have hF : f_X10_read_lp31 o1_ (n + 1) xi yf = (f_X10_legs yf, 0, o1_.2.1, o1_.2.2.1, o1_.2.2.2.1, yf, o1_.2.2.2.2) := by
              rw [f_X10_read_lp31, if_pos c3]
            obtain rfl : (f_X10_legs yf, 0, o1_.2.1, o1_.2.2.1, o1_.2.2.2.1, yf, o1_.2.2.2.2) = o := hF.symm.trans hlp31
            exact W.iret (v := f_X10_legs yf) hx hb hrt (fun t ht hM => ⟨⟨_, (), rfl, rfl, ⟨by rw [ht]; exact hW.1, hW.2.1⟩⟩, hW.2.2.F ht⟩) hW.2.2.2.2 dX10_read_115 hlocks
          · skip
            refine lv_aload_n hx hb dX10_read_39 rfl (lv_at hl 0 rfl) ?_
            refine xget (ci := 10) (C := RX10) (T := TX10) (N := 10) hx hb hts hin10 hown hK hW.1 0 rfl rfl 0 (by decide) w4 rfl dX10_read_40 ?_
            refine lv_bipush (v := 40) hx hb dX10_read_43 (by decide) ?_
            refine lv_iconst (v := 2) hx hb dX10_read_45 (by decide) ?_
            refine lv_aload_n hx hb dX10_read_46 rfl (lv_at hl 0 rfl) ?_
            refine vp_callSi (va_Run.run (xrunV (As := []) (rest := [.int 2, .int 40, .ref mA]) ⟨hx, hb, hml, hown, hts⟩ (c_X10_legs l D cI cJ cZ cB H.size aM mA mB mC mD mE pm o1_.2.1 o1_.2.2.1 mF o1_.2.2.2.1 yf _ rfl) (cwV 0 hts gX10_read_X10_legs rfl rfl rfl (by decide +kernel) ⟨Nat.le_of_ble_eq_true rfl, Nat.le_of_ble_eq_true rfl⟩) hK hG hW.2.2 (xsubQ hW hA [0, 1] rfl (by decide)) (va_recv hK hW.1 (ci := 10) (q0 := 0) rfl rfl) rfl hl.1 rfl (Nat.le_of_ble_eq_true rfl) dX10_read_47 ⟨Nat.le_of_ble_eq_true rfl, Nat.le_of_ble_eq_true rfl⟩)) (fun r5 hq => ?_)
            subst hq
            refine lv_imul hx hb dX10_read_50 ?_
            refine lv_iadd hx hb dX10_read_51 ?_
            refine lv_aload_n hx hb dX10_read_52 rfl (lv_at hl 0 rfl) ?_
            refine xget (ci := 10) (C := RX10) (T := TX10) (N := 10) hx hb hts hin10 hown hK hW.1 0 rfl rfl 8 (by decide) w5 rfl dX10_read_53 ?_
            refine lv_iconst (v := 2) hx hb dX10_read_56 (by decide) ?_
            refine lv_iload_n hx hb dX10_read_57 rfl (lv_at hl 1 rfl) ?_
            refine lv_imul hx hb dX10_read_58 ?_
            refine xiald hx hb hK hW.1 3 0 rfl rfl (rd_in (rl_x hR hi0 c3)) (2 * xi).toNatClampNeg rfl (v := o1_.2.2.2.2 (2 * xi).toNatClampNeg) rfl dX10_read_59 ?_
            refine lv_i2l hx hb dX10_read_60 rfl ?_
            refine xlast hx hb hK hW 1 1 rfl (Nat.le_of_ble_eq_true rfl) rfl (lg_in (rl_l hoy (rl_b hoy hR hle c3))) (40 + (2 * (f_X10_legs yf))).toNatClampNeg rfl dX10_read_61 (fun H locs hW => ?_)
            have hW : xW D A s.heap ([(aM, .inr (10, [.ref mA, .ref mB, .ref mC, .ref mD, .ref mE, .int pm, .int o1_.2.1, .int (bi o1_.2.2.1), .ref mF, .int o1_.2.2.2.1])), (mA, .inl (cJ, 93, .inr (.inl (vp_updL yf (40 + (2 * (f_X10_legs yf))).toNatClampNeg (o1_.2.2.2.2 (2 * xi).toNatClampNeg).toInt64)))), (mE, .inl (cI, 80, .inl mp)), (mF, .inl (cI, 60, .inl o1_.2.2.2.2))] ++ []) H _ := hW
            refine lv_aload_n hx hb dX10_read_62 rfl (lv_at hl 0 rfl) ?_
            refine xget (ci := 10) (C := RX10) (T := TX10) (N := 10) hx hb hts hin10 hown hK hW.1 0 rfl rfl 0 (by decide) w4 rfl dX10_read_63 ?_
            refine lv_bipush (v := 40) hx hb dX10_read_66 (by decide) ?_
            refine lv_iconst (v := 2) hx hb dX10_read_68 (by decide) ?_
            refine lv_aload_n hx hb dX10_read_69 rfl (lv_at hl 0 rfl) ?_
            refine vp_callSi (va_Run.run (xrunV (As := []) (rest := [.int 2, .int 40, .ref mA]) ⟨hx, hb, hml, hown, hts⟩ (c_X10_legs l D cI cJ cZ cB H.size aM mA mB mC mD mE pm o1_.2.1 o1_.2.2.1 mF o1_.2.2.2.1 (vp_updL yf (40 + (2 * (f_X10_legs yf))).toNatClampNeg (o1_.2.2.2.2 (2 * xi).toNatClampNeg).toInt64) _ rfl) (cwV 0 hts gX10_read_X10_legs rfl rfl rfl (by decide +kernel) ⟨Nat.le_of_ble_eq_true rfl, Nat.le_of_ble_eq_true rfl⟩) hK hG hW.2.2 (xsubQ hW hA [0, 1] rfl (by decide)) (va_recv hK hW.1 (ci := 10) (q0 := 0) rfl rfl) rfl hl.1 rfl (Nat.le_of_ble_eq_true rfl) dX10_read_70 ⟨Nat.le_of_ble_eq_true rfl, Nat.le_of_ble_eq_true rfl⟩)) (fun r6 hq => ?_)
            subst hq
            refine lv_imul hx hb dX10_read_73 ?_
            refine lv_iadd hx hb dX10_read_74 ?_
            refine lv_iconst (v := 1) hx hb dX10_read_75 (by decide) ?_
            refine lv_iadd hx hb dX10_read_76 ?_
            refine lv_aload_n hx hb dX10_read_77 rfl (lv_at hl 0 rfl) ?_
            refine xget (ci := 10) (C := RX10) (T := TX10) (N := 10) hx hb hts hin10 hown hK hW.1 0 rfl rfl 8 (by decide) w5 rfl dX10_read_78 ?_
            refine lv_iconst (v := 2) hx hb dX10_read_81 (by decide) ?_
            refine lv_iload_n hx hb dX10_read_82 rfl (lv_at hl 1 rfl) ?_
            refine lv_imul hx hb dX10_read_83 ?_
            refine lv_iconst (v := 1) hx hb dX10_read_84 (by decide) ?_
            refine lv_iadd hx hb dX10_read_85 ?_
            refine xiald hx hb hK hW.1 3 0 rfl rfl (rd_in1 (rl_x hR hi0 c3)) ((2 * xi) + 1).toNatClampNeg rfl (v := o1_.2.2.2.2 ((2 * xi) + 1).toNatClampNeg) rfl dX10_read_86 ?_
            refine lv_i2l hx hb dX10_read_87 rfl ?_
            refine xlast hx hb hK hW 1 1 rfl (Nat.le_of_ble_eq_true rfl) rfl (rl_w hoy (rl_b hoy hR hle c3)) ((40 + (2 * (f_X10_legs (vp_updL yf (40 + (2 * (f_X10_legs yf))).toNatClampNeg (o1_.2.2.2.2 (2 * xi).toNatClampNeg).toInt64)))) + 1).toNatClampNeg rfl dX10_read_88 (fun H locs hW => ?_)
            have hW : xW D A s.heap ([(aM, .inr (10, [.ref mA, .ref mB, .ref mC, .ref mD, .ref mE, .int pm, .int o1_.2.1, .int (bi o1_.2.2.1), .ref mF, .int o1_.2.2.2.1])), (mA, .inl (cJ, 93, .inr (.inl (vp_updL (vp_updL yf (40 + (2 * (f_X10_legs yf))).toNatClampNeg (o1_.2.2.2.2 (2 * xi).toNatClampNeg).toInt64) ((40 + (2 * (f_X10_legs (vp_updL yf (40 + (2 * (f_X10_legs yf))).toNatClampNeg (o1_.2.2.2.2 (2 * xi).toNatClampNeg).toInt64)))) + 1).toNatClampNeg (o1_.2.2.2.2 ((2 * xi) + 1).toNatClampNeg).toInt64)))), (mE, .inl (cI, 80, .inl mp)), (mF, .inl (cI, 60, .inl o1_.2.2.2.2))] ++ []) H _ := hW
            refine lv_aload_n hx hb dX10_read_89 rfl (lv_at hl 0 rfl) ?_
            refine xget (ci := 10) (C := RX10) (T := TX10) (N := 10) hx hb hts hin10 hown hK hW.1 0 rfl rfl 0 (by decide) w4 rfl dX10_read_90 ?_
            refine lv_bipush (v := 76) hx hb dX10_read_93 (by decide) ?_
            refine lv_dup2_11 hx hb dX10_read_95 rfl rfl ?_
            refine xlald hx hb hK hW.1 1 1 rfl rfl (vp_in_iff.mpr ⟨by decide, by decide⟩) 76 rfl (v := (vp_updL (vp_updL yf (40 + (2 * (f_X10_legs yf))).toNatClampNeg (o1_.2.2.2.2 (2 * xi).toNatClampNeg).toInt64) ((40 + (2 * (f_X10_legs (vp_updL yf (40 + (2 * (f_X10_legs yf))).toNatClampNeg (o1_.2.2.2.2 (2 * xi).toNatClampNeg).toInt64)))) + 1).toNatClampNeg (o1_.2.2.2.2 ((2 * xi) + 1).toNatClampNeg).toInt64) 76) rfl dX10_read_96 ?_
            refine lv_lconst (v := 1) hx hb dX10_read_97 (by decide) ?_
            refine lv_ladd hx hb dX10_read_98 ?_
            refine xlast hx hb hK hW 1 1 rfl (Nat.le_of_ble_eq_true rfl) rfl (vp_in_iff.mpr ⟨by decide, by decide⟩) 76 rfl dX10_read_99 (fun H locs hW => ?_)
            have hW : xW D A s.heap ([(aM, .inr (10, [.ref mA, .ref mB, .ref mC, .ref mD, .ref mE, .int pm, .int o1_.2.1, .int (bi o1_.2.2.1), .ref mF, .int o1_.2.2.2.1])), (mA, .inl (cJ, 93, .inr (.inl (vp_updL (vp_updL (vp_updL yf (40 + (2 * (f_X10_legs yf))).toNatClampNeg (o1_.2.2.2.2 (2 * xi).toNatClampNeg).toInt64) ((40 + (2 * (f_X10_legs (vp_updL yf (40 + (2 * (f_X10_legs yf))).toNatClampNeg (o1_.2.2.2.2 (2 * xi).toNatClampNeg).toInt64)))) + 1).toNatClampNeg (o1_.2.2.2.2 ((2 * xi) + 1).toNatClampNeg).toInt64) 76 (((vp_updL (vp_updL yf (40 + (2 * (f_X10_legs yf))).toNatClampNeg (o1_.2.2.2.2 (2 * xi).toNatClampNeg).toInt64) ((40 + (2 * (f_X10_legs (vp_updL yf (40 + (2 * (f_X10_legs yf))).toNatClampNeg (o1_.2.2.2.2 (2 * xi).toNatClampNeg).toInt64)))) + 1).toNatClampNeg (o1_.2.2.2.2 ((2 * xi) + 1).toNatClampNeg).toInt64) 76) + 1))))), (mE, .inl (cI, 80, .inl mp)), (mF, .inl (cI, 60, .inl o1_.2.2.2.2))] ++ []) H _ := hW
            refine lv_iinc (v := xi + 1) (lv' := [(1, .int (xi + 1)), (0, .ref aM)]) hx hb dX10_read_100 hl (k := 1) rfl rfl (by decide) rfl (fun ls hl => ?_)
            refine lv_goto (tgt := 31) hx hb dX10_read_103 (by decide) ?_
            have hF : f_X10_read_lp31 o1_ (n + 1) xi yf = f_X10_read_lp31 o1_ n (xi + 1) (vp_updL (vp_updL (vp_updL yf (40 + (2 * (f_X10_legs yf))).toNatClampNeg (o1_.2.2.2.2 (2 * xi).toNatClampNeg).toInt64) ((40 + (2 * (f_X10_legs (vp_updL yf (40 + (2 * (f_X10_legs yf))).toNatClampNeg (o1_.2.2.2.2 (2 * xi).toNatClampNeg).toInt64)))) + 1).toNatClampNeg (o1_.2.2.2.2 ((2 * xi) + 1).toNatClampNeg).toInt64) 76 (((vp_updL (vp_updL yf (40 + (2 * (f_X10_legs yf))).toNatClampNeg (o1_.2.2.2.2 (2 * xi).toNatClampNeg).toInt64) ((40 + (2 * (f_X10_legs (vp_updL yf (40 + (2 * (f_X10_legs yf))).toNatClampNeg (o1_.2.2.2.2 (2 * xi).toNatClampNeg).toInt64)))) + 1).toNatClampNeg (o1_.2.2.2.2 ((2 * xi) + 1).toNatClampNeg).toInt64) 76) + 1)) := by
              rw [f_X10_read_lp31, if_neg c3]
            refine W.widen (k := 0) (n := 0) (Nat.le_of_ble_eq_true rfl) (Nat.le_of_ble_eq_true rfl) ?_
            exact ih31 (xi + 1) (vp_updL (vp_updL (vp_updL yf (40 + (2 * (f_X10_legs yf))).toNatClampNeg (o1_.2.2.2.2 (2 * xi).toNatClampNeg).toInt64) ((40 + (2 * (f_X10_legs (vp_updL yf (40 + (2 * (f_X10_legs yf))).toNatClampNeg (o1_.2.2.2.2 (2 * xi).toNatClampNeg).toInt64)))) + 1).toNatClampNeg (o1_.2.2.2.2 ((2 * xi) + 1).toNatClampNeg).toInt64) 76 (((vp_updL (vp_updL yf (40 + (2 * (f_X10_legs yf))).toNatClampNeg (o1_.2.2.2.2 (2 * xi).toNatClampNeg).toInt64) ((40 + (2 * (f_X10_legs (vp_updL yf (40 + (2 * (f_X10_legs yf))).toNatClampNeg (o1_.2.2.2.2 (2 * xi).toNatClampNeg).toInt64)))) + 1).toNatClampNeg (o1_.2.2.2.2 ((2 * xi) + 1).toNatClampNeg).toInt64) 76) + 1)) (hF.symm.trans hlp31) (up_0 hi0 c3) ((rl_k hoy (rl_b hoy hR hle c3) (rl_g hoy (rl_b hoy hR hle c3))).1) (by rw [up_i c3, (rl_k hoy (rl_b hoy hR hle c3) (rl_g hoy (rl_b hoy hR hle c3))).2]; omega) (up_mu c3 hm31) _ _ _ hW (lv_sub hl [1, 0] rfl)
      have hF : f_X10_read_k1 pm mf o1_ = f_X10_read_lp31 o1_ ((o1_.2.2.2.1.toInt - (0 : Int32).toInt).toNat + 1) 0 mf := by
        rw [f_X10_read_k1, if_pos c1, if_pos c2]
      have hW := xW_perm (X' := [(aM, .inr (10, [.ref mA, .ref mB, .ref mC, .ref mD, .ref mE, .int pm, .int o1_.2.1, .int (bi o1_.2.2.1), .ref mF, .int o1_.2.2.2.1])), (mA, .inl (cJ, 93, .inr (.inl mf))), (mE, .inl (cI, 80, .inl mp)), (mF, .inl (cI, 60, .inl o1_.2.2.2.2))]) hW [1, 0, 2, 3] rfl (by decide)
      refine W.widen (k := 0) (n := 0) (Nat.le_of_ble_eq_true rfl) (Nat.le_of_ble_eq_true rfl) ?_
      exact hl31_ ((o1_.2.2.2.1.toInt - (0 : Int32).toInt).toNat + 1) 0 mf (hF.symm.trans hK1) (by decide) (hok) (rl_0 hok hR c2) (Nat.lt_succ_self _) _ _ _ hW (lv_sub hl [1, 0] rfl)
    · skip
      refine lv_bipush (v := -4) hx hb dX10_read_26 (by decide) ?_
      have hF : f_X10_read_k1 pm mf o1_ = (-4, pm, o1_.2.1, o1_.2.2.1, o1_.2.2.2.1, mf, o1_.2.2.2.2) := by
        rw [f_X10_read_k1, if_pos c1, if_neg c2]
      obtain rfl : (-4, pm, o1_.2.1, o1_.2.2.1, o1_.2.2.2.1, mf, o1_.2.2.2.2) = o := hF.symm.trans hK1
      have hW := xW_perm (X' := [(aM, .inr (10, [.ref mA, .ref mB, .ref mC, .ref mD, .ref mE, .int pm, .int o1_.2.1, .int (bi o1_.2.2.1), .ref mF, .int o1_.2.2.2.1])), (mA, .inl (cJ, 93, .inr (.inl mf))), (mE, .inl (cI, 80, .inl mp)), (mF, .inl (cI, 60, .inl o1_.2.2.2.2))]) hW [1, 0, 2, 3] rfl (by decide)
      exact W.iret (v := -4) hx hb hrt (fun t ht hM => ⟨⟨_, (), rfl, rfl, ⟨by rw [ht]; exact hW.1, hW.2.1⟩⟩, hW.2.2.F ht⟩) hW.2.2.2.2 dX10_read_28 hlocks
  · skip
    refine lv_bipush (v := -3) hx hb dX10_read_9 (by decide) ?_
    have hF : f_X10_read_k1 pm mf o1_ = (-3, pm, o1_.2.1, o1_.2.2.1, o1_.2.2.2.1, mf, o1_.2.2.2.2) := by
      rw [f_X10_read_k1, if_neg c1]
    obtain rfl : (-3, pm, o1_.2.1, o1_.2.2.1, o1_.2.2.2.1, mf, o1_.2.2.2.2) = o := hF.symm.trans hK1
    have hW := xW_perm (X' := [(aM, .inr (10, [.ref mA, .ref mB, .ref mC, .ref mD, .ref mE, .int pm, .int o1_.2.1, .int (bi o1_.2.2.1), .ref mF, .int o1_.2.2.2.1])), (mA, .inl (cJ, 93, .inr (.inl mf))), (mE, .inl (cI, 80, .inl mp)), (mF, .inl (cI, 60, .inl o1_.2.2.2.2))]) hW [1, 0, 2, 3] rfl (by decide)
    exact W.iret (v := -3) hx hb hrt (fun t ht hM => ⟨⟨_, (), rfl, rfl, ⟨by rw [ht]; exact hW.1, hW.2.1⟩⟩, hW.2.2.F ht⟩) hW.2.2.2.2 dX10_read_11 hlocks
