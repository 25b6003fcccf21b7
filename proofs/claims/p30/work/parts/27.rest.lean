theorem tl_f {pm sp rn : Int32} {iw : Bool} {mp mr : Nat → Int32} (h : 0 ≤ sp.toInt ∧ sp.toInt ≤ pm.toInt) : (0 ≤ (f_X10_takeLeg pm sp iw rn mp mr).1.toInt ∧ (f_X10_takeLeg pm sp iw rn mp mr).1.toInt ≤ pm.toInt) ∧ sp.toInt ≤ (f_X10_takeLeg pm sp iw rn mp mr).1.toInt ∧ ((f_X10_takeLeg pm sp iw rn mp mr).2.1 = false → sp.toInt + 3 ≤ (f_X10_takeLeg pm sp iw rn mp mr).1.toInt) ∧ (f_X10_takeLeg pm sp iw rn mp mr).2.2.1 = rn + 1 := by
  unfold f_X10_takeLeg
  have hT := tn_f (a0 := 1) (a1 := 600) (iw := iw) (mp := mp) h (by decide)
  generalize f_X10_takeNumber 1 600 pm sp iw mp = o1 at hT ⊢
  unfold f_X10_takeLeg_k1
  have hN := nd_f (a0 := 64) (iw := o1.2.2) (mp := mp) hT.1 (by decide)
  generalize f_X10_need 64 pm o1.2.1 o1.2.2 mp = o2 at hN ⊢
  unfold f_X10_takeLeg_k2
  have s0 := sp_0 hN.1
  split
  · have hU := tn_f (a0 := 0) (a1 := 50) (iw := o2.2) (mp := mp) s0.1 (by decide)
    rw [s0.2] at hU
    generalize f_X10_takeNumber 0 50 pm (o2.1 + 0) o2.2 mp = o3 at hU ⊢
    unfold f_X10_takeLeg_k3
    refine ⟨hU.1, by have := hT.2.1; have := hN.2.1; have := hU.2.1; show sp.toInt ≤ o3.2.1.toInt; omega, fun q => ?_, rfl⟩
    have q3 := hU.2.2 q
    have q2 := hN.2.2 q3.1
    have q1 := hT.2.2 q2.1
    show sp.toInt + 3 ≤ o3.2.1.toInt
    omega
  · split
    · rename_i c1
      have hl := nx_eq c1 (by decide)
      have hu := sp_up hN.1.1 hl
      have hU := tn_f (a0 := 0) (a1 := 40) (iw := o2.2) (mp := mp) (sp_ok hN.1 hl) (by decide)
      rw [hu] at hU
      generalize f_X10_takeNumber 0 40 pm (o2.1 + 1) o2.2 mp = o3 at hU ⊢
      unfold f_X10_takeLeg_k5
      refine ⟨hU.1, by have := hT.2.1; have := hN.2.1; have := hU.2.1; show sp.toInt ≤ o3.2.1.toInt; omega, fun q => ?_, rfl⟩
      have q3 := hU.2.2 q
      have q2 := hN.2.2 q3.1
      have q1 := hT.2.2 q2.1
      show sp.toInt + 3 ≤ o3.2.1.toInt
      omega
    · have hU := tn_f (a0 := 0) (a1 := 50) (iw := o2.2) (mp := mp) s0.1 (by decide)
      rw [s0.2] at hU
      generalize f_X10_takeNumber 0 50 pm (o2.1 + 0) o2.2 mp = o3 at hU ⊢
      unfold f_X10_takeLeg_k4
      refine ⟨hU.1, by have := hT.2.1; have := hN.2.1; have := hU.2.1; show sp.toInt ≤ o3.2.1.toInt; omega, fun q => ?_, rfl⟩
      have q3 := hU.2.2 q
      have q2 := hN.2.2 q3.1
      have q1 := hT.2.2 q2.1
      show sp.toInt + 3 ≤ o3.2.1.toInt
      omega
theorem sp_z {pm : Int32} (h : okC pm 80) : 0 ≤ (0 : Int32).toInt ∧ (0 : Int32).toInt ≤ pm.toInt := by
  rw [xI0]; exact ⟨Int.le_refl _, h.1⟩
/-- how far the reading of the pad has come -/
def okY (s r : Int32) (w : Bool) : Prop := (0 ≤ r.toInt ∧ r.toInt ≤ 21) ∧ (w = false → 4 * r.toInt ≤ s.toInt + 1)
theorem okY_0 {s r : Int32} {w : Bool} (h : w = false → (0 : Int32).toInt + 3 ≤ s.toInt) (e : r = 0 + 1) : okY s r w := by
  have e1 : (0 + 1 : Int32).toInt = 1 := by decide
  have e0 := xI0
  rw [e]
  exact ⟨by rw [e1]; omega, fun q => by have := h q; rw [e1]; omega⟩
theorem okY_r {pm s r : Int32} {w : Bool} (hp : okC pm 80) (h : okY s r w) (hw : ¬ w = true) (hl : s.toInt < pm.toInt) : 0 ≤ r.toInt ∧ r.toInt ≤ 20 := by
  have h1 := h.2 (Bool.eq_false_iff.mpr hw)
  have h2 := hp.2
  have h3 := h.1
  omega
theorem okY_29 {r : Int32} (h : 0 ≤ r.toInt ∧ r.toInt ≤ 20) : 0 ≤ r.toInt ∧ r.toInt ≤ 29 := by omega
theorem okY_s {pm s s2 r r2 : Int32} {w w2 : Bool} (hp : okC pm 80) (hs : 0 ≤ s.toInt) (h : okY s r w) (hw : ¬ w = true) (hl : s.toInt < pm.toInt) (h2 : w2 = false → (s + 1).toInt + 3 ≤ s2.toInt) (e : r2 = r + 1) : okY s2 r2 w2 := by
  have a := okY_r hp h hw hl
  have b := h.2 (Bool.eq_false_iff.mpr hw)
  have e1 := xI1
  have c : (r + 1).toInt = r.toInt + 1 := by rw [xaddI (by rw [e1]; omega) (by rw [e1]; omega), e1]
  rw [sp_up hs hl] at h2
  rw [e]
  exact ⟨by rw [c]; omega, fun q => by have := h2 q; rw [c]; omega⟩

theorem fl_mu {pm s s2 : Int32} {k : Nat} (h : 0 ≤ s.toInt ∧ s.toInt ≤ pm.toInt) (hl : s.toInt < pm.toInt) (h2 : (s + 1).toInt ≤ s2.toInt) (hm : (pm.toInt - s.toInt).toNat < k + 1) : (pm.toInt - s2.toInt).toNat < k := by
  rw [sp_up h.1 hl] at h2
  omega

def f_X10_fault_k2 (g9 : Int32 → Bool → Int32 → (Nat → Int32) → (Int32 × Int32 × Bool × Int32 × (Nat → Int32))) (o3_ : Int32 × Bool × Int32 × (Nat → Int32)) : Int32 × Int32 × Bool × Int32 × (Nat → Int32) :=
  g9 o3_.1 o3_.2.1 o3_.2.2.1 o3_.2.2.2
def f_X10_fault_lp19 (pm : Int32) (mp : Nat → Int32) : Nat → Int32 → Bool → Int32 → (Nat → Int32) → Int32 × Int32 × Bool × Int32 × (Nat → Int32)
  | 0, _, _, _, _ => (0, 0, false, 0, (fun _ => 0))
  | n + 1, ys, yw, yr, yg =>
    if yw = true then
      (ys, ys, yw, yr, yg)
    else
      if (f_X10_next pm ys mp) = 44 then
        f_X10_fault_k2 (f_X10_fault_lp19 pm mp n) (f_X10_takeLeg pm (ys + 1) yw yr mp yg)
      else
        if pm ≤ ys then
          (-6, ys, yw, yr, yg)
        else
          (ys, ys, yw, yr, yg)
def f_X10_fault_k1 (pm : Int32) (mp : Nat → Int32) (o1_ : Int32 × Bool × Int32 × (Nat → Int32)) : Int32 × Int32 × Bool × Int32 × (Nat → Int32) :=
  f_X10_fault_lp19 pm mp ((pm.toInt - o1_.1.toInt).toNat + 1) o1_.1 o1_.2.1 o1_.2.2.1 o1_.2.2.2
def f_X10_fault (pm : Int32) (mp : Nat → Int32) (mr : Nat → Int32) : Int32 × Int32 × Bool × Int32 × (Nat → Int32) :=
  f_X10_fault_k1 pm mp (f_X10_takeLeg pm 0 false 0 mp mr)
set_option maxHeartbeats 4000000 in
set_option maxRecDepth 100000 in
theorem c_X10_fault (l : Launch) (D : va_G) (cI cJ cZ cB : ClassId) (sz : Nat) (aM : Nat) (mE : Nat) (mF : Nat) (mA : Nat) (mB : Nat) (mC : Nat) (mD : Nat) (pm : Int32) (sp : Int32) (iw : Bool) (rn : Int32) (mp : Nat → Int32) (mr : Nat → Int32) (hpm : okC pm 80) (o : Int32 × Int32 × Bool × Int32 × (Nat → Int32)) (ho : f_X10_fault pm mp mr = o) : Met l yX10_fault wsX10_fault ({ frames := 3, cells := 0, slots := 0, locals := 71 } : Room) (xPre D (xT cI cJ cZ cB) [.ref aM] [(aM, .inr (10, [.ref mA, .ref mB, .ref mC, .ref mD, .ref mE, .int pm, .int sp, .int (bi iw), .ref mF, .int rn])), (mE, .inl (cI, 80, .inl mp)), (mF, .inl (cI, 60, .inl mr))] sz) (va_Qi (fun r (_ : Unit) => r = o.1) (fun _ t => xB D ([(aM, .inr (10, [.ref mA, .ref mB, .ref mC, .ref mD, .ref mE, .int pm, .int o.2.1, .int (bi o.2.2.1), .ref mF, .int o.2.2.2.1])), (mE, .inl (cI, 80, .inl mp)), (mF, .inl (cI, 60, .inl o.2.2.2.2))]) (va_A [(aM, .inr (10, [.ref mA, .ref mB, .ref mC, .ref mD, .ref mE, .int pm, .int sp, .int (bi iw), .ref mF, .int rn])), (mE, .inl (cI, 80, .inl mp)), (mF, .inl (cI, 60, .inl mr))] sz) t) (va_A [(aM, .inr (10, [.ref mA, .ref mB, .ref mC, .ref mD, .ref mE, .int pm, .int sp, .int (bi iw), .ref mF, .int rn])), (mE, .inl (cI, 80, .inl mp)), (mF, .inl (cI, 60, .inl mr))] sz)) 0 0 (va_A [(aM, .inr (10, [.ref mA, .ref mB, .ref mC, .ref mD, .ref mE, .int pm, .int sp, .int (bi iw), .ref mF, .int rn])), (mE, .inl (cI, 80, .inl mp)), (mF, .inl (cI, 60, .inl mr))] sz) := by
  refine xofW (Qc := fun A0 => va_Qi (fun r (_ : Unit) => r = o.1) (fun _ t => xB D ([(aM, .inr (10, [.ref mA, .ref mB, .ref mC, .ref mD, .ref mE, .int pm, .int o.2.1, .int (bi o.2.2.1), .ref mF, .int o.2.2.2.1])), (mE, .inl (cI, 80, .inl mp)), (mF, .inl (cI, 60, .inl o.2.2.2.2))]) A0 t) A0) (fr := fun A => A) (cc := cX10_fault) (maxL := 1) (ret := (some .int)) (by decide) rfl (Nat.le_of_ble_eq_true rfl) ?_
  intro p e s m below meth c A ⟨hx, hb, hml, hown, hts⟩ hrt hlocks hnm hsz hK hW hA hG ls hl
  have hown : s.vm.findClass RX10 = some m.cls := hown
  have hl : lv_has ls 1 [(0, .ref aM)] := hl
  obtain ⟨H, hH⟩ : ∃ H, H = s.heap := ⟨_, rfl⟩
  have hW : xW D A s.heap ([(aM, .inr (10, [.ref mA, .ref mB, .ref mC, .ref mD, .ref mE, .int pm, .int sp, .int (bi iw), .ref mF, .int rn])), (mE, .inl (cI, 80, .inl mp)), (mF, .inl (cI, 60, .inl mr))] ++ []) H [] := by rw [hH]; exact hW
  have w1 := hts (.fieldLink RX10 202 "DryIceLaneModel" "spot" "I") (by decide +kernel)
  have hin10 : ∀ w ∈ u_ws RX10 TX10 10, w ∈ wsX10_fault := by decide +kernel
  have w3 := hts (.fieldLink RX10 205 "DryIceLaneModel" "isWrong" "Z") (by decide +kernel)
  have w4 := hts (.fieldLink RX10 216 "DryIceLaneModel" "readMany" "I") (by decide +kernel)
  have w5 := hts (.fieldLink RX10 179 "DryIceLaneModel" "padMany" "I") (by decide +kernel)
  rw [← hH]
  refine lv_aload_n hx hb dX10_fault_0 rfl (lv_at hl 0 rfl) ?_
  refine lv_iconst (v := 0) hx hb dX10_fault_1 (by decide) ?_
  refine xput (ci := 10) (v := .int 0) (ty := .int) (C := RX10) (T := TX10) (N := 10) hx hb hts hin10 tyX10 tyX10_ok nmX10 hown hK hW 0 rfl (Nat.le_of_ble_eq_true rfl) rfl 6 (by decide) w1 rfl (by decide +kernel) rfl rfl (Nat.le_of_ble_eq_true rfl) dX10_fault_2 (fun H locs hW => ?_)
  have hW : xW D A s.heap ([(aM, .inr (10, [.ref mA, .ref mB, .ref mC, .ref mD, .ref mE, .int pm, .int 0, .int (bi iw), .ref mF, .int rn])), (mE, .inl (cI, 80, .inl mp)), (mF, .inl (cI, 60, .inl mr))] ++ []) H _ := hW
  refine lv_aload_n hx hb dX10_fault_5 rfl (lv_at hl 0 rfl) ?_
  refine lv_iconst (v := 0) hx hb dX10_fault_6 (by decide) ?_
  refine xput (ci := 10) (v := .int 0) (ty := .boolean) (C := RX10) (T := TX10) (N := 10) hx hb hts hin10 tyX10 tyX10_ok nmX10 hown hK hW 0 rfl (Nat.le_of_ble_eq_true rfl) rfl 7 (by decide) w3 rfl (by decide +kernel) rfl rfl (Nat.le_of_ble_eq_true rfl) dX10_fault_7 (fun H locs hW => ?_)
  have hW : xW D A s.heap ([(aM, .inr (10, [.ref mA, .ref mB, .ref mC, .ref mD, .ref mE, .int pm, .int 0, .int (bi false), .ref mF, .int rn])), (mE, .inl (cI, 80, .inl mp)), (mF, .inl (cI, 60, .inl mr))] ++ []) H _ := hW
  refine lv_aload_n hx hb dX10_fault_10 rfl (lv_at hl 0 rfl) ?_
  refine lv_iconst (v := 0) hx hb dX10_fault_11 (by decide) ?_
  refine xput (ci := 10) (v := .int 0) (ty := .int) (C := RX10) (T := TX10) (N := 10) hx hb hts hin10 tyX10 tyX10_ok nmX10 hown hK hW 0 rfl (Nat.le_of_ble_eq_true rfl) rfl 9 (by decide) w4 rfl (by decide +kernel) rfl rfl (Nat.le_of_ble_eq_true rfl) dX10_fault_12 (fun H locs hW => ?_)
  have hW : xW D A s.heap ([(aM, .inr (10, [.ref mA, .ref mB, .ref mC, .ref mD, .ref mE, .int pm, .int 0, .int (bi false), .ref mF, .int 0])), (mE, .inl (cI, 80, .inl mp)), (mF, .inl (cI, 60, .inl mr))] ++ []) H _ := hW
  refine lv_aload_n hx hb dX10_fault_15 rfl (lv_at hl 0 rfl) ?_
  obtain ⟨o1_, eo1_⟩ : ∃ z9, f_X10_takeLeg pm 0 false 0 mp mr = z9 := ⟨_, rfl⟩
  refine xQv (wr := []) hW hA [0, 1, 2] [] rfl rfl (by decide) (by decide) (by decide) (xrunV (As := []) (rest := []) ⟨hx, hb, hml, hown, hts⟩ (c_X10_takeLeg l D cI cJ cZ cB H.size aM mE mF mA mB mC mD pm 0 false 0 mp mr (by assumption) (sp_z hpm) (⟨by decide, by decide⟩) o1_ eo1_) (cwV 0 hts gX10_fault_X10_takeLeg rfl rfl rfl (by decide +kernel) ⟨Nat.le_of_ble_eq_true rfl, Nat.le_of_ble_eq_true rfl⟩) hK hG hW.2.2 (xsubQ hW hA [0, 1, 2] rfl (by decide)) (va_recv hK hW.1 (ci := 10) (q0 := 0) rfl rfl) rfl hl.1 rfl (Nat.le_of_ble_eq_true rfl) dX10_fault_16 ⟨Nat.le_of_ble_eq_true rfl, Nat.le_of_ble_eq_true rfl⟩) (fun _ H locs _ hW => ?_)
  have hW : xW D A s.heap ([(aM, .inr (10, [.ref mA, .ref mB, .ref mC, .ref mD, .ref mE, .int pm, .int o1_.1, .int (bi o1_.2.1), .ref mF, .int o1_.2.2.1])), (mE, .inl (cI, 80, .inl mp)), (mF, .inl (cI, 60, .inl o1_.2.2.2))] ++ []) H _ := hW
  have hF : f_X10_fault pm mp mr = f_X10_fault_k1 pm mp o1_ := by
    rw [f_X10_fault, eo1_]
  have hK1 := hF.symm.trans ho
  have hL := tl_f (iw := false) (rn := 0) (mp := mp) (mr := mr) (sp_z hpm)
  rw [eo1_] at hL
  have hl19_ : ∀ (n : Nat) (ys : Int32) (yw : Bool) (yr : Int32) (yg : Nat → Int32), f_X10_fault_lp19 pm mp n ys yw yr yg = o → (0 ≤ ys.toInt ∧ ys.toInt ≤ pm.toInt) → (okY ys yr yw) → (pm.toInt - ys.toInt).toNat < n → ∀ (H : Heap) (locs : List Loc) (ls : Array Slot), xW D A s.heap ([(aM, .inr (10, [.ref mA, .ref mB, .ref mC, .ref mD, .ref mE, .int pm, .int ys, .int (bi yw), .ref mF, .int yr])), (mE, .inl (cI, 80, .inl mp)), (mF, .inl (cI, 60, .inl yg))] ++ []) H locs → lv_has ls 1 [(0, .ref aM)] → W p l e ({ frames := 3, cells := 0, slots := 0, locals := 71 } : Room) s m [.ref aM].toArray below meth c H locs 0 0 (MQ below (va_Qi (fun r (_ : Unit) => r = o.1) (fun _ t => xB D ([(aM, .inr (10, [.ref mA, .ref mB, .ref mC, .ref mD, .ref mE, .int pm, .int o.2.1, .int (bi o.2.2.1), .ref mF, .int o.2.2.2.1])), (mE, .inl (cI, 80, .inl mp)), (mF, .inl (cI, 60, .inl o.2.2.2.2))]) A t) A) [.ref aM].toArray s 0 0 A) (F0 m 19 ls []) := by
    intro n
    induction n with
    | zero =>
      intro ys yw yr yg _ _ _ hm
      exact absurd hm (Nat.not_lt_zero _)
    | succ n ih19 =>
      intro ys yw yr yg hlp19 hys hyr hm19 H locs ls hW hl
      refine lv_aload_n hx hb dX10_fault_19 rfl (lv_at hl 0 rfl) ?_
      refine xget (ci := 10) (C := RX10) (T := TX10) (N := 10) hx hb hts hin10 hown hK hW.1 0 rfl rfl 7 (by decide) w3 rfl dX10_fault_20 ?_
      refine xb_ne (tgt := 52) hx hb dX10_fault_23 (by decide) (fun c1 => ?_) (fun c1 => ?_)
      · skip
        refine lv_aload_n hx hb dX10_fault_52 rfl (lv_at hl 0 rfl) ?_
        refine xget (ci := 10) (C := RX10) (T := TX10) (N := 10) hx hb hts hin10 hown hK hW.1 0 rfl rfl 7 (by decide) w3 rfl dX10_fault_53 ?_
        refine xb_ne (tgt := 70) hx hb dX10_fault_56 (by decide) (fun c2 => ?_) (fun c2 => ?_)
        · skip
          refine lv_aload_n hx hb dX10_fault_70 rfl (lv_at hl 0 rfl) ?_
          refine xget (ci := 10) (C := RX10) (T := TX10) (N := 10) hx hb hts hin10 hown hK hW.1 0 rfl rfl 6 (by decide) w1 rfl dX10_fault_71 ?_
          refine lv_goto (tgt := 79) hx hb dX10_fault_74 (by decide) ?_
          have hF : f_X10_fault_lp19 pm mp (n + 1) ys yw yr yg = (ys, ys, yw, yr, yg) := by
            rw [f_X10_fault_lp19, if_pos c1]
          obtain rfl : (ys, ys, yw, yr, yg) = o := hF.symm.trans hlp19
          exact W.iret (v := ys) hx hb hrt (fun t ht hM => ⟨⟨_, (), rfl, rfl, ⟨by rw [ht]; exact hW.1, hW.2.1⟩⟩, hW.2.2.F ht⟩) hW.2.2.2.2 dX10_fault_79 hlocks
        · exact absurd c1 c2
      · skip
        refine lv_aload_n hx hb dX10_fault_26 rfl (lv_at hl 0 rfl) ?_
        refine vp_callSi (va_Run.run (xrunV (As := []) (rest := []) ⟨hx, hb, hml, hown, hts⟩ (c_X10_next l D cI cJ cZ cB H.size aM mE mA mB mC mD pm ys yw mF yr mp (by assumption) (hys) _ rfl) (cwV 0 hts gX10_fault_X10_next rfl rfl rfl (by decide +kernel) ⟨Nat.le_of_ble_eq_true rfl, Nat.le_of_ble_eq_true rfl⟩) hK hG hW.2.2 (xsubQ hW hA [0, 1] rfl (by decide)) (va_recv hK hW.1 (ci := 10) (q0 := 0) rfl rfl) rfl hl.1 rfl (Nat.le_of_ble_eq_true rfl) dX10_fault_27 ⟨Nat.le_of_ble_eq_true rfl, Nat.le_of_ble_eq_true rfl⟩)) (fun r2 hq => ?_)
        subst hq
        refine lv_bipush (v := 44) hx hb dX10_fault_30 (by decide) ?_
        refine lv_icmp_ne (tgt := 52) hx hb dX10_fault_32 (by decide) (fun c2 => ?_) (fun c2 => ?_)
        · skip
          refine lv_aload_n hx hb dX10_fault_52 rfl (lv_at hl 0 rfl) ?_
          refine xget (ci := 10) (C := RX10) (T := TX10) (N := 10) hx hb hts hin10 hown hK hW.1 0 rfl rfl 7 (by decide) w3 rfl dX10_fault_53 ?_
          refine xb_ne (tgt := 70) hx hb dX10_fault_56 (by decide) (fun c3 => ?_) (fun c3 => ?_)
          · exact absurd c3 c1
          · skip
            refine lv_aload_n hx hb dX10_fault_59 rfl (lv_at hl 0 rfl) ?_
            refine xget (ci := 10) (C := RX10) (T := TX10) (N := 10) hx hb hts hin10 hown hK hW.1 0 rfl rfl 6 (by decide) w1 rfl dX10_fault_60 ?_
            refine lv_aload_n hx hb dX10_fault_63 rfl (lv_at hl 0 rfl) ?_
            refine xget (ci := 10) (C := RX10) (T := TX10) (N := 10) hx hb hts hin10 hown hK hW.1 0 rfl rfl 5 (by decide) w5 rfl dX10_fault_64 ?_
            refine lv_icmp_ge (tgt := 77) hx hb dX10_fault_67 (by decide) (fun c4 => ?_) (fun c4 => ?_)
            · skip
              refine lv_bipush (v := -6) hx hb dX10_fault_77 (by decide) ?_
              have hF : f_X10_fault_lp19 pm mp (n + 1) ys yw yr yg = (-6, ys, yw, yr, yg) := by
                rw [f_X10_fault_lp19, if_neg c1, if_neg c2, if_pos c4]
              obtain rfl : (-6, ys, yw, yr, yg) = o := hF.symm.trans hlp19
              exact W.iret (v := -6) hx hb hrt (fun t ht hM => ⟨⟨_, (), rfl, rfl, ⟨by rw [ht]; exact hW.1, hW.2.1⟩⟩, hW.2.2.F ht⟩) hW.2.2.2.2 dX10_fault_79 hlocks
            · skip
              refine lv_aload_n hx hb dX10_fault_70 rfl (lv_at hl 0 rfl) ?_
              refine xget (ci := 10) (C := RX10) (T := TX10) (N := 10) hx hb hts hin10 hown hK hW.1 0 rfl rfl 6 (by decide) w1 rfl dX10_fault_71 ?_
              refine lv_goto (tgt := 79) hx hb dX10_fault_74 (by decide) ?_
              have hF : f_X10_fault_lp19 pm mp (n + 1) ys yw yr yg = (ys, ys, yw, yr, yg) := by
                rw [f_X10_fault_lp19, if_neg c1, if_neg c2, if_neg c4]
              obtain rfl : (ys, ys, yw, yr, yg) = o := hF.symm.trans hlp19
              exact W.iret (v := ys) hx hb hrt (fun t ht hM => ⟨⟨_, (), rfl, rfl, ⟨by rw [ht]; exact hW.1, hW.2.1⟩⟩, hW.2.2.F ht⟩) hW.2.2.2.2 dX10_fault_79 hlocks
        · skip
          refine lv_aload_n hx hb dX10_fault_35 rfl (lv_at hl 0 rfl) ?_
          refine lv_dup hx hb dX10_fault_36 rfl ?_
          refine xget (ci := 10) (C := RX10) (T := TX10) (N := 10) hx hb hts hin10 hown hK hW.1 0 rfl rfl 6 (by decide) w1 rfl dX10_fault_37 ?_
          refine lv_iconst (v := 1) hx hb dX10_fault_40 (by decide) ?_
          refine lv_iadd hx hb dX10_fault_41 ?_
          refine xput (ci := 10) (v := .int (ys + 1)) (ty := .int) (C := RX10) (T := TX10) (N := 10) hx hb hts hin10 tyX10 tyX10_ok nmX10 hown hK hW 0 rfl (Nat.le_of_ble_eq_true rfl) rfl 6 (by decide) w1 rfl (by decide +kernel) rfl rfl (Nat.le_of_ble_eq_true rfl) dX10_fault_42 (fun H locs hW => ?_)
          have hW : xW D A s.heap ([(aM, .inr (10, [.ref mA, .ref mB, .ref mC, .ref mD, .ref mE, .int pm, .int (ys + 1), .int (bi yw), .ref mF, .int yr])), (mE, .inl (cI, 80, .inl mp)), (mF, .inl (cI, 60, .inl yg))] ++ []) H _ := hW
          refine lv_aload_n hx hb dX10_fault_45 rfl (lv_at hl 0 rfl) ?_
          obtain ⟨o3_, eo3_⟩ : ∃ z9, f_X10_takeLeg pm (ys + 1) yw yr mp yg = z9 := ⟨_, rfl⟩
          refine xQv (wr := []) hW hA [0, 1, 2] [] rfl rfl (by decide) (by decide) (by decide) (xrunV (As := []) (rest := []) ⟨hx, hb, hml, hown, hts⟩ (c_X10_takeLeg l D cI cJ cZ cB H.size aM mE mF mA mB mC mD pm (ys + 1) yw yr mp yg (by assumption) (sp_ok hys (nx_eq c2 (by decide))) (okY_29 (okY_r hpm hyr c1 (nx_eq c2 (by decide)))) o3_ eo3_) (cwV 0 hts gX10_fault_X10_takeLeg rfl rfl rfl (by decide +kernel) ⟨Nat.le_of_ble_eq_true rfl, Nat.le_of_ble_eq_true rfl⟩) hK hG hW.2.2 (xsubQ hW hA [0, 1, 2] rfl (by decide)) (va_recv hK hW.1 (ci := 10) (q0 := 0) rfl rfl) rfl hl.1 rfl (Nat.le_of_ble_eq_true rfl) dX10_fault_46 ⟨Nat.le_of_ble_eq_true rfl, Nat.le_of_ble_eq_true rfl⟩) (fun _ H locs _ hW => ?_)
          have hW : xW D A s.heap ([(aM, .inr (10, [.ref mA, .ref mB, .ref mC, .ref mD, .ref mE, .int pm, .int o3_.1, .int (bi o3_.2.1), .ref mF, .int o3_.2.2.1])), (mE, .inl (cI, 80, .inl mp)), (mF, .inl (cI, 60, .inl o3_.2.2.2))] ++ []) H _ := hW
          have hF : f_X10_fault_lp19 pm mp (n + 1) ys yw yr yg = f_X10_fault_k2 (f_X10_fault_lp19 pm mp n) o3_ := by
            rw [f_X10_fault_lp19, if_neg c1, if_pos c2, eo3_]
          have hK2 := hF.symm.trans hlp19
          have hM := tl_f (iw := yw) (rn := yr) (mp := mp) (mr := yg) (sp_ok hys (nx_eq c2 (by decide)))
          rw [eo3_] at hM
          refine lv_goto (tgt := 19) hx hb dX10_fault_49 (by decide) ?_
          have hF : f_X10_fault_k2 (f_X10_fault_lp19 pm mp n) o3_ = f_X10_fault_lp19 pm mp n o3_.1 o3_.2.1 o3_.2.2.1 o3_.2.2.2 := by
            rw [f_X10_fault_k2]
          refine W.widen (k := 0) (n := 0) (Nat.le_of_ble_eq_true rfl) (Nat.le_of_ble_eq_true rfl) ?_
          exact ih19 o3_.1 o3_.2.1 o3_.2.2.1 o3_.2.2.2 (hF.symm.trans hK2) (hM.1) (okY_s hpm hys.1 hyr c1 (nx_eq c2 (by decide)) hM.2.2.1 hM.2.2.2) (fl_mu hys (nx_eq c2 (by decide)) hM.2.1 hm19) _ _ _ hW (lv_sub hl [0] rfl)
  have hF : f_X10_fault_k1 pm mp o1_ = f_X10_fault_lp19 pm mp ((pm.toInt - o1_.1.toInt).toNat + 1) o1_.1 o1_.2.1 o1_.2.2.1 o1_.2.2.2 := by
    rw [f_X10_fault_k1]
  refine W.widen (k := 0) (n := 0) (Nat.le_of_ble_eq_true rfl) (Nat.le_of_ble_eq_true rfl) ?_
  exact hl19_ ((pm.toInt - o1_.1.toInt).toNat + 1) o1_.1 o1_.2.1 o1_.2.2.1 o1_.2.2.2 (hF.symm.trans hK1) (hL.1) (okY_0 hL.2.2.1 hL.2.2.2) (Nat.lt_succ_self _) _ _ _ hW (lv_sub hl [0] rfl)

theorem sl_i {s x : Int32} (hs : 0 ≤ s.toInt ∧ s.toInt < 2) (hx : 0 ≤ x.toInt ∧ x.toInt < 93) : (93 * s + x).toInt = 93 * s.toInt + x.toInt := by
  have e2 : (93 : Int32).toInt = 93 := by decide
  have h1 : (93 * s).toInt = 93 * s.toInt := by rw [xmulI (by rw [e2]; omega) (by rw [e2]; omega), e2]
  rw [xaddI (by rw [h1]; omega) (by rw [h1]; omega), h1]
theorem sl_in {s x : Int32} (hs : 0 ≤ s.toInt ∧ s.toInt < 2) (hx : 0 ≤ x.toInt ∧ x.toInt < 93) : vp_in (93 * s + x) 186 := vp_in_iff.mpr (by rw [sl_i hs hx]; omega)
theorem slot_in {x : Int32} (h : f_X10_in x.toInt64 0 1 = true) : 0 ≤ x.toInt ∧ x.toInt < 2 := by
  obtain ⟨h1, h2⟩ := in_iff.mp h
  rw [tL] at h1 h2
  have e0 : (0 : Int64).toInt = 0 := by decide
  have e3 : (1 : Int64).toInt = 1 := by decide
  omega
theorem x93 {x : Int32} (h0 : 0 ≤ x.toInt) (c : ¬ 93 ≤ x) : 0 ≤ x.toInt ∧ x.toInt < 93 := by
  have h := xnle.mp c
  have e : (93 : Int32).toInt = 93 := by decide
  omega

def f_X10_save_lp15 (a0 : Int32) (mf : Nat → Int64) (mz : Nat → Int32) : Nat → Int32 → (Nat → Int64) → Int32 × (Nat → Int64) × (Nat → Int32)
  | 0, _, _ => (0, (fun _ => 0), (fun _ => 0))
  | n + 1, xi, yg =>
    if 93 ≤ xi then
      ((mf 77).toInt32, yg, upd mz a0.toNatClampNeg 1)
    else
      f_X10_save_lp15 a0 mf mz n (xi + 1) (vp_updL yg ((93 * a0) + xi).toNatClampNeg (mf xi.toNatClampNeg))
def f_X10_save (a0 : Int32) (mf : Nat → Int64) (ms_ : Nat → Int64) (mz : Nat → Int32) : Int32 × (Nat → Int64) × (Nat → Int32) :=
  if (f_X10_in a0.toInt64 0 1) = true then
    f_X10_save_lp15 a0 mf mz (((93 : Int32).toInt - (0 : Int32).toInt).toNat + 1) 0 ms_
  else
    (-2, ms_, mz)
set_option maxHeartbeats 4000000 in
set_option maxRecDepth 100000 in
theorem c_X10_save (l : Launch) (D : va_G) (cI cJ cZ cB : ClassId) (sz : Nat) (aM : Nat) (mA : Nat) (mC : Nat) (mD : Nat) (a0 : Int32) (mB : Nat) (mE : Nat) (pm : Int32) (sp : Int32) (iw : Bool) (mF : Nat) (rn : Int32) (mf : Nat → Int64) (ms_ : Nat → Int64) (mz : Nat → Int32) (o : Int32 × (Nat → Int64) × (Nat → Int32)) (ho : f_X10_save a0 mf ms_ mz = o) : Met l yX10_save wsX10_save ({ frames := 1, cells := 0, slots := 0, locals := 25 } : Room) (xPre D (xT cI cJ cZ cB) [.ref aM, .int a0] [(aM, .inr (10, [.ref mA, .ref mB, .ref mC, .ref mD, .ref mE, .int pm, .int sp, .int (bi iw), .ref mF, .int rn])), (mA, .inl (cJ, 93, .inr (.inl mf))), (mC, .inl (cJ, 186, .inr (.inl ms_))), (mD, .inl (cZ, 2, .inl mz))] sz) (va_Qi (fun r (_ : Unit) => r = o.1) (fun _ t => xB D ([(aM, .inr (10, [.ref mA, .ref mB, .ref mC, .ref mD, .ref mE, .int pm, .int sp, .int (bi iw), .ref mF, .int rn])), (mA, .inl (cJ, 93, .inr (.inl mf))), (mC, .inl (cJ, 186, .inr (.inl o.2.1))), (mD, .inl (cZ, 2, .inl o.2.2))]) (va_A [(aM, .inr (10, [.ref mA, .ref mB, .ref mC, .ref mD, .ref mE, .int pm, .int sp, .int (bi iw), .ref mF, .int rn])), (mA, .inl (cJ, 93, .inr (.inl mf))), (mC, .inl (cJ, 186, .inr (.inl ms_))), (mD, .inl (cZ, 2, .inl mz))] sz) t) (va_A [(aM, .inr (10, [.ref mA, .ref mB, .ref mC, .ref mD, .ref mE, .int pm, .int sp, .int (bi iw), .ref mF, .int rn])), (mA, .inl (cJ, 93, .inr (.inl mf))), (mC, .inl (cJ, 186, .inr (.inl ms_))), (mD, .inl (cZ, 2, .inl mz))] sz)) 0 0 (va_A [(aM, .inr (10, [.ref mA, .ref mB, .ref mC, .ref mD, .ref mE, .int pm, .int sp, .int (bi iw), .ref mF, .int rn])), (mA, .inl (cJ, 93, .inr (.inl mf))), (mC, .inl (cJ, 186, .inr (.inl ms_))), (mD, .inl (cZ, 2, .inl mz))] sz) := by
  refine xofW (Qc := fun A0 => va_Qi (fun r (_ : Unit) => r = o.1) (fun _ t => xB D ([(aM, .inr (10, [.ref mA, .ref mB, .ref mC, .ref mD, .ref mE, .int pm, .int sp, .int (bi iw), .ref mF, .int rn])), (mA, .inl (cJ, 93, .inr (.inl mf))), (mC, .inl (cJ, 186, .inr (.inl o.2.1))), (mD, .inl (cZ, 2, .inl o.2.2))]) A0 t) A0) (fr := fun A => A) (cc := cX10_save) (maxL := 3) (ret := (some .int)) (by decide) rfl (Nat.le_of_ble_eq_true rfl) ?_
  intro p e s m below meth c A ⟨hx, hb, hml, hown, hts⟩ hrt hlocks hnm hsz hK hW hA hG ls hl
  have hown : s.vm.findClass RX10 = some m.cls := hown
  have hl : lv_has ls 3 [(0, .ref aM), (1, .int a0)] := hl
  obtain ⟨H, hH⟩ : ∃ H, H = s.heap := ⟨_, rfl⟩
  have hW : xW D A s.heap ([(aM, .inr (10, [.ref mA, .ref mB, .ref mC, .ref mD, .ref mE, .int pm, .int sp, .int (bi iw), .ref mF, .int rn])), (mA, .inl (cJ, 93, .inr (.inl mf))), (mC, .inl (cJ, 186, .inr (.inl ms_))), (mD, .inl (cZ, 2, .inl mz))] ++ []) H [] := by rw [hH]; exact hW
  have w1 := hts (.fieldLink RX10 19 "DryIceLaneModel" "isSaved" "[Z") (by decide +kernel)
  have hin10 : ∀ w ∈ u_ws RX10 TX10 10, w ∈ wsX10_save := by decide +kernel
  have w3 := hts (.fieldLink RX10 7 "DryIceLaneModel" "at" "[J") (by decide +kernel)
  have w4 := hts (.fieldLink RX10 16 "DryIceLaneModel" "slots" "[J") (by decide +kernel)
  rw [← hH]
  refine lv_iload_n hx hb dX10_save_0 rfl (lv_at hl 1 rfl) ?_
  refine lv_i2l hx hb dX10_save_1 rfl ?_
  refine lv_lconst (v := 0) hx hb dX10_save_2 (by decide) ?_
  refine lv_lconst (v := 1) hx hb dX10_save_3 (by decide) ?_
  refine vp_callSi (va_Run.run (xrunS (As := [.long a0.toInt64, .long 0, .long 1]) (rest := []) ⟨hx, hb, hml, hown, hts⟩ (c_X10_in l D cI cJ cZ cB H.size a0.toInt64 0 1 _ rfl) (cwS 3 hts gX10_save_X10_in rfl rfl rfl (by decide +kernel) ⟨Nat.le_of_ble_eq_true rfl, Nat.le_of_ble_eq_true rfl⟩) hK hG hW.2.2 (xsubQ hW hA [] rfl (by decide)) rfl hl.1 rfl (Nat.le_of_ble_eq_true rfl) dX10_save_4 ⟨Nat.le_of_ble_eq_true rfl, Nat.le_of_ble_eq_true rfl⟩)) (fun r1 hq => ?_)
  subst hq
  refine xb_ne (tgt := 13) hx hb dX10_save_7 (by decide) (fun c1 => ?_) (fun c1 => ?_)
  · skip
    refine lv_iconst (v := 0) hx hb dX10_save_13 (by decide) ?_
    refine lv_istore_n (lv' := [(2, .int 0), (0, .ref aM), (1, .int a0)]) hx hb dX10_save_14 rfl hl (by decide) rfl (fun ls hl => ?_)
    have hl15_ : ∀ (n : Nat) (xi : Int32) (yg : Nat → Int64), f_X10_save_lp15 a0 mf mz n xi yg = o → (0 ≤ xi.toInt) → ((93 : Int32).toInt - xi.toInt).toNat < n → ∀ (H : Heap) (locs : List Loc) (ls : Array Slot), xW D A s.heap ([(aM, .inr (10, [.ref mA, .ref mB, .ref mC, .ref mD, .ref mE, .int pm, .int sp, .int (bi iw), .ref mF, .int rn])), (mA, .inl (cJ, 93, .inr (.inl mf))), (mC, .inl (cJ, 186, .inr (.inl yg))), (mD, .inl (cZ, 2, .inl mz))] ++ []) H locs → lv_has ls 3 [(0, .ref aM), (1, .int a0), (2, .int xi)] → W p l e ({ frames := 1, cells := 0, slots := 0, locals := 25 } : Room) s m [.ref aM, .int a0].toArray below meth c H locs 0 0 (MQ below (va_Qi (fun r (_ : Unit) => r = o.1) (fun _ t => xB D ([(aM, .inr (10, [.ref mA, .ref mB, .ref mC, .ref mD, .ref mE, .int pm, .int sp, .int (bi iw), .ref mF, .int rn])), (mA, .inl (cJ, 93, .inr (.inl mf))), (mC, .inl (cJ, 186, .inr (.inl o.2.1))), (mD, .inl (cZ, 2, .inl o.2.2))]) A t) A) [.ref aM, .int a0].toArray s 0 0 A) (F0 m 15 ls []) := by
      intro n
      induction n with
      | zero =>
        intro xi yg _ _ hm
        exact absurd hm (Nat.not_lt_zero _)
      | succ n ih15 =>
        intro xi yg hlp15 hi0 hm15 H locs ls hW hl
        refine lv_iload_n hx hb dX10_save_15 rfl (lv_at hl 2 rfl) ?_
        refine lv_bipush (v := 93) hx hb dX10_save_16 (by decide) ?_
        refine lv_icmp_ge (tgt := 44) hx hb dX10_save_18 (by decide) (fun c2 => ?_) (fun c2 => ?_)
        · skip
          refine lv_aload_n hx hb dX10_save_44 rfl (lv_at hl 0 rfl) ?_
          refine xget (ci := 10) (C := RX10) (T := TX10) (N := 10) hx hb hts hin10 hown hK hW.1 0 rfl rfl 3 (by decide) w1 rfl dX10_save_45 ?_
          refine lv_iload_n hx hb dX10_save_48 rfl (lv_at hl 1 rfl) ?_
          refine lv_iconst (v := 1) hx hb dX10_save_49 (by decide) ?_
          refine xzast hx hb hK hW 3 2 rfl (Nat.le_of_ble_eq_true rfl) rfl rfl (vp_in_iff.mpr (slot_in c1)) a0.toNatClampNeg rfl dX10_save_50 (fun H locs hW => ?_)
          have hW : xW D A s.heap ([(aM, .inr (10, [.ref mA, .ref mB, .ref mC, .ref mD, .ref mE, .int pm, .int sp, .int (bi iw), .ref mF, .int rn])), (mA, .inl (cJ, 93, .inr (.inl mf))), (mC, .inl (cJ, 186, .inr (.inl yg))), (mD, .inl (cZ, 2, .inl (upd mz a0.toNatClampNeg 1)))] ++ []) H _ := hW
          refine lv_aload_n hx hb dX10_save_51 rfl (lv_at hl 0 rfl) ?_
          refine xget (ci := 10) (C := RX10) (T := TX10) (N := 10) hx hb hts hin10 hown hK hW.1 0 rfl rfl 0 (by decide) w3 rfl dX10_save_52 ?_
          refine lv_bipush (v := 77) hx hb dX10_save_55 (by decide) ?_
          refine xlald hx hb hK hW.1 1 1 rfl rfl (vp_in_iff.mpr ⟨by decide, by decide⟩) 77 rfl (v := mf 77) rfl dX10_save_57 ?_
          refine lv_l2i hx hb dX10_save_58 rfl ?_
          have hF : f_X10_save_lp15 a0 mf mz (n + 1) xi yg = ((mf 77).toInt32, yg, upd mz a0.toNatClampNeg 1) := by
            rw [f_X10_save_lp15, if_pos c2]
          obtain rfl : ((mf 77).toInt32, yg, upd mz a0.toNatClampNeg 1) = o := hF.symm.trans hlp15
          exact W.iret (v := (mf 77).toInt32) hx hb hrt (fun t ht hM => ⟨⟨_, (), rfl, rfl, ⟨by rw [ht]; exact hW.1, hW.2.1⟩⟩, hW.2.2.F ht⟩) hW.2.2.2.2 dX10_save_59 hlocks
        · skip
          refine lv_aload_n hx hb dX10_save_21 rfl (lv_at hl 0 rfl) ?_
          refine xget (ci := 10) (C := RX10) (T := TX10) (N := 10) hx hb hts hin10 hown hK hW.1 0 rfl rfl 2 (by decide) w4 rfl dX10_save_22 ?_
          refine lv_bipush (v := 93) hx hb dX10_save_25 (by decide) ?_
          refine lv_iload_n hx hb dX10_save_27 rfl (lv_at hl 1 rfl) ?_
          refine lv_imul hx hb dX10_save_28 ?_
          refine lv_iload_n hx hb dX10_save_29 rfl (lv_at hl 2 rfl) ?_
          refine lv_iadd hx hb dX10_save_30 ?_
          refine lv_aload_n hx hb dX10_save_31 rfl (lv_at hl 0 rfl) ?_
          refine xget (ci := 10) (C := RX10) (T := TX10) (N := 10) hx hb hts hin10 hown hK hW.1 0 rfl rfl 0 (by decide) w3 rfl dX10_save_32 ?_
          refine lv_iload_n hx hb dX10_save_35 rfl (lv_at hl 2 rfl) ?_
          refine xlald hx hb hK hW.1 1 1 rfl rfl (in_lt hi0 c2 (by decide)) xi.toNatClampNeg rfl (v := mf xi.toNatClampNeg) rfl dX10_save_36 ?_
          refine xlast hx hb hK hW 2 1 rfl (Nat.le_of_ble_eq_true rfl) rfl (sl_in (slot_in c1) (x93 hi0 c2)) ((93 * a0) + xi).toNatClampNeg rfl dX10_save_37 (fun H locs hW => ?_)
          have hW : xW D A s.heap ([(aM, .inr (10, [.ref mA, .ref mB, .ref mC, .ref mD, .ref mE, .int pm, .int sp, .int (bi iw), .ref mF, .int rn])), (mA, .inl (cJ, 93, .inr (.inl mf))), (mC, .inl (cJ, 186, .inr (.inl (vp_updL yg ((93 * a0) + xi).toNatClampNeg (mf xi.toNatClampNeg))))), (mD, .inl (cZ, 2, .inl mz))] ++ []) H _ := hW
          refine lv_iinc (v := xi + 1) (lv' := [(2, .int (xi + 1)), (0, .ref aM), (1, .int a0)]) hx hb dX10_save_38 hl (k := 2) rfl rfl (by decide) rfl (fun ls hl => ?_)
          refine lv_goto (tgt := 15) hx hb dX10_save_41 (by decide) ?_
          have hF : f_X10_save_lp15 a0 mf mz (n + 1) xi yg = f_X10_save_lp15 a0 mf mz n (xi + 1) (vp_updL yg ((93 * a0) + xi).toNatClampNeg (mf xi.toNatClampNeg)) := by
            rw [f_X10_save_lp15, if_neg c2]
          refine W.widen (k := 0) (n := 0) (Nat.le_of_ble_eq_true rfl) (Nat.le_of_ble_eq_true rfl) ?_
          exact ih15 (xi + 1) (vp_updL yg ((93 * a0) + xi).toNatClampNeg (mf xi.toNatClampNeg)) (hF.symm.trans hlp15) (up_0 hi0 c2) (up_mu c2 hm15) _ _ _ hW (lv_sub hl [1, 2, 0] rfl)
    have hF : f_X10_save a0 mf ms_ mz = f_X10_save_lp15 a0 mf mz (((93 : Int32).toInt - (0 : Int32).toInt).toNat + 1) 0 ms_ := by
      rw [f_X10_save, if_pos c1]
    refine W.widen (k := 0) (n := 0) (Nat.le_of_ble_eq_true rfl) (Nat.le_of_ble_eq_true rfl) ?_
    exact hl15_ (((93 : Int32).toInt - (0 : Int32).toInt).toNat + 1) 0 ms_ (hF.symm.trans ho) (by decide) (Nat.lt_succ_self _) _ _ _ hW (lv_sub hl [1, 2, 0] rfl)
  · skip
    refine lv_bipush (v := -2) hx hb dX10_save_10 (by decide) ?_
    have hF : f_X10_save a0 mf ms_ mz = (-2, ms_, mz) := by
      rw [f_X10_save, if_neg c1]
    obtain rfl : (-2, ms_, mz) = o := hF.symm.trans ho
    exact W.iret (v := -2) hx hb hrt (fun t ht hM => ⟨⟨_, (), rfl, rfl, ⟨by rw [ht]; exact hW.1, hW.2.1⟩⟩, hW.2.2.F ht⟩) hW.2.2.2.2 dX10_save_12 hlocks

def f_X10_restore_lp27 (a0 : Int32) (ms_ : Nat → Int64) : Nat → Int32 → (Nat → Int64) → Int32 × (Nat → Int64)
  | 0, _, _ => (0, (fun _ => 0))
  | n + 1, xi, yf =>
    if 93 ≤ xi then
      ((yf 77).toInt32, yf)
    else
      f_X10_restore_lp27 a0 ms_ n (xi + 1) (vp_updL yf xi.toNatClampNeg (ms_ ((93 * a0) + xi).toNatClampNeg))
def f_X10_restore (a0 : Int32) (mf : Nat → Int64) (ms_ : Nat → Int64) (mz : Nat → Int32) : Int32 × (Nat → Int64) :=
  if (f_X10_in a0.toInt64 0 1) = true then
    if (mz a0.toNatClampNeg) = 0 then
      (-5, mf)
    else
      f_X10_restore_lp27 a0 ms_ (((93 : Int32).toInt - (0 : Int32).toInt).toNat + 1) 0 mf
  else
    (-2, mf)
set_option maxHeartbeats 4000000 in
set_option maxRecDepth 100000 in
theorem c_X10_restore (l : Launch) (D : va_G) (cI cJ cZ cB : ClassId) (sz : Nat) (aM : Nat) (mA : Nat) (mC : Nat) (mD : Nat) (a0 : Int32) (mB : Nat) (mE : Nat) (pm : Int32) (sp : Int32) (iw : Bool) (mF : Nat) (rn : Int32) (mf : Nat → Int64) (ms_ : Nat → Int64) (mz : Nat → Int32) (o : Int32 × (Nat → Int64)) (ho : f_X10_restore a0 mf ms_ mz = o) : Met l yX10_restore wsX10_restore ({ frames := 1, cells := 0, slots := 0, locals := 25 } : Room) (xPre D (xT cI cJ cZ cB) [.ref aM, .int a0] [(aM, .inr (10, [.ref mA, .ref mB, .ref mC, .ref mD, .ref mE, .int pm, .int sp, .int (bi iw), .ref mF, .int rn])), (mA, .inl (cJ, 93, .inr (.inl mf))), (mC, .inl (cJ, 186, .inr (.inl ms_))), (mD, .inl (cZ, 2, .inl mz))] sz) (va_Qi (fun r (_ : Unit) => r = o.1) (fun _ t => xB D ([(aM, .inr (10, [.ref mA, .ref mB, .ref mC, .ref mD, .ref mE, .int pm, .int sp, .int (bi iw), .ref mF, .int rn])), (mA, .inl (cJ, 93, .inr (.inl o.2))), (mC, .inl (cJ, 186, .inr (.inl ms_))), (mD, .inl (cZ, 2, .inl mz))]) (va_A [(aM, .inr (10, [.ref mA, .ref mB, .ref mC, .ref mD, .ref mE, .int pm, .int sp, .int (bi iw), .ref mF, .int rn])), (mA, .inl (cJ, 93, .inr (.inl mf))), (mC, .inl (cJ, 186, .inr (.inl ms_))), (mD, .inl (cZ, 2, .inl mz))] sz) t) (va_A [(aM, .inr (10, [.ref mA, .ref mB, .ref mC, .ref mD, .ref mE, .int pm, .int sp, .int (bi iw), .ref mF, .int rn])), (mA, .inl (cJ, 93, .inr (.inl mf))), (mC, .inl (cJ, 186, .inr (.inl ms_))), (mD, .inl (cZ, 2, .inl mz))] sz)) 0 0 (va_A [(aM, .inr (10, [.ref mA, .ref mB, .ref mC, .ref mD, .ref mE, .int pm, .int sp, .int (bi iw), .ref mF, .int rn])), (mA, .inl (cJ, 93, .inr (.inl mf))), (mC, .inl (cJ, 186, .inr (.inl ms_))), (mD, .inl (cZ, 2, .inl mz))] sz) := by
  refine xofW (Qc := fun A0 => va_Qi (fun r (_ : Unit) => r = o.1) (fun _ t => xB D ([(aM, .inr (10, [.ref mA, .ref mB, .ref mC, .ref mD, .ref mE, .int pm, .int sp, .int (bi iw), .ref mF, .int rn])), (mA, .inl (cJ, 93, .inr (.inl o.2))), (mC, .inl (cJ, 186, .inr (.inl ms_))), (mD, .inl (cZ, 2, .inl mz))]) A0 t) A0) (fr := fun A => A) (cc := cX10_restore) (maxL := 3) (ret := (some .int)) (by decide) rfl (Nat.le_of_ble_eq_true rfl) ?_
  intro p e s m below meth c A ⟨hx, hb, hml, hown, hts⟩ hrt hlocks hnm hsz hK hW hA hG ls hl
  have hown : s.vm.findClass RX10 = some m.cls := hown
  have hl : lv_has ls 3 [(0, .ref aM), (1, .int a0)] := hl
  obtain ⟨H, hH⟩ : ∃ H, H = s.heap := ⟨_, rfl⟩
  have hW : xW D A s.heap ([(aM, .inr (10, [.ref mA, .ref mB, .ref mC, .ref mD, .ref mE, .int pm, .int sp, .int (bi iw), .ref mF, .int rn])), (mA, .inl (cJ, 93, .inr (.inl mf))), (mC, .inl (cJ, 186, .inr (.inl ms_))), (mD, .inl (cZ, 2, .inl mz))] ++ []) H [] := by rw [hH]; exact hW
  have w1 := hts (.fieldLink RX10 19 "DryIceLaneModel" "isSaved" "[Z") (by decide +kernel)
  have hin10 : ∀ w ∈ u_ws RX10 TX10 10, w ∈ wsX10_restore := by decide +kernel
  have w3 := hts (.fieldLink RX10 7 "DryIceLaneModel" "at" "[J") (by decide +kernel)
  have w4 := hts (.fieldLink RX10 16 "DryIceLaneModel" "slots" "[J") (by decide +kernel)
  rw [← hH]
  refine lv_iload_n hx hb dX10_restore_0 rfl (lv_at hl 1 rfl) ?_
  refine lv_i2l hx hb dX10_restore_1 rfl ?_
  refine lv_lconst (v := 0) hx hb dX10_restore_2 (by decide) ?_
  refine lv_lconst (v := 1) hx hb dX10_restore_3 (by decide) ?_
  refine vp_callSi (va_Run.run (xrunS (As := [.long a0.toInt64, .long 0, .long 1]) (rest := []) ⟨hx, hb, hml, hown, hts⟩ (c_X10_in l D cI cJ cZ cB H.size a0.toInt64 0 1 _ rfl) (cwS 3 hts gX10_restore_X10_in rfl rfl rfl (by decide +kernel) ⟨Nat.le_of_ble_eq_true rfl, Nat.le_of_ble_eq_true rfl⟩) hK hG hW.2.2 (xsubQ hW hA [] rfl (by decide)) rfl hl.1 rfl (Nat.le_of_ble_eq_true rfl) dX10_restore_4 ⟨Nat.le_of_ble_eq_true rfl, Nat.le_of_ble_eq_true rfl⟩)) (fun r1 hq => ?_)
  subst hq
  refine xb_ne (tgt := 13) hx hb dX10_restore_7 (by decide) (fun c1 => ?_) (fun c1 => ?_)
  · skip
    refine lv_aload_n hx hb dX10_restore_13 rfl (lv_at hl 0 rfl) ?_
    refine xget (ci := 10) (C := RX10) (T := TX10) (N := 10) hx hb hts hin10 hown hK hW.1 0 rfl rfl 3 (by decide) w1 rfl dX10_restore_14 ?_
    refine lv_iload_n hx hb dX10_restore_17 rfl (lv_at hl 1 rfl) ?_
    refine xzald hx hb hK hW.1 3 2 rfl rfl (vp_in_iff.mpr (slot_in c1)) a0.toNatClampNeg rfl (v := mz a0.toNatClampNeg) rfl dX10_restore_18 ?_
    refine lv_if_ne (tgt := 25) hx hb dX10_restore_19 (by decide) (fun c2 => ?_) (fun c2 => ?_)
    · skip
      refine lv_iconst (v := 0) hx hb dX10_restore_25 (by decide) ?_
      refine lv_istore_n (lv' := [(2, .int 0), (0, .ref aM), (1, .int a0)]) hx hb dX10_restore_26 rfl hl (by decide) rfl (fun ls hl => ?_)
      have hl27_ : ∀ (n : Nat) (xi : Int32) (yf : Nat → Int64), f_X10_restore_lp27 a0 ms_ n xi yf = o → (0 ≤ xi.toInt) → ((93 : Int32).toInt - xi.toInt).toNat < n → ∀ (H : Heap) (locs : List Loc) (ls : Array Slot), xW D A s.heap ([(aM, .inr (10, [.ref mA, .ref mB, .ref mC, .ref mD, .ref mE, .int pm, .int sp, .int (bi iw), .ref mF, .int rn])), (mA, .inl (cJ, 93, .inr (.inl yf))), (mC, .inl (cJ, 186, .inr (.inl ms_))), (mD, .inl (cZ, 2, .inl mz))] ++ []) H locs → lv_has ls 3 [(0, .ref aM), (1, .int a0), (2, .int xi)] → W p l e ({ frames := 1, cells := 0, slots := 0, locals := 25 } : Room) s m [.ref aM, .int a0].toArray below meth c H locs 0 0 (MQ below (va_Qi (fun r (_ : Unit) => r = o.1) (fun _ t => xB D ([(aM, .inr (10, [.ref mA, .ref mB, .ref mC, .ref mD, .ref mE, .int pm, .int sp, .int (bi iw), .ref mF, .int rn])), (mA, .inl (cJ, 93, .inr (.inl o.2))), (mC, .inl (cJ, 186, .inr (.inl ms_))), (mD, .inl (cZ, 2, .inl mz))]) A t) A) [.ref aM, .int a0].toArray s 0 0 A) (F0 m 27 ls []) := by
        intro n
        induction n with
        | zero =>
          intro xi yf _ _ hm
          exact absurd hm (Nat.not_lt_zero _)
        | succ n ih27 =>
          intro xi yf hlp27 hi0 hm27 H locs ls hW hl
          refine lv_iload_n hx hb dX10_restore_27 rfl (lv_at hl 2 rfl) ?_
          refine lv_bipush (v := 93) hx hb dX10_restore_28 (by decide) ?_
          refine lv_icmp_ge (tgt := 56) hx hb dX10_restore_30 (by decide) (fun c3 => ?_) (fun c3 => ?_)
          · skip
            refine lv_aload_n hx hb dX10_restore_56 rfl (lv_at hl 0 rfl) ?_
            refine xget (ci := 10) (C := RX10) (T := TX10) (N := 10) hx hb hts hin10 hown hK hW.1 0 rfl rfl 0 (by decide) w3 rfl dX10_restore_57 ?_
            refine lv_bipush (v := 77) hx hb dX10_restore_60 (by decide) ?_
            refine xlald hx hb hK hW.1 1 1 rfl rfl (vp_in_iff.mpr ⟨by decide, by decide⟩) 77 rfl (v := yf 77) rfl dX10_restore_62 ?_
            refine lv_l2i hx hb dX10_restore_63 rfl ?_
            have hF : f_X10_restore_lp27 a0 ms_ (n + 1) xi yf = ((yf 77).toInt32, yf) := by
              rw [f_X10_restore_lp27, if_pos c3]
            obtain rfl : ((yf 77).toInt32, yf) = o := hF.symm.trans hlp27
            exact W.iret (v := (yf 77).toInt32) hx hb hrt (fun t ht hM => ⟨⟨_, (), rfl, rfl, ⟨by rw [ht]; exact hW.1, hW.2.1⟩⟩, hW.2.2.F ht⟩) hW.2.2.2.2 dX10_restore_64 hlocks
          · skip
            refine lv_aload_n hx hb dX10_restore_33 rfl (lv_at hl 0 rfl) ?_
            refine xget (ci := 10) (C := RX10) (T := TX10) (N := 10) hx hb hts hin10 hown hK hW.1 0 rfl rfl 0 (by decide) w3 rfl dX10_restore_34 ?_
            refine lv_iload_n hx hb dX10_restore_37 rfl (lv_at hl 2 rfl) ?_
            refine lv_aload_n hx hb dX10_restore_38 rfl (lv_at hl 0 rfl) ?_
            refine xget (ci := 10) (C := RX10) (T := TX10) (N := 10) hx hb hts hin10 hown hK hW.1 0 rfl rfl 2 (by decide) w4 rfl dX10_restore_39 ?_
            refine lv_bipush (v := 93) hx hb dX10_restore_42 (by decide) ?_
            refine lv_iload_n hx hb dX10_restore_44 rfl (lv_at hl 1 rfl) ?_
            refine lv_imul hx hb dX10_restore_45 ?_
            refine lv_iload_n hx hb dX10_restore_46 rfl (lv_at hl 2 rfl) ?_
            refine lv_iadd hx hb dX10_restore_47 ?_
            refine xlald hx hb hK hW.1 2 1 rfl rfl (sl_in (slot_in c1) (x93 hi0 c3)) ((93 * a0) + xi).toNatClampNeg rfl (v := ms_ ((93 * a0) + xi).toNatClampNeg) rfl dX10_restore_48 ?_
            refine xlast hx hb hK hW 1 1 rfl (Nat.le_of_ble_eq_true rfl) rfl (in_lt hi0 c3 (by decide)) xi.toNatClampNeg rfl dX10_restore_49 (fun H locs hW => ?_)
            have hW : xW D A s.heap ([(aM, .inr (10, [.ref mA, .ref mB, .ref mC, .ref mD, .ref mE, .int pm, .int sp, .int (bi iw), .ref mF, .int rn])), (mA, .inl (cJ, 93, .inr (.inl (vp_updL yf xi.toNatClampNeg (ms_ ((93 * a0) + xi).toNatClampNeg))))), (mC, .inl (cJ, 186, .inr (.inl ms_))), (mD, .inl (cZ, 2, .inl mz))] ++ []) H _ := hW
            refine lv_iinc (v := xi + 1) (lv' := [(2, .int (xi + 1)), (0, .ref aM), (1, .int a0)]) hx hb dX10_restore_50 hl (k := 2) rfl rfl (by decide) rfl (fun ls hl => ?_)
            refine lv_goto (tgt := 27) hx hb dX10_restore_53 (by decide) ?_
            have hF : f_X10_restore_lp27 a0 ms_ (n + 1) xi yf = f_X10_restore_lp27 a0 ms_ n (xi + 1) (vp_updL yf xi.toNatClampNeg (ms_ ((93 * a0) + xi).toNatClampNeg)) := by
              rw [f_X10_restore_lp27, if_neg c3]
            refine W.widen (k := 0) (n := 0) (Nat.le_of_ble_eq_true rfl) (Nat.le_of_ble_eq_true rfl) ?_
            exact ih27 (xi + 1) (vp_updL yf xi.toNatClampNeg (ms_ ((93 * a0) + xi).toNatClampNeg)) (hF.symm.trans hlp27) (up_0 hi0 c3) (up_mu c3 hm27) _ _ _ hW (lv_sub hl [1, 2, 0] rfl)
      have hF : f_X10_restore a0 mf ms_ mz = f_X10_restore_lp27 a0 ms_ (((93 : Int32).toInt - (0 : Int32).toInt).toNat + 1) 0 mf := by
        rw [f_X10_restore, if_pos c1, if_neg c2]
      refine W.widen (k := 0) (n := 0) (Nat.le_of_ble_eq_true rfl) (Nat.le_of_ble_eq_true rfl) ?_
      exact hl27_ (((93 : Int32).toInt - (0 : Int32).toInt).toNat + 1) 0 mf (hF.symm.trans ho) (by decide) (Nat.lt_succ_self _) _ _ _ hW (lv_sub hl [1, 2, 0] rfl)
    · skip
      refine lv_bipush (v := -5) hx hb dX10_restore_22 (by decide) ?_
      have hF : f_X10_restore a0 mf ms_ mz = (-5, mf) := by
        rw [f_X10_restore, if_pos c1, if_pos c2]
      obtain rfl : (-5, mf) = o := hF.symm.trans ho
      exact W.iret (v := -5) hx hb hrt (fun t ht hM => ⟨⟨_, (), rfl, rfl, ⟨by rw [ht]; exact hW.1, hW.2.1⟩⟩, hW.2.2.F ht⟩) hW.2.2.2.2 dX10_restore_24 hlocks
  · skip
    refine lv_bipush (v := -2) hx hb dX10_restore_10 (by decide) ?_
    have hF : f_X10_restore a0 mf ms_ mz = (-2, mf) := by
      rw [f_X10_restore, if_neg c1]
    obtain rfl : (-2, mf) = o := hF.symm.trans ho
    exact W.iret (v := -2) hx hb hrt (fun t ht hM => ⟨⟨_, (), rfl, rfl, ⟨by rw [ht]; exact hW.1, hW.2.1⟩⟩, hW.2.2.F ht⟩) hW.2.2.2.2 dX10_restore_12 hlocks

set_option maxHeartbeats 4000000 in
set_option maxRecDepth 100000 in
theorem c_X10_init (l : Launch) (D : va_G) (cI cJ cZ cB : ClassId) (sz : Nat) (aM : Nat) (pm : Int32) (sp : Int32) (iw : Bool) (rn : Int32) : Met l yX10_init wsX10_init ({ frames := 1, cells := 6, slots := 514, locals := 12 } : Room) (xPre D (xT cI cJ cZ cB) [.ref aM] [(aM, .inr (10, [.null, .null, .null, .null, .null, .int pm, .int sp, .int (bi iw), .null, .int rn]))] sz) (va_Qv (fun u : Nat × Nat × Nat × Nat × Nat × Nat => True) (fun u t => xB D ([(aM, .inr (10, [.ref u.1, .ref u.2.1, .ref u.2.2.1, .ref u.2.2.2.1, .ref u.2.2.2.2.1, .int pm, .int sp, .int (bi iw), .ref u.2.2.2.2.2, .int rn])), (u.1, .inl (cJ, 93, .inr (.inl (vp_updL (vp_updL (vp_updL (vp_updL (vp_updL (vp_updL (vp_updL (vp_updL (vp_updL (vp_updL (vp_updL (vp_updL (vp_updL (fun _ => 0) 78 2000) 84 (-1)) 64 100) 65 10) 66 100) 67 5) 68 300) 69 5000) 70 1000) 71 5) 72 5000) 73 20) 74 5000)))), (u.2.1, .inl (cJ, 93, .inr (.inl (fun _ => 0)))), (u.2.2.1, .inl (cJ, 186, .inr (.inl (fun _ => 0)))), (u.2.2.2.1, .inl (cZ, 2, .inl (fun _ => 0))), (u.2.2.2.2.1, .inl (cI, 80, .inl (fun _ => 0))), (u.2.2.2.2.2, .inl (cI, 60, .inl (fun _ => 0)))]) (va_A [(aM, .inr (10, [.null, .null, .null, .null, .null, .int pm, .int sp, .int (bi iw), .null, .int rn]))] sz) t) (va_A [(aM, .inr (10, [.null, .null, .null, .null, .null, .int pm, .int sp, .int (bi iw), .null, .int rn]))] sz)) 6 514 (va_A [(aM, .inr (10, [.null, .null, .null, .null, .null, .int pm, .int sp, .int (bi iw), .null, .int rn]))] sz) := by
  refine xofW (Qc := fun A0 => va_Qv (fun u : Nat × Nat × Nat × Nat × Nat × Nat => True) (fun u t => xB D ([(aM, .inr (10, [.ref u.1, .ref u.2.1, .ref u.2.2.1, .ref u.2.2.2.1, .ref u.2.2.2.2.1, .int pm, .int sp, .int (bi iw), .ref u.2.2.2.2.2, .int rn])), (u.1, .inl (cJ, 93, .inr (.inl (vp_updL (vp_updL (vp_updL (vp_updL (vp_updL (vp_updL (vp_updL (vp_updL (vp_updL (vp_updL (vp_updL (vp_updL (vp_updL (fun _ => 0) 78 2000) 84 (-1)) 64 100) 65 10) 66 100) 67 5) 68 300) 69 5000) 70 1000) 71 5) 72 5000) 73 20) 74 5000)))), (u.2.1, .inl (cJ, 93, .inr (.inl (fun _ => 0)))), (u.2.2.1, .inl (cJ, 186, .inr (.inl (fun _ => 0)))), (u.2.2.2.1, .inl (cZ, 2, .inl (fun _ => 0))), (u.2.2.2.2.1, .inl (cI, 80, .inl (fun _ => 0))), (u.2.2.2.2.2, .inl (cI, 60, .inl (fun _ => 0)))]) A0 t) A0) (fr := fun A => A) (cc := cX10_init) (maxL := 1) (ret := none) (by decide) rfl (Nat.le_of_ble_eq_true rfl) ?_
  intro p e s m below meth c A ⟨hx, hb, hml, hown, hts⟩ hrt hlocks hnm hsz hK hW hA hG ls hl
  have hown : s.vm.findClass RX10 = some m.cls := hown
  have hl : lv_has ls 1 [(0, .ref aM)] := hl
  obtain ⟨H, hH⟩ : ∃ H, H = s.heap := ⟨_, rfl⟩
  have hW : xW D A s.heap ([(aM, .inr (10, [.null, .null, .null, .null, .null, .int pm, .int sp, .int (bi iw), .null, .int rn]))] ++ []) H [] := by rw [hH]; exact hW
  have w1 := hts (.methodLink RX10 1 objectInit) (by decide +kernel)
  have w2 := hts (.instanceMethod objectInit) (by decide +kernel)
  have w3 := hts (.code objectInit ⟨#[0xb1]⟩ 1 none) (by decide +kernel)
  have w4 := hts (.arrayClass .long) (by decide +kernel)
  have w5 := hts (.fieldLink RX10 7 "DryIceLaneModel" "at" "[J") (by decide +kernel)
  have hin10 : ∀ w ∈ u_ws RX10 TX10 10, w ∈ wsX10_init := by decide +kernel
  have w7 := hts (.fieldLink RX10 13 "DryIceLaneModel" "aside" "[J") (by decide +kernel)
  have w8 := hts (.fieldLink RX10 16 "DryIceLaneModel" "slots" "[J") (by decide +kernel)
  have w9 := hts (.arrayClass .boolean) (by decide +kernel)
  have w10 := hts (.fieldLink RX10 19 "DryIceLaneModel" "isSaved" "[Z") (by decide +kernel)
  have w11 := hts (.arrayClass .int) (by decide +kernel)
  have w12 := hts (.fieldLink RX10 23 "DryIceLaneModel" "pad" "[I") (by decide +kernel)
  have w13 := hts (.fieldLink RX10 27 "DryIceLaneModel" "read" "[I") (by decide +kernel)
  have w14 := hts (.constantLong RX10 30 (2000)) (by decide +kernel)
  have w15 := hts (.constantLong RX10 32 (-1)) (by decide +kernel)
  have w16 := hts (.constantLong RX10 34 (100)) (by decide +kernel)
  have w17 := hts (.constantLong RX10 36 (10)) (by decide +kernel)
  have w18 := hts (.constantLong RX10 38 (5)) (by decide +kernel)
  have w19 := hts (.constantLong RX10 40 (300)) (by decide +kernel)
  have w20 := hts (.constantLong RX10 42 (5000)) (by decide +kernel)
  have w21 := hts (.constantLong RX10 44 (1000)) (by decide +kernel)
  have w22 := hts (.constantLong RX10 46 (20)) (by decide +kernel)
  rw [← hH]
  refine lv_aload_n hx hb dX10_init_0 rfl (lv_at hl 0 rfl) ?_
  refine W.objInit hx hb hown w1 w2 w3 rfl (by rw [hml]; exact hl.1) rfl dX10_init_1 (Nat.le_of_ble_eq_true rfl) (Nat.le_of_ble_eq_true rfl) ?_
  refine W.eq (g2 := F0 m 4 ls []) rfl ?_
  refine lv_aload_n hx hb dX10_init_4 rfl (lv_at hl 0 rfl) ?_
  refine lv_bipush (v := 93) hx hb dX10_init_5 (by decide) ?_
  refine xnewJ (N := 93) hx hb w4 hK hW hA (by decide) (by decide) (Nat.le_of_ble_eq_true rfl) (Nat.le_of_ble_eq_true rfl) (Nat.le_of_ble_eq_true rfl) dX10_init_7 (fun n1_ H hW => ?_)
  have hW : xW D A s.heap ([(aM, .inr (10, [.null, .null, .null, .null, .null, .int pm, .int sp, .int (bi iw), .null, .int rn])), (n1_, .inl (cJ, 93, .inr (.inl (fun _ => 0))))] ++ []) H _ := hW
  refine xputF (ci := 10) (v := .ref n1_) (ty := .array .long) (C := RX10) (T := TX10) (N := 10) hx hb hts hin10 tyX10 tyX10_ok nmX10 hown hK hW 0 rfl (Nat.le_of_ble_eq_true rfl) rfl 0 (by decide) w5 rfl hnm rfl (by decide +kernel) rfl rfl (Nat.le_of_ble_eq_true rfl) dX10_init_9 (fun H locs hW => ?_)
  have hW : xW D A s.heap ([(aM, .inr (10, [.ref n1_, .null, .null, .null, .null, .int pm, .int sp, .int (bi iw), .null, .int rn])), (n1_, .inl (cJ, 93, .inr (.inl (fun _ => 0))))] ++ []) H _ := hW
  refine lv_aload_n hx hb dX10_init_12 rfl (lv_at hl 0 rfl) ?_
  refine lv_bipush (v := 93) hx hb dX10_init_13 (by decide) ?_
  refine xnewJ (N := 93) hx hb w4 hK hW hA (by decide) (by decide) (Nat.le_of_ble_eq_true rfl) (Nat.le_of_ble_eq_true rfl) (Nat.le_of_ble_eq_true rfl) dX10_init_15 (fun n2_ H hW => ?_)
  have hW : xW D A s.heap ([(aM, .inr (10, [.ref n1_, .null, .null, .null, .null, .int pm, .int sp, .int (bi iw), .null, .int rn])), (n1_, .inl (cJ, 93, .inr (.inl (fun _ => 0)))), (n2_, .inl (cJ, 93, .inr (.inl (fun _ => 0))))] ++ []) H _ := hW
  refine xputF (ci := 10) (v := .ref n2_) (ty := .array .long) (C := RX10) (T := TX10) (N := 10) hx hb hts hin10 tyX10 tyX10_ok nmX10 hown hK hW 0 rfl (Nat.le_of_ble_eq_true rfl) rfl 1 (by decide) w7 rfl hnm rfl (by decide +kernel) rfl rfl (Nat.le_of_ble_eq_true rfl) dX10_init_17 (fun H locs hW => ?_)
  have hW : xW D A s.heap ([(aM, .inr (10, [.ref n1_, .ref n2_, .null, .null, .null, .int pm, .int sp, .int (bi iw), .null, .int rn])), (n1_, .inl (cJ, 93, .inr (.inl (fun _ => 0)))), (n2_, .inl (cJ, 93, .inr (.inl (fun _ => 0))))] ++ []) H _ := hW
  refine lv_aload_n hx hb dX10_init_20 rfl (lv_at hl 0 rfl) ?_
  refine lv_sipush (v := 186) hx hb dX10_init_21 (by decide) ?_
  refine xnewJ (N := 186) hx hb w4 hK hW hA (by decide) (by decide) (Nat.le_of_ble_eq_true rfl) (Nat.le_of_ble_eq_true rfl) (Nat.le_of_ble_eq_true rfl) dX10_init_24 (fun n3_ H hW => ?_)
  have hW : xW D A s.heap ([(aM, .inr (10, [.ref n1_, .ref n2_, .null, .null, .null, .int pm, .int sp, .int (bi iw), .null, .int rn])), (n1_, .inl (cJ, 93, .inr (.inl (fun _ => 0)))), (n2_, .inl (cJ, 93, .inr (.inl (fun _ => 0)))), (n3_, .inl (cJ, 186, .inr (.inl (fun _ => 0))))] ++ []) H _ := hW
  refine xputF (ci := 10) (v := .ref n3_) (ty := .array .long) (C := RX10) (T := TX10) (N := 10) hx hb hts hin10 tyX10 tyX10_ok nmX10 hown hK hW 0 rfl (Nat.le_of_ble_eq_true rfl) rfl 2 (by decide) w8 rfl hnm rfl (by decide +kernel) rfl rfl (Nat.le_of_ble_eq_true rfl) dX10_init_26 (fun H locs hW => ?_)
  have hW : xW D A s.heap ([(aM, .inr (10, [.ref n1_, .ref n2_, .ref n3_, .null, .null, .int pm, .int sp, .int (bi iw), .null, .int rn])), (n1_, .inl (cJ, 93, .inr (.inl (fun _ => 0)))), (n2_, .inl (cJ, 93, .inr (.inl (fun _ => 0)))), (n3_, .inl (cJ, 186, .inr (.inl (fun _ => 0))))] ++ []) H _ := hW
  refine lv_aload_n hx hb dX10_init_29 rfl (lv_at hl 0 rfl) ?_
  refine lv_iconst (v := 2) hx hb dX10_init_30 (by decide) ?_
  refine xnewZ (N := 2) hx hb w9 hK hW hA (by decide) (by decide) (Nat.le_of_ble_eq_true rfl) (Nat.le_of_ble_eq_true rfl) (Nat.le_of_ble_eq_true rfl) dX10_init_31 (fun n4_ H hW => ?_)
  have hW : xW D A s.heap ([(aM, .inr (10, [.ref n1_, .ref n2_, .ref n3_, .null, .null, .int pm, .int sp, .int (bi iw), .null, .int rn])), (n1_, .inl (cJ, 93, .inr (.inl (fun _ => 0)))), (n2_, .inl (cJ, 93, .inr (.inl (fun _ => 0)))), (n3_, .inl (cJ, 186, .inr (.inl (fun _ => 0)))), (n4_, .inl (cZ, 2, .inl (fun _ => 0)))] ++ []) H _ := hW
  refine xputF (ci := 10) (v := .ref n4_) (ty := .array .boolean) (C := RX10) (T := TX10) (N := 10) hx hb hts hin10 tyX10 tyX10_ok nmX10 hown hK hW 0 rfl (Nat.le_of_ble_eq_true rfl) rfl 3 (by decide) w10 rfl hnm rfl (by decide +kernel) rfl rfl (Nat.le_of_ble_eq_true rfl) dX10_init_33 (fun H locs hW => ?_)
  have hW : xW D A s.heap ([(aM, .inr (10, [.ref n1_, .ref n2_, .ref n3_, .ref n4_, .null, .int pm, .int sp, .int (bi iw), .null, .int rn])), (n1_, .inl (cJ, 93, .inr (.inl (fun _ => 0)))), (n2_, .inl (cJ, 93, .inr (.inl (fun _ => 0)))), (n3_, .inl (cJ, 186, .inr (.inl (fun _ => 0)))), (n4_, .inl (cZ, 2, .inl (fun _ => 0)))] ++ []) H _ := hW
  refine lv_aload_n hx hb dX10_init_36 rfl (lv_at hl 0 rfl) ?_
  refine lv_bipush (v := 80) hx hb dX10_init_37 (by decide) ?_
  refine xnewI (N := 80) hx hb w11 hK hW hA (by decide) (by decide) (Nat.le_of_ble_eq_true rfl) (Nat.le_of_ble_eq_true rfl) (Nat.le_of_ble_eq_true rfl) dX10_init_39 (fun n5_ H hW => ?_)
  have hW : xW D A s.heap ([(aM, .inr (10, [.ref n1_, .ref n2_, .ref n3_, .ref n4_, .null, .int pm, .int sp, .int (bi iw), .null, .int rn])), (n1_, .inl (cJ, 93, .inr (.inl (fun _ => 0)))), (n2_, .inl (cJ, 93, .inr (.inl (fun _ => 0)))), (n3_, .inl (cJ, 186, .inr (.inl (fun _ => 0)))), (n4_, .inl (cZ, 2, .inl (fun _ => 0))), (n5_, .inl (cI, 80, .inl (fun _ => 0)))] ++ []) H _ := hW
  refine xputF (ci := 10) (v := .ref n5_) (ty := .array .int) (C := RX10) (T := TX10) (N := 10) hx hb hts hin10 tyX10 tyX10_ok nmX10 hown hK hW 0 rfl (Nat.le_of_ble_eq_true rfl) rfl 4 (by decide) w12 rfl hnm rfl (by decide +kernel) rfl rfl (Nat.le_of_ble_eq_true rfl) dX10_init_41 (fun H locs hW => ?_)
  have hW : xW D A s.heap ([(aM, .inr (10, [.ref n1_, .ref n2_, .ref n3_, .ref n4_, .ref n5_, .int pm, .int sp, .int (bi iw), .null, .int rn])), (n1_, .inl (cJ, 93, .inr (.inl (fun _ => 0)))), (n2_, .inl (cJ, 93, .inr (.inl (fun _ => 0)))), (n3_, .inl (cJ, 186, .inr (.inl (fun _ => 0)))), (n4_, .inl (cZ, 2, .inl (fun _ => 0))), (n5_, .inl (cI, 80, .inl (fun _ => 0)))] ++ []) H _ := hW
  refine lv_aload_n hx hb dX10_init_44 rfl (lv_at hl 0 rfl) ?_
  refine lv_bipush (v := 60) hx hb dX10_init_45 (by decide) ?_
  refine xnewI (N := 60) hx hb w11 hK hW hA (by decide) (by decide) (Nat.le_of_ble_eq_true rfl) (Nat.le_of_ble_eq_true rfl) (Nat.le_of_ble_eq_true rfl) dX10_init_47 (fun n6_ H hW => ?_)
  have hW : xW D A s.heap ([(aM, .inr (10, [.ref n1_, .ref n2_, .ref n3_, .ref n4_, .ref n5_, .int pm, .int sp, .int (bi iw), .null, .int rn])), (n1_, .inl (cJ, 93, .inr (.inl (fun _ => 0)))), (n2_, .inl (cJ, 93, .inr (.inl (fun _ => 0)))), (n3_, .inl (cJ, 186, .inr (.inl (fun _ => 0)))), (n4_, .inl (cZ, 2, .inl (fun _ => 0))), (n5_, .inl (cI, 80, .inl (fun _ => 0))), (n6_, .inl (cI, 60, .inl (fun _ => 0)))] ++ []) H _ := hW
  refine xputF (ci := 10) (v := .ref n6_) (ty := .array .int) (C := RX10) (T := TX10) (N := 10) hx hb hts hin10 tyX10 tyX10_ok nmX10 hown hK hW 0 rfl (Nat.le_of_ble_eq_true rfl) rfl 8 (by decide) w13 rfl hnm rfl (by decide +kernel) rfl rfl (Nat.le_of_ble_eq_true rfl) dX10_init_49 (fun H locs hW => ?_)
  have hW : xW D A s.heap ([(aM, .inr (10, [.ref n1_, .ref n2_, .ref n3_, .ref n4_, .ref n5_, .int pm, .int sp, .int (bi iw), .ref n6_, .int rn])), (n1_, .inl (cJ, 93, .inr (.inl (fun _ => 0)))), (n2_, .inl (cJ, 93, .inr (.inl (fun _ => 0)))), (n3_, .inl (cJ, 186, .inr (.inl (fun _ => 0)))), (n4_, .inl (cZ, 2, .inl (fun _ => 0))), (n5_, .inl (cI, 80, .inl (fun _ => 0))), (n6_, .inl (cI, 60, .inl (fun _ => 0)))] ++ []) H _ := hW
  refine lv_aload_n hx hb dX10_init_52 rfl (lv_at hl 0 rfl) ?_
  refine xget (ci := 10) (C := RX10) (T := TX10) (N := 10) hx hb hts hin10 hown hK hW.1 0 rfl rfl 0 (by decide) w5 rfl dX10_init_53 ?_
  refine lv_bipush (v := 78) hx hb dX10_init_56 (by decide) ?_
  refine lv_ldc2 hx hb hown w14 dX10_init_58 ?_
  refine xlast hx hb hK hW 1 1 rfl (Nat.le_of_ble_eq_true rfl) rfl (vp_in_iff.mpr ⟨by decide, by decide⟩) 78 rfl dX10_init_61 (fun H locs hW => ?_)
  have hW : xW D A s.heap ([(aM, .inr (10, [.ref n1_, .ref n2_, .ref n3_, .ref n4_, .ref n5_, .int pm, .int sp, .int (bi iw), .ref n6_, .int rn])), (n1_, .inl (cJ, 93, .inr (.inl (vp_updL (fun _ => 0) 78 2000)))), (n2_, .inl (cJ, 93, .inr (.inl (fun _ => 0)))), (n3_, .inl (cJ, 186, .inr (.inl (fun _ => 0)))), (n4_, .inl (cZ, 2, .inl (fun _ => 0))), (n5_, .inl (cI, 80, .inl (fun _ => 0))), (n6_, .inl (cI, 60, .inl (fun _ => 0)))] ++ []) H _ := hW
  refine lv_aload_n hx hb dX10_init_62 rfl (lv_at hl 0 rfl) ?_
  refine xget (ci := 10) (C := RX10) (T := TX10) (N := 10) hx hb hts hin10 hown hK hW.1 0 rfl rfl 0 (by decide) w5 rfl dX10_init_63 ?_
  refine lv_bipush (v := 84) hx hb dX10_init_66 (by decide) ?_
  refine lv_ldc2 hx hb hown w15 dX10_init_68 ?_
  refine xlast hx hb hK hW 1 1 rfl (Nat.le_of_ble_eq_true rfl) rfl (vp_in_iff.mpr ⟨by decide, by decide⟩) 84 rfl dX10_init_71 (fun H locs hW => ?_)
  have hW : xW D A s.heap ([(aM, .inr (10, [.ref n1_, .ref n2_, .ref n3_, .ref n4_, .ref n5_, .int pm, .int sp, .int (bi iw), .ref n6_, .int rn])), (n1_, .inl (cJ, 93, .inr (.inl (vp_updL (vp_updL (fun _ => 0) 78 2000) 84 (-1))))), (n2_, .inl (cJ, 93, .inr (.inl (fun _ => 0)))), (n3_, .inl (cJ, 186, .inr (.inl (fun _ => 0)))), (n4_, .inl (cZ, 2, .inl (fun _ => 0))), (n5_, .inl (cI, 80, .inl (fun _ => 0))), (n6_, .inl (cI, 60, .inl (fun _ => 0)))] ++ []) H _ := hW
  refine lv_aload_n hx hb dX10_init_72 rfl (lv_at hl 0 rfl) ?_
  refine xget (ci := 10) (C := RX10) (T := TX10) (N := 10) hx hb hts hin10 hown hK hW.1 0 rfl rfl 0 (by decide) w5 rfl dX10_init_73 ?_
  refine lv_bipush (v := 64) hx hb dX10_init_76 (by decide) ?_
  refine lv_ldc2 hx hb hown w16 dX10_init_78 ?_
  refine xlast hx hb hK hW 1 1 rfl (Nat.le_of_ble_eq_true rfl) rfl (vp_in_iff.mpr ⟨by decide, by decide⟩) 64 rfl dX10_init_81 (fun H locs hW => ?_)
  have hW : xW D A s.heap ([(aM, .inr (10, [.ref n1_, .ref n2_, .ref n3_, .ref n4_, .ref n5_, .int pm, .int sp, .int (bi iw), .ref n6_, .int rn])), (n1_, .inl (cJ, 93, .inr (.inl (vp_updL (vp_updL (vp_updL (fun _ => 0) 78 2000) 84 (-1)) 64 100)))), (n2_, .inl (cJ, 93, .inr (.inl (fun _ => 0)))), (n3_, .inl (cJ, 186, .inr (.inl (fun _ => 0)))), (n4_, .inl (cZ, 2, .inl (fun _ => 0))), (n5_, .inl (cI, 80, .inl (fun _ => 0))), (n6_, .inl (cI, 60, .inl (fun _ => 0)))] ++ []) H _ := hW
  refine lv_aload_n hx hb dX10_init_82 rfl (lv_at hl 0 rfl) ?_
  refine xget (ci := 10) (C := RX10) (T := TX10) (N := 10) hx hb hts hin10 hown hK hW.1 0 rfl rfl 0 (by decide) w5 rfl dX10_init_83 ?_
  refine lv_bipush (v := 65) hx hb dX10_init_86 (by decide) ?_
  refine lv_ldc2 hx hb hown w17 dX10_init_88 ?_
  refine xlast hx hb hK hW 1 1 rfl (Nat.le_of_ble_eq_true rfl) rfl (vp_in_iff.mpr ⟨by decide, by decide⟩) 65 rfl dX10_init_91 (fun H locs hW => ?_)
  have hW : xW D A s.heap ([(aM, .inr (10, [.ref n1_, .ref n2_, .ref n3_, .ref n4_, .ref n5_, .int pm, .int sp, .int (bi iw), .ref n6_, .int rn])), (n1_, .inl (cJ, 93, .inr (.inl (vp_updL (vp_updL (vp_updL (vp_updL (fun _ => 0) 78 2000) 84 (-1)) 64 100) 65 10)))), (n2_, .inl (cJ, 93, .inr (.inl (fun _ => 0)))), (n3_, .inl (cJ, 186, .inr (.inl (fun _ => 0)))), (n4_, .inl (cZ, 2, .inl (fun _ => 0))), (n5_, .inl (cI, 80, .inl (fun _ => 0))), (n6_, .inl (cI, 60, .inl (fun _ => 0)))] ++ []) H _ := hW
  refine lv_aload_n hx hb dX10_init_92 rfl (lv_at hl 0 rfl) ?_
  refine xget (ci := 10) (C := RX10) (T := TX10) (N := 10) hx hb hts hin10 hown hK hW.1 0 rfl rfl 0 (by decide) w5 rfl dX10_init_93 ?_
  refine lv_bipush (v := 66) hx hb dX10_init_96 (by decide) ?_
  refine lv_ldc2 hx hb hown w16 dX10_init_98 ?_
  refine xlast hx hb hK hW 1 1 rfl (Nat.le_of_ble_eq_true rfl) rfl (vp_in_iff.mpr ⟨by decide, by decide⟩) 66 rfl dX10_init_101 (fun H locs hW => ?_)
  have hW : xW D A s.heap ([(aM, .inr (10, [.ref n1_, .ref n2_, .ref n3_, .ref n4_, .ref n5_, .int pm, .int sp, .int (bi iw), .ref n6_, .int rn])), (n1_, .inl (cJ, 93, .inr (.inl (vp_updL (vp_updL (vp_updL (vp_updL (vp_updL (fun _ => 0) 78 2000) 84 (-1)) 64 100) 65 10) 66 100)))), (n2_, .inl (cJ, 93, .inr (.inl (fun _ => 0)))), (n3_, .inl (cJ, 186, .inr (.inl (fun _ => 0)))), (n4_, .inl (cZ, 2, .inl (fun _ => 0))), (n5_, .inl (cI, 80, .inl (fun _ => 0))), (n6_, .inl (cI, 60, .inl (fun _ => 0)))] ++ []) H _ := hW
  refine lv_aload_n hx hb dX10_init_102 rfl (lv_at hl 0 rfl) ?_
  refine xget (ci := 10) (C := RX10) (T := TX10) (N := 10) hx hb hts hin10 hown hK hW.1 0 rfl rfl 0 (by decide) w5 rfl dX10_init_103 ?_
  refine lv_bipush (v := 67) hx hb dX10_init_106 (by decide) ?_
  refine lv_ldc2 hx hb hown w18 dX10_init_108 ?_
  refine xlast hx hb hK hW 1 1 rfl (Nat.le_of_ble_eq_true rfl) rfl (vp_in_iff.mpr ⟨by decide, by decide⟩) 67 rfl dX10_init_111 (fun H locs hW => ?_)
  have hW : xW D A s.heap ([(aM, .inr (10, [.ref n1_, .ref n2_, .ref n3_, .ref n4_, .ref n5_, .int pm, .int sp, .int (bi iw), .ref n6_, .int rn])), (n1_, .inl (cJ, 93, .inr (.inl (vp_updL (vp_updL (vp_updL (vp_updL (vp_updL (vp_updL (fun _ => 0) 78 2000) 84 (-1)) 64 100) 65 10) 66 100) 67 5)))), (n2_, .inl (cJ, 93, .inr (.inl (fun _ => 0)))), (n3_, .inl (cJ, 186, .inr (.inl (fun _ => 0)))), (n4_, .inl (cZ, 2, .inl (fun _ => 0))), (n5_, .inl (cI, 80, .inl (fun _ => 0))), (n6_, .inl (cI, 60, .inl (fun _ => 0)))] ++ []) H _ := hW
  refine lv_aload_n hx hb dX10_init_112 rfl (lv_at hl 0 rfl) ?_
  refine xget (ci := 10) (C := RX10) (T := TX10) (N := 10) hx hb hts hin10 hown hK hW.1 0 rfl rfl 0 (by decide) w5 rfl dX10_init_113 ?_
  refine lv_bipush (v := 68) hx hb dX10_init_116 (by decide) ?_
  refine lv_ldc2 hx hb hown w19 dX10_init_118 ?_
  refine xlast hx hb hK hW 1 1 rfl (Nat.le_of_ble_eq_true rfl) rfl (vp_in_iff.mpr ⟨by decide, by decide⟩) 68 rfl dX10_init_121 (fun H locs hW => ?_)
  have hW : xW D A s.heap ([(aM, .inr (10, [.ref n1_, .ref n2_, .ref n3_, .ref n4_, .ref n5_, .int pm, .int sp, .int (bi iw), .ref n6_, .int rn])), (n1_, .inl (cJ, 93, .inr (.inl (vp_updL (vp_updL (vp_updL (vp_updL (vp_updL (vp_updL (vp_updL (fun _ => 0) 78 2000) 84 (-1)) 64 100) 65 10) 66 100) 67 5) 68 300)))), (n2_, .inl (cJ, 93, .inr (.inl (fun _ => 0)))), (n3_, .inl (cJ, 186, .inr (.inl (fun _ => 0)))), (n4_, .inl (cZ, 2, .inl (fun _ => 0))), (n5_, .inl (cI, 80, .inl (fun _ => 0))), (n6_, .inl (cI, 60, .inl (fun _ => 0)))] ++ []) H _ := hW
  refine lv_aload_n hx hb dX10_init_122 rfl (lv_at hl 0 rfl) ?_
  refine xget (ci := 10) (C := RX10) (T := TX10) (N := 10) hx hb hts hin10 hown hK hW.1 0 rfl rfl 0 (by decide) w5 rfl dX10_init_123 ?_
  refine lv_bipush (v := 69) hx hb dX10_init_126 (by decide) ?_
  refine lv_ldc2 hx hb hown w20 dX10_init_128 ?_
  refine xlast hx hb hK hW 1 1 rfl (Nat.le_of_ble_eq_true rfl) rfl (vp_in_iff.mpr ⟨by decide, by decide⟩) 69 rfl dX10_init_131 (fun H locs hW => ?_)
  have hW : xW D A s.heap ([(aM, .inr (10, [.ref n1_, .ref n2_, .ref n3_, .ref n4_, .ref n5_, .int pm, .int sp, .int (bi iw), .ref n6_, .int rn])), (n1_, .inl (cJ, 93, .inr (.inl (vp_updL (vp_updL (vp_updL (vp_updL (vp_updL (vp_updL (vp_updL (vp_updL (fun _ => 0) 78 2000) 84 (-1)) 64 100) 65 10) 66 100) 67 5) 68 300) 69 5000)))), (n2_, .inl (cJ, 93, .inr (.inl (fun _ => 0)))), (n3_, .inl (cJ, 186, .inr (.inl (fun _ => 0)))), (n4_, .inl (cZ, 2, .inl (fun _ => 0))), (n5_, .inl (cI, 80, .inl (fun _ => 0))), (n6_, .inl (cI, 60, .inl (fun _ => 0)))] ++ []) H _ := hW
  refine lv_aload_n hx hb dX10_init_132 rfl (lv_at hl 0 rfl) ?_
  refine xget (ci := 10) (C := RX10) (T := TX10) (N := 10) hx hb hts hin10 hown hK hW.1 0 rfl rfl 0 (by decide) w5 rfl dX10_init_133 ?_
  refine lv_bipush (v := 70) hx hb dX10_init_136 (by decide) ?_
  refine lv_ldc2 hx hb hown w21 dX10_init_138 ?_
  refine xlast hx hb hK hW 1 1 rfl (Nat.le_of_ble_eq_true rfl) rfl (vp_in_iff.mpr ⟨by decide, by decide⟩) 70 rfl dX10_init_141 (fun H locs hW => ?_)
  have hW : xW D A s.heap ([(aM, .inr (10, [.ref n1_, .ref n2_, .ref n3_, .ref n4_, .ref n5_, .int pm, .int sp, .int (bi iw), .ref n6_, .int rn])), (n1_, .inl (cJ, 93, .inr (.inl (vp_updL (vp_updL (vp_updL (vp_updL (vp_updL (vp_updL (vp_updL (vp_updL (vp_updL (fun _ => 0) 78 2000) 84 (-1)) 64 100) 65 10) 66 100) 67 5) 68 300) 69 5000) 70 1000)))), (n2_, .inl (cJ, 93, .inr (.inl (fun _ => 0)))), (n3_, .inl (cJ, 186, .inr (.inl (fun _ => 0)))), (n4_, .inl (cZ, 2, .inl (fun _ => 0))), (n5_, .inl (cI, 80, .inl (fun _ => 0))), (n6_, .inl (cI, 60, .inl (fun _ => 0)))] ++ []) H _ := hW
  refine lv_aload_n hx hb dX10_init_142 rfl (lv_at hl 0 rfl) ?_
  refine xget (ci := 10) (C := RX10) (T := TX10) (N := 10) hx hb hts hin10 hown hK hW.1 0 rfl rfl 0 (by decide) w5 rfl dX10_init_143 ?_
  refine lv_bipush (v := 71) hx hb dX10_init_146 (by decide) ?_
  refine lv_ldc2 hx hb hown w18 dX10_init_148 ?_
  refine xlast hx hb hK hW 1 1 rfl (Nat.le_of_ble_eq_true rfl) rfl (vp_in_iff.mpr ⟨by decide, by decide⟩) 71 rfl dX10_init_151 (fun H locs hW => ?_)
  have hW : xW D A s.heap ([(aM, .inr (10, [.ref n1_, .ref n2_, .ref n3_, .ref n4_, .ref n5_, .int pm, .int sp, .int (bi iw), .ref n6_, .int rn])), (n1_, .inl (cJ, 93, .inr (.inl (vp_updL (vp_updL (vp_updL (vp_updL (vp_updL (vp_updL (vp_updL (vp_updL (vp_updL (vp_updL (fun _ => 0) 78 2000) 84 (-1)) 64 100) 65 10) 66 100) 67 5) 68 300) 69 5000) 70 1000) 71 5)))), (n2_, .inl (cJ, 93, .inr (.inl (fun _ => 0)))), (n3_, .inl (cJ, 186, .inr (.inl (fun _ => 0)))), (n4_, .inl (cZ, 2, .inl (fun _ => 0))), (n5_, .inl (cI, 80, .inl (fun _ => 0))), (n6_, .inl (cI, 60, .inl (fun _ => 0)))] ++ []) H _ := hW
  refine lv_aload_n hx hb dX10_init_152 rfl (lv_at hl 0 rfl) ?_
  refine xget (ci := 10) (C := RX10) (T := TX10) (N := 10) hx hb hts hin10 hown hK hW.1 0 rfl rfl 0 (by decide) w5 rfl dX10_init_153 ?_
  refine lv_bipush (v := 72) hx hb dX10_init_156 (by decide) ?_
  refine lv_ldc2 hx hb hown w20 dX10_init_158 ?_
  refine xlast hx hb hK hW 1 1 rfl (Nat.le_of_ble_eq_true rfl) rfl (vp_in_iff.mpr ⟨by decide, by decide⟩) 72 rfl dX10_init_161 (fun H locs hW => ?_)
  have hW : xW D A s.heap ([(aM, .inr (10, [.ref n1_, .ref n2_, .ref n3_, .ref n4_, .ref n5_, .int pm, .int sp, .int (bi iw), .ref n6_, .int rn])), (n1_, .inl (cJ, 93, .inr (.inl (vp_updL (vp_updL (vp_updL (vp_updL (vp_updL (vp_updL (vp_updL (vp_updL (vp_updL (vp_updL (vp_updL (fun _ => 0) 78 2000) 84 (-1)) 64 100) 65 10) 66 100) 67 5) 68 300) 69 5000) 70 1000) 71 5) 72 5000)))), (n2_, .inl (cJ, 93, .inr (.inl (fun _ => 0)))), (n3_, .inl (cJ, 186, .inr (.inl (fun _ => 0)))), (n4_, .inl (cZ, 2, .inl (fun _ => 0))), (n5_, .inl (cI, 80, .inl (fun _ => 0))), (n6_, .inl (cI, 60, .inl (fun _ => 0)))] ++ []) H _ := hW
  refine lv_aload_n hx hb dX10_init_162 rfl (lv_at hl 0 rfl) ?_
  refine xget (ci := 10) (C := RX10) (T := TX10) (N := 10) hx hb hts hin10 hown hK hW.1 0 rfl rfl 0 (by decide) w5 rfl dX10_init_163 ?_
  refine lv_bipush (v := 73) hx hb dX10_init_166 (by decide) ?_
  refine lv_ldc2 hx hb hown w22 dX10_init_168 ?_
  refine xlast hx hb hK hW 1 1 rfl (Nat.le_of_ble_eq_true rfl) rfl (vp_in_iff.mpr ⟨by decide, by decide⟩) 73 rfl dX10_init_171 (fun H locs hW => ?_)
  have hW : xW D A s.heap ([(aM, .inr (10, [.ref n1_, .ref n2_, .ref n3_, .ref n4_, .ref n5_, .int pm, .int sp, .int (bi iw), .ref n6_, .int rn])), (n1_, .inl (cJ, 93, .inr (.inl (vp_updL (vp_updL (vp_updL (vp_updL (vp_updL (vp_updL (vp_updL (vp_updL (vp_updL (vp_updL (vp_updL (vp_updL (fun _ => 0) 78 2000) 84 (-1)) 64 100) 65 10) 66 100) 67 5) 68 300) 69 5000) 70 1000) 71 5) 72 5000) 73 20)))), (n2_, .inl (cJ, 93, .inr (.inl (fun _ => 0)))), (n3_, .inl (cJ, 186, .inr (.inl (fun _ => 0)))), (n4_, .inl (cZ, 2, .inl (fun _ => 0))), (n5_, .inl (cI, 80, .inl (fun _ => 0))), (n6_, .inl (cI, 60, .inl (fun _ => 0)))] ++ []) H _ := hW
  refine lv_aload_n hx hb dX10_init_172 rfl (lv_at hl 0 rfl) ?_
  refine xget (ci := 10) (C := RX10) (T := TX10) (N := 10) hx hb hts hin10 hown hK hW.1 0 rfl rfl 0 (by decide) w5 rfl dX10_init_173 ?_
  refine lv_bipush (v := 74) hx hb dX10_init_176 (by decide) ?_
  refine lv_ldc2 hx hb hown w20 dX10_init_178 ?_
  refine xlast hx hb hK hW 1 1 rfl (Nat.le_of_ble_eq_true rfl) rfl (vp_in_iff.mpr ⟨by decide, by decide⟩) 74 rfl dX10_init_181 (fun H locs hW => ?_)
  have hW : xW D A s.heap ([(aM, .inr (10, [.ref n1_, .ref n2_, .ref n3_, .ref n4_, .ref n5_, .int pm, .int sp, .int (bi iw), .ref n6_, .int rn])), (n1_, .inl (cJ, 93, .inr (.inl (vp_updL (vp_updL (vp_updL (vp_updL (vp_updL (vp_updL (vp_updL (vp_updL (vp_updL (vp_updL (vp_updL (vp_updL (vp_updL (fun _ => 0) 78 2000) 84 (-1)) 64 100) 65 10) 66 100) 67 5) 68 300) 69 5000) 70 1000) 71 5) 72 5000) 73 20) 74 5000)))), (n2_, .inl (cJ, 93, .inr (.inl (fun _ => 0)))), (n3_, .inl (cJ, 186, .inr (.inl (fun _ => 0)))), (n4_, .inl (cZ, 2, .inl (fun _ => 0))), (n5_, .inl (cI, 80, .inl (fun _ => 0))), (n6_, .inl (cI, 60, .inl (fun _ => 0)))] ++ []) H _ := hW
  refine W.widen (k := 6) (n := 514) (Nat.le_of_ble_eq_true rfl) (Nat.le_of_ble_eq_true rfl) ?_
  exact W.vret hx hb hrt (fun t ht hM => ⟨⟨(n1_, n2_, n3_, n4_, n5_, n6_), rfl, trivial, ⟨by rw [ht]; exact hW.1, hW.2.1⟩⟩, hW.2.2.F ht⟩) hW.2.2.2.2 dX10_init_182 hlocks
