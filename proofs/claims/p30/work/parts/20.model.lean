def f_X10_in (a0 : Int64) (a1 : Int64) (a2 : Int64) : Bool :=
  if a0 < a1 then
    false
  else
    if a2 < a0 then
      false
    else
      true
set_option maxHeartbeats 4000000 in
set_option maxRecDepth 100000 in
theorem c_X10_in (l : Launch) (D : va_G) (cI cJ cZ cB : ClassId) (sz : Nat) (a0 : Int64) (a1 : Int64) (a2 : Int64) (o : Bool) (ho : f_X10_in a0 a1 a2 = o) : Met l yX10_in wsX10_in ({ frames := 0, cells := 0, slots := 0, locals := 0 } : Room) (xPre D (xT cI cJ cZ cB) [.long a0, .long a1, .long a2] [] sz) (vp_Si (fun r => r = bi o)) 0 0 (fun _ => False) := by
  refine xofW (Qc := fun _ => vp_Si (fun r => r = bi o)) (fr := fun _ _ => False) (cc := cX10_in) (maxL := 6) (ret := (some .boolean)) (by decide) rfl (Nat.le_of_ble_eq_true rfl) ?_
  intro p e s m below meth c A ⟨hx, hb, hml, hown, hts⟩ hrt hlocks hnm hsz hK hW hA hG ls hl
  have hown : s.vm.findClass RX10 = some m.cls := hown
  have hl : lv_has ls 6 [(0, .long a0), (2, .long a1), (4, .long a2)] := hl
  obtain ⟨H, hH⟩ : ∃ H, H = s.heap := ⟨_, rfl⟩
  have hW : xW D A s.heap ([] ++ []) H [] := by rw [hH]; exact hW
  rw [← hH]
  refine lv_lload_n hx hb dX10_in_0 rfl (lv_at hl 0 rfl) ?_
  refine lv_lload_n hx hb dX10_in_1 rfl (lv_at hl 1 rfl) ?_
  refine xlc_lt (tgt := 17) hx hb dX10_in_2 dX10_in_3 (by decide) (fun c1 => ?_) (fun c1 => ?_)
  · skip
    refine lv_iconst (v := 0) hx hb dX10_in_17 (by decide) ?_
    have hF : f_X10_in a0 a1 a2 = false := by
      rw [f_X10_in, if_pos c1]
    obtain rfl : false = o := hF.symm.trans ho
    exact W.zret (v := bi false) hx hb hrt (bi_nar _) (fun t ht hM => ⟨_, rfl, rfl, ht.trans hH⟩) (fun q h => by cases h) dX10_in_18 hlocks
  · skip
    refine lv_lload_n hx hb dX10_in_6 rfl (lv_at hl 0 rfl) ?_
    refine lv_lload hx hb dX10_in_7 (lv_at hl 2 rfl) ?_
    refine xlc_gt (tgt := 17) hx hb dX10_in_9 dX10_in_10 (by decide) (fun c2 => ?_) (fun c2 => ?_)
    · skip
      refine lv_iconst (v := 0) hx hb dX10_in_17 (by decide) ?_
      have hF : f_X10_in a0 a1 a2 = false := by
        rw [f_X10_in, if_neg c1, if_pos c2]
      obtain rfl : false = o := hF.symm.trans ho
      exact W.zret (v := bi false) hx hb hrt (bi_nar _) (fun t ht hM => ⟨_, rfl, rfl, ht.trans hH⟩) (fun q h => by cases h) dX10_in_18 hlocks
    · skip
      refine lv_iconst (v := 1) hx hb dX10_in_13 (by decide) ?_
      refine lv_goto (tgt := 18) hx hb dX10_in_14 (by decide) ?_
      have hF : f_X10_in a0 a1 a2 = true := by
        rw [f_X10_in, if_neg c1, if_neg c2]
      obtain rfl : true = o := hF.symm.trans ho
      exact W.zret (v := bi true) hx hb hrt (bi_nar _) (fun t ht hM => ⟨_, rfl, rfl, ht.trans hH⟩) (fun q h => by cases h) dX10_in_18 hlocks

theorem xleL {x y : Int64} : x ≤ y ↔ x.toInt ≤ y.toInt := Int64.le_iff_toInt_le
theorem xltL {x y : Int64} : x < y ↔ x.toInt < y.toInt := Int64.lt_iff_toInt_lt
theorem xnltL {x y : Int64} : ¬ x < y ↔ y.toInt ≤ x.toInt := by rw [xltL]; omega
theorem xnleL {x y : Int64} : ¬ x ≤ y ↔ y.toInt < x.toInt := by rw [xleL]; omega
theorem in_iff {x lo hi : Int64} : f_X10_in x lo hi = true ↔ lo.toInt ≤ x.toInt ∧ x.toInt ≤ hi.toInt := by
  unfold f_X10_in
  by_cases h1 : x < lo
  · rw [if_pos h1]
    have := xltL.mp h1
    exact ⟨fun h => absurd h (by decide), fun h => by omega⟩
  · rw [if_neg h1]
    have h3 := xnltL.mp h1
    by_cases h2 : hi < x
    · rw [if_pos h2]
      have := xltL.mp h2
      exact ⟨fun h => absurd h (by decide), fun h => by omega⟩
    · rw [if_neg h2]
      have h4 := xnltL.mp h2
      exact ⟨fun _ => ⟨h3, h4⟩, fun _ => rfl⟩
theorem tL (x : Int32) : x.toInt64.toInt = x.toInt := Int32.toInt_toInt64 x
theorem tI {x : Int64} (h1 : -2147483648 ≤ x.toInt) (h2 : x.toInt < 2147483648) : x.toInt32.toInt = x.toInt := by
  rw [Int64.toInt_toInt32]; exact xbmod h1 h2
/-- the place of a box's number in the reference's row -/
theorem ix_i {a k : Int32} (ha : 0 ≤ a.toInt ∧ a.toInt < 10) (hk : 0 ≤ k.toInt ∧ k.toInt < 4) : (0 + 4 * a + k).toInt = 4 * a.toInt + k.toInt := by
  have e4 : (4 : Int32).toInt = 4 := by decide
  have h1 : (4 * a).toInt = 4 * a.toInt := by rw [xmulI (by rw [e4]; omega) (by rw [e4]; omega), e4]
  rw [Int32.zero_add, xaddI (by rw [h1]; omega) (by rw [h1]; omega), h1]
theorem ix_in {a k : Int32} (ha : 0 ≤ a.toInt ∧ a.toInt < 10) (hk : 0 ≤ k.toInt ∧ k.toInt < 4) : vp_in (0 + 4 * a + k) 93 :=
  vp_in_iff.mpr ⟨by rw [ix_i ha hk]; omega, by rw [ix_i ha hk]; omega⟩
theorem ix_n {a k : Int32} (ha : 0 ≤ a.toInt ∧ a.toInt < 10) (hk : 0 ≤ k.toInt ∧ k.toInt < 4) : (0 + 4 * a + k).toNatClampNeg = 4 * a.toInt.toNat + k.toInt.toNat := by
  show (0 + 4 * a + k).toInt.toNat = _
  rw [ix_i ha hk]; omega
/-- what the reference's row keeps -/
def okM (f : Nat → Int64) : Prop :=
  (0 ≤ (f 75).toInt ∧ (f 75).toInt ≤ 10) ∧ (0 ≤ (f 76).toInt ∧ (f 76).toInt ≤ 12) ∧ (-1 ≤ (f 84).toInt ∧ (f 84).toInt < 12) ∧ (1 ≤ (f 65).toInt ∧ (f 65).toInt ≤ 100) ∧ 1 ≤ (f 73).toInt ∧ 1 ≤ (f 74).toInt ∧ (f 86 = 1 → 0 ≤ (f 84).toInt) ∧ (∀ b : Nat, (b : Int) < (f 75).toInt → 1 ≤ (f (4 * b)).toInt ∧ (f (4 * b)).toInt ≤ 100)
/-- the places that it speaks of -/
def xkey (j : Nat) : Bool := j == 65 || j == 73 || j == 74 || j == 75 || j == 76 || j == 84 || j == 86 || (decide (j < 40) && j % 4 == 0)
theorem okM_ag {f g : Nat → Int64} (h : okM f) (e : ∀ j, xkey j = true → g j = f j) : okM g := by
  have e75 := e 75 rfl
  refine ⟨by rw [e75]; exact h.1, by rw [e 76 rfl]; exact h.2.1, by rw [e 84 rfl]; exact h.2.2.1, by rw [e 65 rfl]; exact h.2.2.2.1, by rw [e 73 rfl]; exact h.2.2.2.2.1, by rw [e 74 rfl]; exact h.2.2.2.2.2.1, by rw [e 86 rfl, e 84 rfl]; exact h.2.2.2.2.2.2.1, fun b hb => ?_⟩
  rw [e75] at hb
  have h1 := h.1
  rw [e (4 * b) (by have : b < 10 := by omega
                    simp [xkey]; omega)]
  exact h.2.2.2.2.2.2.2 b hb
theorem uL_ne {f : Nat → Int64} {k j : Nat} {v : Int64} (h : j ≠ k) : vp_updL f k v j = f j := by
  unfold vp_updL; rw [if_neg h]
theorem uL_eq {f : Nat → Int64} {k : Nat} {v : Int64} : vp_updL f k v k = v := by
  unfold vp_updL; rw [if_pos rfl]
theorem okM_u {f : Nat → Int64} {k : Nat} {v : Int64} (hk : xkey k = false) (h : okM f) : okM (vp_updL f k v) :=
  okM_ag h fun j hj => uL_ne fun q => by rw [q, hk] at hj; cases hj
theorem xkey_f {n : Nat} (h : n < 10) : xkey (4 * n + 1) = false ∧ xkey (4 * n + 2) = false ∧ xkey (4 * n + 3) = false := by
  rcases (show n = 0 ∨ n = 1 ∨ n = 2 ∨ n = 3 ∨ n = 4 ∨ n = 5 ∨ n = 6 ∨ n = 7 ∨ n = 8 ∨ n = 9 by omega) with rfl | rfl | rfl | rfl | rfl | rfl | rfl | rfl | rfl | rfl <;> exact ⟨rfl, rfl, rfl⟩
theorem okM_nb {f : Nat → Int64} (h : okM f) : (f 75).toInt32.toInt = (f 75).toInt := tI (by have := h.1; omega) (by have := h.1; omega)
theorem okM_nl {f : Nat → Int64} (h : okM f) : (f 76).toInt32.toInt = (f 76).toInt := tI (by have := h.2.1; omega) (by have := h.2.1; omega)
theorem okM_la {f : Nat → Int64} (h : okM f) : (f 84).toInt32.toInt = (f 84).toInt := tI (by have := h.2.2.1; omega) (by have := h.2.1; have := h.2.2.1; omega)

def f_X10_of (a0 : Int32) (a1 : Int32) (mf : Nat → Int64) : Int64 :=
  mf ((0 + (4 * a0)) + a1).toNatClampNeg
set_option maxHeartbeats 4000000 in
set_option maxRecDepth 100000 in
theorem c_X10_of (l : Launch) (D : va_G) (cI cJ cZ cB : ClassId) (sz : Nat) (aM : Nat) (mA : Nat) (a0 : Int32) (a1 : Int32) (mB : Nat) (mC : Nat) (mD : Nat) (mE : Nat) (pm : Int32) (sp : Int32) (iw : Bool) (mF : Nat) (rn : Int32) (mf : Nat → Int64) (hix : vp_in (0 + 4 * a0 + a1) 93) (o : Int64) (ho : f_X10_of a0 a1 mf = o) : Met l yX10_of wsX10_of ({ frames := 0, cells := 0, slots := 0, locals := 0 } : Room) (xPre D (xT cI cJ cZ cB) [.ref aM, .int a0, .int a1] [(aM, .inr (10, [.ref mA, .ref mB, .ref mC, .ref mD, .ref mE, .int pm, .int sp, .int (bi iw), .ref mF, .int rn])), (mA, .inl (cJ, 93, .inr (.inl mf)))] sz) (vp_Sl (fun r => r = o)) 0 0 (fun _ => False) := by
  refine xofW (Qc := fun _ => vp_Sl (fun r => r = o)) (fr := fun _ _ => False) (cc := cX10_of) (maxL := 3) (ret := (some .long)) (by decide) rfl (Nat.le_of_ble_eq_true rfl) ?_
  intro p e s m below meth c A ⟨hx, hb, hml, hown, hts⟩ hrt hlocks hnm hsz hK hW hA hG ls hl
  have hown : s.vm.findClass RX10 = some m.cls := hown
  have hl : lv_has ls 3 [(0, .ref aM), (1, .int a0), (2, .int a1)] := hl
  obtain ⟨H, hH⟩ : ∃ H, H = s.heap := ⟨_, rfl⟩
  have hW : xW D A s.heap ([(aM, .inr (10, [.ref mA, .ref mB, .ref mC, .ref mD, .ref mE, .int pm, .int sp, .int (bi iw), .ref mF, .int rn])), (mA, .inl (cJ, 93, .inr (.inl mf)))] ++ []) H [] := by rw [hH]; exact hW
  have w1 := hts (.fieldLink RX10 7 "DryIceLaneModel" "at" "[J") (by decide +kernel)
  have hin10 : ∀ w ∈ u_ws RX10 TX10 10, w ∈ wsX10_of := by decide +kernel
  rw [← hH]
  refine lv_aload_n hx hb dX10_of_0 rfl (lv_at hl 0 rfl) ?_
  refine xget (ci := 10) (C := RX10) (T := TX10) (N := 10) hx hb hts hin10 hown hK hW.1 0 rfl rfl 0 (by decide) w1 rfl dX10_of_1 ?_
  refine lv_iconst (v := 0) hx hb dX10_of_4 (by decide) ?_
  refine lv_iconst (v := 4) hx hb dX10_of_5 (by decide) ?_
  refine lv_iload_n hx hb dX10_of_6 rfl (lv_at hl 1 rfl) ?_
  refine lv_imul hx hb dX10_of_7 ?_
  refine lv_iadd hx hb dX10_of_8 ?_
  refine lv_iload_n hx hb dX10_of_9 rfl (lv_at hl 2 rfl) ?_
  refine lv_iadd hx hb dX10_of_10 ?_
  refine xlald hx hb hK hW.1 1 1 rfl rfl (hix) ((0 + (4 * a0)) + a1).toNatClampNeg rfl (v := mf ((0 + (4 * a0)) + a1).toNatClampNeg) rfl dX10_of_11 ?_
  have hF : f_X10_of a0 a1 mf = mf ((0 + (4 * a0)) + a1).toNatClampNeg := by
    rw [f_X10_of]
  obtain rfl : mf ((0 + (4 * a0)) + a1).toNatClampNeg = o := hF.symm.trans ho
  exact W.lret (v := mf ((0 + (4 * a0)) + a1).toNatClampNeg) hx hb hrt (fun t ht hM => ⟨_, rfl, rfl, ht.trans hH⟩) (fun q h => by cases h) dX10_of_12 hlocks

def f_X10_lay (a0 : Int32) (a1 : Int32) (a2 : Int64) (mf : Nat → Int64) : (Nat → Int64) :=
  vp_updL mf ((0 + (4 * a0)) + a1).toNatClampNeg a2
set_option maxHeartbeats 4000000 in
set_option maxRecDepth 100000 in
theorem c_X10_lay (l : Launch) (D : va_G) (cI cJ cZ cB : ClassId) (sz : Nat) (aM : Nat) (mA : Nat) (a0 : Int32) (a1 : Int32) (a2 : Int64) (mB : Nat) (mC : Nat) (mD : Nat) (mE : Nat) (pm : Int32) (sp : Int32) (iw : Bool) (mF : Nat) (rn : Int32) (mf : Nat → Int64) (hix : vp_in (0 + 4 * a0 + a1) 93) (o : (Nat → Int64)) (ho : f_X10_lay a0 a1 a2 mf = o) : Met l yX10_lay wsX10_lay ({ frames := 0, cells := 0, slots := 0, locals := 0 } : Room) (xPre D (xT cI cJ cZ cB) [.ref aM, .int a0, .int a1, .long a2] [(aM, .inr (10, [.ref mA, .ref mB, .ref mC, .ref mD, .ref mE, .int pm, .int sp, .int (bi iw), .ref mF, .int rn])), (mA, .inl (cJ, 93, .inr (.inl mf)))] sz) (va_Qv (fun _ : Unit => True) (fun _ t => xB D ([(aM, .inr (10, [.ref mA, .ref mB, .ref mC, .ref mD, .ref mE, .int pm, .int sp, .int (bi iw), .ref mF, .int rn])), (mA, .inl (cJ, 93, .inr (.inl o)))]) (va_A [(aM, .inr (10, [.ref mA, .ref mB, .ref mC, .ref mD, .ref mE, .int pm, .int sp, .int (bi iw), .ref mF, .int rn])), (mA, .inl (cJ, 93, .inr (.inl mf)))] sz) t) (va_A [(aM, .inr (10, [.ref mA, .ref mB, .ref mC, .ref mD, .ref mE, .int pm, .int sp, .int (bi iw), .ref mF, .int rn])), (mA, .inl (cJ, 93, .inr (.inl mf)))] sz)) 0 0 (va_A [(aM, .inr (10, [.ref mA, .ref mB, .ref mC, .ref mD, .ref mE, .int pm, .int sp, .int (bi iw), .ref mF, .int rn])), (mA, .inl (cJ, 93, .inr (.inl mf)))] sz) := by
  refine xofW (Qc := fun A0 => va_Qv (fun _ : Unit => True) (fun _ t => xB D ([(aM, .inr (10, [.ref mA, .ref mB, .ref mC, .ref mD, .ref mE, .int pm, .int sp, .int (bi iw), .ref mF, .int rn])), (mA, .inl (cJ, 93, .inr (.inl o)))]) A0 t) A0) (fr := fun A => A) (cc := cX10_lay) (maxL := 5) (ret := none) (by decide) rfl (Nat.le_of_ble_eq_true rfl) ?_
  intro p e s m below meth c A ⟨hx, hb, hml, hown, hts⟩ hrt hlocks hnm hsz hK hW hA hG ls hl
  have hown : s.vm.findClass RX10 = some m.cls := hown
  have hl : lv_has ls 5 [(0, .ref aM), (1, .int a0), (2, .int a1), (3, .long a2)] := hl
  obtain ⟨H, hH⟩ : ∃ H, H = s.heap := ⟨_, rfl⟩
  have hW : xW D A s.heap ([(aM, .inr (10, [.ref mA, .ref mB, .ref mC, .ref mD, .ref mE, .int pm, .int sp, .int (bi iw), .ref mF, .int rn])), (mA, .inl (cJ, 93, .inr (.inl mf)))] ++ []) H [] := by rw [hH]; exact hW
  have w1 := hts (.fieldLink RX10 7 "DryIceLaneModel" "at" "[J") (by decide +kernel)
  have hin10 : ∀ w ∈ u_ws RX10 TX10 10, w ∈ wsX10_lay := by decide +kernel
  rw [← hH]
  refine lv_aload_n hx hb dX10_lay_0 rfl (lv_at hl 0 rfl) ?_
  refine xget (ci := 10) (C := RX10) (T := TX10) (N := 10) hx hb hts hin10 hown hK hW.1 0 rfl rfl 0 (by decide) w1 rfl dX10_lay_1 ?_
  refine lv_iconst (v := 0) hx hb dX10_lay_4 (by decide) ?_
  refine lv_iconst (v := 4) hx hb dX10_lay_5 (by decide) ?_
  refine lv_iload_n hx hb dX10_lay_6 rfl (lv_at hl 1 rfl) ?_
  refine lv_imul hx hb dX10_lay_7 ?_
  refine lv_iadd hx hb dX10_lay_8 ?_
  refine lv_iload_n hx hb dX10_lay_9 rfl (lv_at hl 2 rfl) ?_
  refine lv_iadd hx hb dX10_lay_10 ?_
  refine lv_lload_n hx hb dX10_lay_11 rfl (lv_at hl 3 rfl) ?_
  refine xlast hx hb hK hW 1 1 rfl (Nat.le_of_ble_eq_true rfl) rfl (hix) ((0 + (4 * a0)) + a1).toNatClampNeg rfl dX10_lay_12 (fun H locs hW => ?_)
  have hW : xW D A s.heap ([(aM, .inr (10, [.ref mA, .ref mB, .ref mC, .ref mD, .ref mE, .int pm, .int sp, .int (bi iw), .ref mF, .int rn])), (mA, .inl (cJ, 93, .inr (.inl (vp_updL mf ((0 + (4 * a0)) + a1).toNatClampNeg a2))))] ++ []) H _ := hW
  have hF : f_X10_lay a0 a1 a2 mf = vp_updL mf ((0 + (4 * a0)) + a1).toNatClampNeg a2 := by
    rw [f_X10_lay]
  obtain rfl : vp_updL mf ((0 + (4 * a0)) + a1).toNatClampNeg a2 = o := hF.symm.trans ho
  exact W.vret hx hb hrt (fun t ht hM => ⟨⟨(), rfl, trivial, ⟨by rw [ht]; exact hW.1, hW.2.1⟩⟩, hW.2.2.F ht⟩) hW.2.2.2.2 dX10_lay_13 hlocks

def f_X10_boxes (mf : Nat → Int64) : Int32 :=
  (mf 75).toInt32
set_option maxHeartbeats 4000000 in
set_option maxRecDepth 100000 in
theorem c_X10_boxes (l : Launch) (D : va_G) (cI cJ cZ cB : ClassId) (sz : Nat) (aM : Nat) (mA : Nat) (mB : Nat) (mC : Nat) (mD : Nat) (mE : Nat) (pm : Int32) (sp : Int32) (iw : Bool) (mF : Nat) (rn : Int32) (mf : Nat → Int64) (o : Int32) (ho : f_X10_boxes mf = o) : Met l yX10_boxes wsX10_boxes ({ frames := 0, cells := 0, slots := 0, locals := 0 } : Room) (xPre D (xT cI cJ cZ cB) [.ref aM] [(aM, .inr (10, [.ref mA, .ref mB, .ref mC, .ref mD, .ref mE, .int pm, .int sp, .int (bi iw), .ref mF, .int rn])), (mA, .inl (cJ, 93, .inr (.inl mf)))] sz) (vp_Si (fun r => r = o)) 0 0 (fun _ => False) := by
  refine xofW (Qc := fun _ => vp_Si (fun r => r = o)) (fr := fun _ _ => False) (cc := cX10_boxes) (maxL := 1) (ret := (some .int)) (by decide) rfl (Nat.le_of_ble_eq_true rfl) ?_
  intro p e s m below meth c A ⟨hx, hb, hml, hown, hts⟩ hrt hlocks hnm hsz hK hW hA hG ls hl
  have hown : s.vm.findClass RX10 = some m.cls := hown
  have hl : lv_has ls 1 [(0, .ref aM)] := hl
  obtain ⟨H, hH⟩ : ∃ H, H = s.heap := ⟨_, rfl⟩
  have hW : xW D A s.heap ([(aM, .inr (10, [.ref mA, .ref mB, .ref mC, .ref mD, .ref mE, .int pm, .int sp, .int (bi iw), .ref mF, .int rn])), (mA, .inl (cJ, 93, .inr (.inl mf)))] ++ []) H [] := by rw [hH]; exact hW
  have w1 := hts (.fieldLink RX10 7 "DryIceLaneModel" "at" "[J") (by decide +kernel)
  have hin10 : ∀ w ∈ u_ws RX10 TX10 10, w ∈ wsX10_boxes := by decide +kernel
  rw [← hH]
  refine lv_aload_n hx hb dX10_boxes_0 rfl (lv_at hl 0 rfl) ?_
  refine xget (ci := 10) (C := RX10) (T := TX10) (N := 10) hx hb hts hin10 hown hK hW.1 0 rfl rfl 0 (by decide) w1 rfl dX10_boxes_1 ?_
  refine lv_bipush (v := 75) hx hb dX10_boxes_4 (by decide) ?_
  refine xlald hx hb hK hW.1 1 1 rfl rfl (vp_in_iff.mpr ⟨by decide, by decide⟩) 75 rfl (v := mf 75) rfl dX10_boxes_6 ?_
  refine lv_l2i hx hb dX10_boxes_7 rfl ?_
  have hF : f_X10_boxes mf = (mf 75).toInt32 := by
    rw [f_X10_boxes]
  obtain rfl : (mf 75).toInt32 = o := hF.symm.trans ho
  exact W.iret (v := (mf 75).toInt32) hx hb hrt (fun t ht hM => ⟨_, rfl, rfl, ht.trans hH⟩) (fun q h => by cases h) dX10_boxes_8 hlocks

def f_X10_legs (mf : Nat → Int64) : Int32 :=
  (mf 76).toInt32
set_option maxHeartbeats 4000000 in
set_option maxRecDepth 100000 in
theorem c_X10_legs (l : Launch) (D : va_G) (cI cJ cZ cB : ClassId) (sz : Nat) (aM : Nat) (mA : Nat) (mB : Nat) (mC : Nat) (mD : Nat) (mE : Nat) (pm : Int32) (sp : Int32) (iw : Bool) (mF : Nat) (rn : Int32) (mf : Nat → Int64) (o : Int32) (ho : f_X10_legs mf = o) : Met l yX10_legs wsX10_legs ({ frames := 0, cells := 0, slots := 0, locals := 0 } : Room) (xPre D (xT cI cJ cZ cB) [.ref aM] [(aM, .inr (10, [.ref mA, .ref mB, .ref mC, .ref mD, .ref mE, .int pm, .int sp, .int (bi iw), .ref mF, .int rn])), (mA, .inl (cJ, 93, .inr (.inl mf)))] sz) (vp_Si (fun r => r = o)) 0 0 (fun _ => False) := by
  refine xofW (Qc := fun _ => vp_Si (fun r => r = o)) (fr := fun _ _ => False) (cc := cX10_legs) (maxL := 1) (ret := (some .int)) (by decide) rfl (Nat.le_of_ble_eq_true rfl) ?_
  intro p e s m below meth c A ⟨hx, hb, hml, hown, hts⟩ hrt hlocks hnm hsz hK hW hA hG ls hl
  have hown : s.vm.findClass RX10 = some m.cls := hown
  have hl : lv_has ls 1 [(0, .ref aM)] := hl
  obtain ⟨H, hH⟩ : ∃ H, H = s.heap := ⟨_, rfl⟩
  have hW : xW D A s.heap ([(aM, .inr (10, [.ref mA, .ref mB, .ref mC, .ref mD, .ref mE, .int pm, .int sp, .int (bi iw), .ref mF, .int rn])), (mA, .inl (cJ, 93, .inr (.inl mf)))] ++ []) H [] := by rw [hH]; exact hW
  have w1 := hts (.fieldLink RX10 7 "DryIceLaneModel" "at" "[J") (by decide +kernel)
  have hin10 : ∀ w ∈ u_ws RX10 TX10 10, w ∈ wsX10_legs := by decide +kernel
  rw [← hH]
  refine lv_aload_n hx hb dX10_legs_0 rfl (lv_at hl 0 rfl) ?_
  refine xget (ci := 10) (C := RX10) (T := TX10) (N := 10) hx hb hts hin10 hown hK hW.1 0 rfl rfl 0 (by decide) w1 rfl dX10_legs_1 ?_
  refine lv_bipush (v := 76) hx hb dX10_legs_4 (by decide) ?_
  refine xlald hx hb hK hW.1 1 1 rfl rfl (vp_in_iff.mpr ⟨by decide, by decide⟩) 76 rfl (v := mf 76) rfl dX10_legs_6 ?_
  refine lv_l2i hx hb dX10_legs_7 rfl ?_
  have hF : f_X10_legs mf = (mf 76).toInt32 := by
    rw [f_X10_legs]
  obtain rfl : (mf 76).toInt32 = o := hF.symm.trans ho
  exact W.iret (v := (mf 76).toInt32) hx hb hrt (fun t ht hM => ⟨_, rfl, rfl, ht.trans hH⟩) (fun q h => by cases h) dX10_legs_8 hlocks

def f_X10_isBox (a0 : Int32) (mf : Nat → Int64) : Bool :=
  f_X10_in a0.toInt64 0 ((f_X10_boxes mf) - 1).toInt64
set_option maxHeartbeats 4000000 in
set_option maxRecDepth 100000 in
theorem c_X10_isBox (l : Launch) (D : va_G) (cI cJ cZ cB : ClassId) (sz : Nat) (aM : Nat) (mA : Nat) (a0 : Int32) (mB : Nat) (mC : Nat) (mD : Nat) (mE : Nat) (pm : Int32) (sp : Int32) (iw : Bool) (mF : Nat) (rn : Int32) (mf : Nat → Int64) (o : Bool) (ho : f_X10_isBox a0 mf = o) : Met l yX10_isBox wsX10_isBox ({ frames := 1, cells := 0, slots := 0, locals := 25 } : Room) (xPre D (xT cI cJ cZ cB) [.ref aM, .int a0] [(aM, .inr (10, [.ref mA, .ref mB, .ref mC, .ref mD, .ref mE, .int pm, .int sp, .int (bi iw), .ref mF, .int rn])), (mA, .inl (cJ, 93, .inr (.inl mf)))] sz) (vp_Si (fun r => r = bi o)) 0 0 (fun _ => False) := by
  refine xofW (Qc := fun _ => vp_Si (fun r => r = bi o)) (fr := fun _ _ => False) (cc := cX10_isBox) (maxL := 2) (ret := (some .boolean)) (by decide) rfl (Nat.le_of_ble_eq_true rfl) ?_
  intro p e s m below meth c A ⟨hx, hb, hml, hown, hts⟩ hrt hlocks hnm hsz hK hW hA hG ls hl
  have hown : s.vm.findClass RX10 = some m.cls := hown
  have hl : lv_has ls 2 [(0, .ref aM), (1, .int a0)] := hl
  obtain ⟨H, hH⟩ : ∃ H, H = s.heap := ⟨_, rfl⟩
  have hW : xW D A s.heap ([(aM, .inr (10, [.ref mA, .ref mB, .ref mC, .ref mD, .ref mE, .int pm, .int sp, .int (bi iw), .ref mF, .int rn])), (mA, .inl (cJ, 93, .inr (.inl mf)))] ++ []) H [] := by rw [hH]; exact hW
  rw [← hH]
  refine lv_iload_n hx hb dX10_isBox_0 rfl (lv_at hl 1 rfl) ?_
  refine lv_i2l hx hb dX10_isBox_1 rfl ?_
  refine lv_lconst (v := 0) hx hb dX10_isBox_2 (by decide) ?_
  refine lv_aload_n hx hb dX10_isBox_3 rfl (lv_at hl 0 rfl) ?_
  refine vp_callSi (va_Run.run (xrunV (As := []) (rest := [.long 0, .long a0.toInt64]) ⟨hx, hb, hml, hown, hts⟩ (c_X10_boxes l D cI cJ cZ cB H.size aM mA mB mC mD mE pm sp iw mF rn mf _ rfl) (cwV 0 hts gX10_isBox_X10_boxes rfl rfl rfl (by decide +kernel) ⟨Nat.le_of_ble_eq_true rfl, Nat.le_of_ble_eq_true rfl⟩) hK hG hW.2.2 (xsubQ hW hA [0, 1] rfl (by decide)) (va_recv hK hW.1 (ci := 10) (q0 := 0) rfl rfl) rfl hl.1 rfl (Nat.le_of_ble_eq_true rfl) dX10_isBox_4 ⟨Nat.le_of_ble_eq_true rfl, Nat.le_of_ble_eq_true rfl⟩)) (fun r1 hq => ?_)
  subst hq
  refine lv_iconst (v := 1) hx hb dX10_isBox_7 (by decide) ?_
  refine lv_isub hx hb dX10_isBox_8 ?_
  refine lv_i2l hx hb dX10_isBox_9 rfl ?_
  refine vp_callSi (va_Run.run (xrunS (As := [.long a0.toInt64, .long 0, .long ((f_X10_boxes mf) - 1).toInt64]) (rest := []) ⟨hx, hb, hml, hown, hts⟩ (c_X10_in l D cI cJ cZ cB H.size a0.toInt64 0 ((f_X10_boxes mf) - 1).toInt64 _ rfl) (cwS 3 hts gX10_isBox_X10_in rfl rfl rfl (by decide +kernel) ⟨Nat.le_of_ble_eq_true rfl, Nat.le_of_ble_eq_true rfl⟩) hK hG hW.2.2 (xsubQ hW hA [] rfl (by decide)) rfl hl.1 rfl (Nat.le_of_ble_eq_true rfl) dX10_isBox_10 ⟨Nat.le_of_ble_eq_true rfl, Nat.le_of_ble_eq_true rfl⟩)) (fun r2 hq => ?_)
  subst hq
  have hF : f_X10_isBox a0 mf = f_X10_in a0.toInt64 0 ((f_X10_boxes mf) - 1).toInt64 := by
    rw [f_X10_isBox]
  obtain rfl : f_X10_in a0.toInt64 0 ((f_X10_boxes mf) - 1).toInt64 = o := hF.symm.trans ho
  exact W.zret (v := bi (f_X10_in a0.toInt64 0 ((f_X10_boxes mf) - 1).toInt64)) hx hb hrt (bi_nar _) (fun t ht hM => ⟨_, rfl, rfl, ht.trans hH⟩) (fun q h => by cases h) dX10_isBox_13 hlocks

theorem isBox_in {a : Int32} {f : Nat → Int64} (h : f_X10_isBox a f = true) (hok : okM f) : 0 ≤ a.toInt ∧ a.toInt < (f 75).toInt ∧ a.toInt < 10 := by
  obtain ⟨h1, h2⟩ := in_iff.mp h
  rw [tL] at h1 h2
  rw [tL] at h2
  have e1 := xI1
  have h3 := okM_nb hok
  have h4 := hok.1
  unfold f_X10_boxes at h2
  rw [xsubI (by omega) (by omega), h3, e1] at h2
  have e0 : (0 : Int64).toInt = 0 := by decide
  omega
theorem isBox_10 {a : Int32} {f : Nat → Int64} (h : f_X10_isBox a f = true) (hok : okM f) : 0 ≤ a.toInt ∧ a.toInt < 10 := ⟨(isBox_in h hok).1, (isBox_in h hok).2.2⟩

def f_X10_isDoorOpen (mf : Nat → Int64) : Bool :=
  if (mf 83) = 1 then
    true
  else
    false
set_option maxHeartbeats 4000000 in
set_option maxRecDepth 100000 in
theorem c_X10_isDoorOpen (l : Launch) (D : va_G) (cI cJ cZ cB : ClassId) (sz : Nat) (aM : Nat) (mA : Nat) (mB : Nat) (mC : Nat) (mD : Nat) (mE : Nat) (pm : Int32) (sp : Int32) (iw : Bool) (mF : Nat) (rn : Int32) (mf : Nat → Int64) (o : Bool) (ho : f_X10_isDoorOpen mf = o) : Met l yX10_isDoorOpen wsX10_isDoorOpen ({ frames := 0, cells := 0, slots := 0, locals := 0 } : Room) (xPre D (xT cI cJ cZ cB) [.ref aM] [(aM, .inr (10, [.ref mA, .ref mB, .ref mC, .ref mD, .ref mE, .int pm, .int sp, .int (bi iw), .ref mF, .int rn])), (mA, .inl (cJ, 93, .inr (.inl mf)))] sz) (vp_Si (fun r => r = bi o)) 0 0 (fun _ => False) := by
  refine xofW (Qc := fun _ => vp_Si (fun r => r = bi o)) (fr := fun _ _ => False) (cc := cX10_isDoorOpen) (maxL := 1) (ret := (some .boolean)) (by decide) rfl (Nat.le_of_ble_eq_true rfl) ?_
  intro p e s m below meth c A ⟨hx, hb, hml, hown, hts⟩ hrt hlocks hnm hsz hK hW hA hG ls hl
  have hown : s.vm.findClass RX10 = some m.cls := hown
  have hl : lv_has ls 1 [(0, .ref aM)] := hl
  obtain ⟨H, hH⟩ : ∃ H, H = s.heap := ⟨_, rfl⟩
  have hW : xW D A s.heap ([(aM, .inr (10, [.ref mA, .ref mB, .ref mC, .ref mD, .ref mE, .int pm, .int sp, .int (bi iw), .ref mF, .int rn])), (mA, .inl (cJ, 93, .inr (.inl mf)))] ++ []) H [] := by rw [hH]; exact hW
  have w1 := hts (.fieldLink RX10 7 "DryIceLaneModel" "at" "[J") (by decide +kernel)
  have hin10 : ∀ w ∈ u_ws RX10 TX10 10, w ∈ wsX10_isDoorOpen := by decide +kernel
  rw [← hH]
  refine lv_aload_n hx hb dX10_isDoorOpen_0 rfl (lv_at hl 0 rfl) ?_
  refine xget (ci := 10) (C := RX10) (T := TX10) (N := 10) hx hb hts hin10 hown hK hW.1 0 rfl rfl 0 (by decide) w1 rfl dX10_isDoorOpen_1 ?_
  refine lv_bipush (v := 83) hx hb dX10_isDoorOpen_4 (by decide) ?_
  refine xlald hx hb hK hW.1 1 1 rfl rfl (vp_in_iff.mpr ⟨by decide, by decide⟩) 83 rfl (v := mf 83) rfl dX10_isDoorOpen_6 ?_
  refine lv_lconst (v := 1) hx hb dX10_isDoorOpen_7 (by decide) ?_
  refine xlc_ne (tgt := 16) hx hb dX10_isDoorOpen_8 dX10_isDoorOpen_9 (by decide) (fun c1 => ?_) (fun c1 => ?_)
  · skip
    refine lv_iconst (v := 0) hx hb dX10_isDoorOpen_16 (by decide) ?_
    have hF : f_X10_isDoorOpen mf = false := by
      rw [f_X10_isDoorOpen, if_neg c1]
    obtain rfl : false = o := hF.symm.trans ho
    exact W.zret (v := bi false) hx hb hrt (bi_nar _) (fun t ht hM => ⟨_, rfl, rfl, ht.trans hH⟩) (fun q h => by cases h) dX10_isDoorOpen_17 hlocks
  · skip
    refine lv_iconst (v := 1) hx hb dX10_isDoorOpen_12 (by decide) ?_
    refine lv_goto (tgt := 17) hx hb dX10_isDoorOpen_13 (by decide) ?_
    have hF : f_X10_isDoorOpen mf = true := by
      rw [f_X10_isDoorOpen, if_pos c1]
    obtain rfl : true = o := hF.symm.trans ho
    exact W.zret (v := bi true) hx hb hrt (bi_nar _) (fun t ht hM => ⟨_, rfl, rfl, ht.trans hH⟩) (fun q h => by cases h) dX10_isDoorOpen_17 hlocks

def f_X10_isAway (mf : Nat → Int64) : Bool :=
  if (mf 86) = 1 then
    true
  else
    false
set_option maxHeartbeats 4000000 in
set_option maxRecDepth 100000 in
theorem c_X10_isAway (l : Launch) (D : va_G) (cI cJ cZ cB : ClassId) (sz : Nat) (aM : Nat) (mA : Nat) (mB : Nat) (mC : Nat) (mD : Nat) (mE : Nat) (pm : Int32) (sp : Int32) (iw : Bool) (mF : Nat) (rn : Int32) (mf : Nat → Int64) (o : Bool) (ho : f_X10_isAway mf = o) : Met l yX10_isAway wsX10_isAway ({ frames := 0, cells := 0, slots := 0, locals := 0 } : Room) (xPre D (xT cI cJ cZ cB) [.ref aM] [(aM, .inr (10, [.ref mA, .ref mB, .ref mC, .ref mD, .ref mE, .int pm, .int sp, .int (bi iw), .ref mF, .int rn])), (mA, .inl (cJ, 93, .inr (.inl mf)))] sz) (vp_Si (fun r => r = bi o)) 0 0 (fun _ => False) := by
  refine xofW (Qc := fun _ => vp_Si (fun r => r = bi o)) (fr := fun _ _ => False) (cc := cX10_isAway) (maxL := 1) (ret := (some .boolean)) (by decide) rfl (Nat.le_of_ble_eq_true rfl) ?_
  intro p e s m below meth c A ⟨hx, hb, hml, hown, hts⟩ hrt hlocks hnm hsz hK hW hA hG ls hl
  have hown : s.vm.findClass RX10 = some m.cls := hown
  have hl : lv_has ls 1 [(0, .ref aM)] := hl
  obtain ⟨H, hH⟩ : ∃ H, H = s.heap := ⟨_, rfl⟩
  have hW : xW D A s.heap ([(aM, .inr (10, [.ref mA, .ref mB, .ref mC, .ref mD, .ref mE, .int pm, .int sp, .int (bi iw), .ref mF, .int rn])), (mA, .inl (cJ, 93, .inr (.inl mf)))] ++ []) H [] := by rw [hH]; exact hW
  have w1 := hts (.fieldLink RX10 7 "DryIceLaneModel" "at" "[J") (by decide +kernel)
  have hin10 : ∀ w ∈ u_ws RX10 TX10 10, w ∈ wsX10_isAway := by decide +kernel
  rw [← hH]
  refine lv_aload_n hx hb dX10_isAway_0 rfl (lv_at hl 0 rfl) ?_
  refine xget (ci := 10) (C := RX10) (T := TX10) (N := 10) hx hb hts hin10 hown hK hW.1 0 rfl rfl 0 (by decide) w1 rfl dX10_isAway_1 ?_
  refine lv_bipush (v := 86) hx hb dX10_isAway_4 (by decide) ?_
  refine xlald hx hb hK hW.1 1 1 rfl rfl (vp_in_iff.mpr ⟨by decide, by decide⟩) 86 rfl (v := mf 86) rfl dX10_isAway_6 ?_
  refine lv_lconst (v := 1) hx hb dX10_isAway_7 (by decide) ?_
  refine xlc_ne (tgt := 16) hx hb dX10_isAway_8 dX10_isAway_9 (by decide) (fun c1 => ?_) (fun c1 => ?_)
  · skip
    refine lv_iconst (v := 0) hx hb dX10_isAway_16 (by decide) ?_
    have hF : f_X10_isAway mf = false := by
      rw [f_X10_isAway, if_neg c1]
    obtain rfl : false = o := hF.symm.trans ho
    exact W.zret (v := bi false) hx hb hrt (bi_nar _) (fun t ht hM => ⟨_, rfl, rfl, ht.trans hH⟩) (fun q h => by cases h) dX10_isAway_17 hlocks
  · skip
    refine lv_iconst (v := 1) hx hb dX10_isAway_12 (by decide) ?_
    refine lv_goto (tgt := 17) hx hb dX10_isAway_13 (by decide) ?_
    have hF : f_X10_isAway mf = true := by
      rw [f_X10_isAway, if_pos c1]
    obtain rfl : true = o := hF.symm.trans ho
    exact W.zret (v := bi true) hx hb hrt (bi_nar _) (fun t ht hM => ⟨_, rfl, rfl, ht.trans hH⟩) (fun q h => by cases h) dX10_isAway_17 hlocks

def f_X10_putAside_lp2 (mf : Nat → Int64) : Nat → Int32 → (Nat → Int64) → (Nat → Int64)
  | 0, _, _ => (fun _ => 0)
  | n + 1, xi, yf =>
    if 93 ≤ xi then
      yf
    else
      f_X10_putAside_lp2 mf n (xi + 1) (vp_updL yf xi.toNatClampNeg (mf xi.toNatClampNeg))
def f_X10_putAside (mf : Nat → Int64) (mg : Nat → Int64) : (Nat → Int64) :=
  f_X10_putAside_lp2 mf (((93 : Int32).toInt - (0 : Int32).toInt).toNat + 1) 0 mg
set_option maxHeartbeats 4000000 in
set_option maxRecDepth 100000 in
theorem c_X10_putAside (l : Launch) (D : va_G) (cI cJ cZ cB : ClassId) (sz : Nat) (aM : Nat) (mA : Nat) (mB : Nat) (mC : Nat) (mD : Nat) (mE : Nat) (pm : Int32) (sp : Int32) (iw : Bool) (mF : Nat) (rn : Int32) (mf : Nat → Int64) (mg : Nat → Int64) (o : (Nat → Int64)) (ho : f_X10_putAside mf mg = o) : Met l yX10_putAside wsX10_putAside ({ frames := 0, cells := 0, slots := 0, locals := 0 } : Room) (xPre D (xT cI cJ cZ cB) [.ref aM] [(aM, .inr (10, [.ref mA, .ref mB, .ref mC, .ref mD, .ref mE, .int pm, .int sp, .int (bi iw), .ref mF, .int rn])), (mA, .inl (cJ, 93, .inr (.inl mf))), (mB, .inl (cJ, 93, .inr (.inl mg)))] sz) (va_Qv (fun _ : Unit => True) (fun _ t => xB D ([(aM, .inr (10, [.ref mA, .ref mB, .ref mC, .ref mD, .ref mE, .int pm, .int sp, .int (bi iw), .ref mF, .int rn])), (mA, .inl (cJ, 93, .inr (.inl mf))), (mB, .inl (cJ, 93, .inr (.inl o)))]) (va_A [(aM, .inr (10, [.ref mA, .ref mB, .ref mC, .ref mD, .ref mE, .int pm, .int sp, .int (bi iw), .ref mF, .int rn])), (mA, .inl (cJ, 93, .inr (.inl mf))), (mB, .inl (cJ, 93, .inr (.inl mg)))] sz) t) (va_A [(aM, .inr (10, [.ref mA, .ref mB, .ref mC, .ref mD, .ref mE, .int pm, .int sp, .int (bi iw), .ref mF, .int rn])), (mA, .inl (cJ, 93, .inr (.inl mf))), (mB, .inl (cJ, 93, .inr (.inl mg)))] sz)) 0 0 (va_A [(aM, .inr (10, [.ref mA, .ref mB, .ref mC, .ref mD, .ref mE, .int pm, .int sp, .int (bi iw), .ref mF, .int rn])), (mA, .inl (cJ, 93, .inr (.inl mf))), (mB, .inl (cJ, 93, .inr (.inl mg)))] sz) := by
  refine xofW (Qc := fun A0 => va_Qv (fun _ : Unit => True) (fun _ t => xB D ([(aM, .inr (10, [.ref mA, .ref mB, .ref mC, .ref mD, .ref mE, .int pm, .int sp, .int (bi iw), .ref mF, .int rn])), (mA, .inl (cJ, 93, .inr (.inl mf))), (mB, .inl (cJ, 93, .inr (.inl o)))]) A0 t) A0) (fr := fun A => A) (cc := cX10_putAside) (maxL := 2) (ret := none) (by decide) rfl (Nat.le_of_ble_eq_true rfl) ?_
  intro p e s m below meth c A ⟨hx, hb, hml, hown, hts⟩ hrt hlocks hnm hsz hK hW hA hG ls hl
  have hown : s.vm.findClass RX10 = some m.cls := hown
  have hl : lv_has ls 2 [(0, .ref aM)] := hl
  obtain ⟨H, hH⟩ : ∃ H, H = s.heap := ⟨_, rfl⟩
  have hW : xW D A s.heap ([(aM, .inr (10, [.ref mA, .ref mB, .ref mC, .ref mD, .ref mE, .int pm, .int sp, .int (bi iw), .ref mF, .int rn])), (mA, .inl (cJ, 93, .inr (.inl mf))), (mB, .inl (cJ, 93, .inr (.inl mg)))] ++ []) H [] := by rw [hH]; exact hW
  have w1 := hts (.fieldLink RX10 13 "DryIceLaneModel" "aside" "[J") (by decide +kernel)
  have hin10 : ∀ w ∈ u_ws RX10 TX10 10, w ∈ wsX10_putAside := by decide +kernel
  have w3 := hts (.fieldLink RX10 7 "DryIceLaneModel" "at" "[J") (by decide +kernel)
  rw [← hH]
  refine lv_iconst (v := 0) hx hb dX10_putAside_0 (by decide) ?_
  refine lv_istore_n (lv' := [(1, .int 0), (0, .ref aM)]) hx hb dX10_putAside_1 rfl hl (by decide) rfl (fun ls hl => ?_)
  have hl2_ : ∀ (n : Nat) (xi : Int32) (yf : Nat → Int64), f_X10_putAside_lp2 mf n xi yf = o → (0 ≤ xi.toInt) → ((93 : Int32).toInt - xi.toInt).toNat < n → ∀ (H : Heap) (locs : List Loc) (ls : Array Slot), xW D A s.heap ([(aM, .inr (10, [.ref mA, .ref mB, .ref mC, .ref mD, .ref mE, .int pm, .int sp, .int (bi iw), .ref mF, .int rn])), (mA, .inl (cJ, 93, .inr (.inl mf))), (mB, .inl (cJ, 93, .inr (.inl yf)))] ++ []) H locs → lv_has ls 2 [(0, .ref aM), (1, .int xi)] → W p l e ({ frames := 0, cells := 0, slots := 0, locals := 0 } : Room) s m [.ref aM].toArray below meth c H locs 0 0 (MQ below (va_Qv (fun _ : Unit => True) (fun _ t => xB D ([(aM, .inr (10, [.ref mA, .ref mB, .ref mC, .ref mD, .ref mE, .int pm, .int sp, .int (bi iw), .ref mF, .int rn])), (mA, .inl (cJ, 93, .inr (.inl mf))), (mB, .inl (cJ, 93, .inr (.inl o)))]) A t) A) [.ref aM].toArray s 0 0 A) (F0 m 2 ls []) := by
    intro n
    induction n with
    | zero =>
      intro xi yf _ _ hm
      exact absurd hm (Nat.not_lt_zero _)
    | succ n ih2 =>
      intro xi yf hlp2 hi0 hm2 H locs ls hW hl
      refine lv_iload_n hx hb dX10_putAside_2 rfl (lv_at hl 1 rfl) ?_
      refine lv_bipush (v := 93) hx hb dX10_putAside_3 (by decide) ?_
      refine lv_icmp_ge (tgt := 26) hx hb dX10_putAside_5 (by decide) (fun c1 => ?_) (fun c1 => ?_)
      · skip
        have hF : f_X10_putAside_lp2 mf (n + 1) xi yf = yf := by
          rw [f_X10_putAside_lp2, if_pos c1]
        obtain rfl : yf = o := hF.symm.trans hlp2
        exact W.vret hx hb hrt (fun t ht hM => ⟨⟨(), rfl, trivial, ⟨by rw [ht]; exact hW.1, hW.2.1⟩⟩, hW.2.2.F ht⟩) hW.2.2.2.2 dX10_putAside_26 hlocks
      · skip
        refine lv_aload_n hx hb dX10_putAside_8 rfl (lv_at hl 0 rfl) ?_
        refine xget (ci := 10) (C := RX10) (T := TX10) (N := 10) hx hb hts hin10 hown hK hW.1 0 rfl rfl 1 (by decide) w1 rfl dX10_putAside_9 ?_
        refine lv_iload_n hx hb dX10_putAside_12 rfl (lv_at hl 1 rfl) ?_
        refine lv_aload_n hx hb dX10_putAside_13 rfl (lv_at hl 0 rfl) ?_
        refine xget (ci := 10) (C := RX10) (T := TX10) (N := 10) hx hb hts hin10 hown hK hW.1 0 rfl rfl 0 (by decide) w3 rfl dX10_putAside_14 ?_
        refine lv_iload_n hx hb dX10_putAside_17 rfl (lv_at hl 1 rfl) ?_
        refine xlald hx hb hK hW.1 1 1 rfl rfl (in_lt hi0 c1 (by decide)) xi.toNatClampNeg rfl (v := mf xi.toNatClampNeg) rfl dX10_putAside_18 ?_
        refine xlast hx hb hK hW 2 1 rfl (Nat.le_of_ble_eq_true rfl) rfl (in_lt hi0 c1 (by decide)) xi.toNatClampNeg rfl dX10_putAside_19 (fun H locs hW => ?_)
        have hW : xW D A s.heap ([(aM, .inr (10, [.ref mA, .ref mB, .ref mC, .ref mD, .ref mE, .int pm, .int sp, .int (bi iw), .ref mF, .int rn])), (mA, .inl (cJ, 93, .inr (.inl mf))), (mB, .inl (cJ, 93, .inr (.inl (vp_updL yf xi.toNatClampNeg (mf xi.toNatClampNeg)))))] ++ []) H _ := hW
        refine lv_iinc (v := xi + 1) (lv' := [(1, .int (xi + 1)), (0, .ref aM)]) hx hb dX10_putAside_20 hl (k := 1) rfl rfl (by decide) rfl (fun ls hl => ?_)
        refine lv_goto (tgt := 2) hx hb dX10_putAside_23 (by decide) ?_
        have hF : f_X10_putAside_lp2 mf (n + 1) xi yf = f_X10_putAside_lp2 mf n (xi + 1) (vp_updL yf xi.toNatClampNeg (mf xi.toNatClampNeg)) := by
          rw [f_X10_putAside_lp2, if_neg c1]
        refine W.widen (k := 0) (n := 0) (Nat.le_of_ble_eq_true rfl) (Nat.le_of_ble_eq_true rfl) ?_
        exact ih2 (xi + 1) (vp_updL yf xi.toNatClampNeg (mf xi.toNatClampNeg)) (hF.symm.trans hlp2) (up_0 hi0 c1) (up_mu c1 hm2) _ _ _ hW (lv_sub hl [1, 0] rfl)
  have hF : f_X10_putAside mf mg = f_X10_putAside_lp2 mf (((93 : Int32).toInt - (0 : Int32).toInt).toNat + 1) 0 mg := by
    rw [f_X10_putAside]
  refine W.widen (k := 0) (n := 0) (Nat.le_of_ble_eq_true rfl) (Nat.le_of_ble_eq_true rfl) ?_
  exact hl2_ (((93 : Int32).toInt - (0 : Int32).toInt).toNat + 1) 0 mg (hF.symm.trans ho) (by decide) (Nat.lt_succ_self _) _ _ _ hW (lv_sub hl [1, 0] rfl)

def f_X10_putBack_lp2 (mg : Nat → Int64) : Nat → Int32 → (Nat → Int64) → (Nat → Int64)
  | 0, _, _ => (fun _ => 0)
  | n + 1, xi, yf =>
    if 93 ≤ xi then
      yf
    else
      f_X10_putBack_lp2 mg n (xi + 1) (vp_updL yf xi.toNatClampNeg (mg xi.toNatClampNeg))
def f_X10_putBack (mf : Nat → Int64) (mg : Nat → Int64) : (Nat → Int64) :=
  f_X10_putBack_lp2 mg (((93 : Int32).toInt - (0 : Int32).toInt).toNat + 1) 0 mf
set_option maxHeartbeats 4000000 in
set_option maxRecDepth 100000 in
theorem c_X10_putBack (l : Launch) (D : va_G) (cI cJ cZ cB : ClassId) (sz : Nat) (aM : Nat) (mA : Nat) (mB : Nat) (mC : Nat) (mD : Nat) (mE : Nat) (pm : Int32) (sp : Int32) (iw : Bool) (mF : Nat) (rn : Int32) (mf : Nat → Int64) (mg : Nat → Int64) (o : (Nat → Int64)) (ho : f_X10_putBack mf mg = o) : Met l yX10_putBack wsX10_putBack ({ frames := 0, cells := 0, slots := 0, locals := 0 } : Room) (xPre D (xT cI cJ cZ cB) [.ref aM] [(aM, .inr (10, [.ref mA, .ref mB, .ref mC, .ref mD, .ref mE, .int pm, .int sp, .int (bi iw), .ref mF, .int rn])), (mA, .inl (cJ, 93, .inr (.inl mf))), (mB, .inl (cJ, 93, .inr (.inl mg)))] sz) (va_Qv (fun _ : Unit => True) (fun _ t => xB D ([(aM, .inr (10, [.ref mA, .ref mB, .ref mC, .ref mD, .ref mE, .int pm, .int sp, .int (bi iw), .ref mF, .int rn])), (mA, .inl (cJ, 93, .inr (.inl o))), (mB, .inl (cJ, 93, .inr (.inl mg)))]) (va_A [(aM, .inr (10, [.ref mA, .ref mB, .ref mC, .ref mD, .ref mE, .int pm, .int sp, .int (bi iw), .ref mF, .int rn])), (mA, .inl (cJ, 93, .inr (.inl mf))), (mB, .inl (cJ, 93, .inr (.inl mg)))] sz) t) (va_A [(aM, .inr (10, [.ref mA, .ref mB, .ref mC, .ref mD, .ref mE, .int pm, .int sp, .int (bi iw), .ref mF, .int rn])), (mA, .inl (cJ, 93, .inr (.inl mf))), (mB, .inl (cJ, 93, .inr (.inl mg)))] sz)) 0 0 (va_A [(aM, .inr (10, [.ref mA, .ref mB, .ref mC, .ref mD, .ref mE, .int pm, .int sp, .int (bi iw), .ref mF, .int rn])), (mA, .inl (cJ, 93, .inr (.inl mf))), (mB, .inl (cJ, 93, .inr (.inl mg)))] sz) := by
  refine xofW (Qc := fun A0 => va_Qv (fun _ : Unit => True) (fun _ t => xB D ([(aM, .inr (10, [.ref mA, .ref mB, .ref mC, .ref mD, .ref mE, .int pm, .int sp, .int (bi iw), .ref mF, .int rn])), (mA, .inl (cJ, 93, .inr (.inl o))), (mB, .inl (cJ, 93, .inr (.inl mg)))]) A0 t) A0) (fr := fun A => A) (cc := cX10_putBack) (maxL := 2) (ret := none) (by decide) rfl (Nat.le_of_ble_eq_true rfl) ?_
  intro p e s m below meth c A ⟨hx, hb, hml, hown, hts⟩ hrt hlocks hnm hsz hK hW hA hG ls hl
  have hown : s.vm.findClass RX10 = some m.cls := hown
  have hl : lv_has ls 2 [(0, .ref aM)] := hl
  obtain ⟨H, hH⟩ : ∃ H, H = s.heap := ⟨_, rfl⟩
  have hW : xW D A s.heap ([(aM, .inr (10, [.ref mA, .ref mB, .ref mC, .ref mD, .ref mE, .int pm, .int sp, .int (bi iw), .ref mF, .int rn])), (mA, .inl (cJ, 93, .inr (.inl mf))), (mB, .inl (cJ, 93, .inr (.inl mg)))] ++ []) H [] := by rw [hH]; exact hW
  have w1 := hts (.fieldLink RX10 7 "DryIceLaneModel" "at" "[J") (by decide +kernel)
  have hin10 : ∀ w ∈ u_ws RX10 TX10 10, w ∈ wsX10_putBack := by decide +kernel
  have w3 := hts (.fieldLink RX10 13 "DryIceLaneModel" "aside" "[J") (by decide +kernel)
  rw [← hH]
  refine lv_iconst (v := 0) hx hb dX10_putBack_0 (by decide) ?_
  refine lv_istore_n (lv' := [(1, .int 0), (0, .ref aM)]) hx hb dX10_putBack_1 rfl hl (by decide) rfl (fun ls hl => ?_)
  have hl2_ : ∀ (n : Nat) (xi : Int32) (yf : Nat → Int64), f_X10_putBack_lp2 mg n xi yf = o → (0 ≤ xi.toInt) → ((93 : Int32).toInt - xi.toInt).toNat < n → ∀ (H : Heap) (locs : List Loc) (ls : Array Slot), xW D A s.heap ([(aM, .inr (10, [.ref mA, .ref mB, .ref mC, .ref mD, .ref mE, .int pm, .int sp, .int (bi iw), .ref mF, .int rn])), (mA, .inl (cJ, 93, .inr (.inl yf))), (mB, .inl (cJ, 93, .inr (.inl mg)))] ++ []) H locs → lv_has ls 2 [(0, .ref aM), (1, .int xi)] → W p l e ({ frames := 0, cells := 0, slots := 0, locals := 0 } : Room) s m [.ref aM].toArray below meth c H locs 0 0 (MQ below (va_Qv (fun _ : Unit => True) (fun _ t => xB D ([(aM, .inr (10, [.ref mA, .ref mB, .ref mC, .ref mD, .ref mE, .int pm, .int sp, .int (bi iw), .ref mF, .int rn])), (mA, .inl (cJ, 93, .inr (.inl o))), (mB, .inl (cJ, 93, .inr (.inl mg)))]) A t) A) [.ref aM].toArray s 0 0 A) (F0 m 2 ls []) := by
    intro n
    induction n with
    | zero =>
      intro xi yf _ _ hm
      exact absurd hm (Nat.not_lt_zero _)
    | succ n ih2 =>
      intro xi yf hlp2 hi0 hm2 H locs ls hW hl
      refine lv_iload_n hx hb dX10_putBack_2 rfl (lv_at hl 1 rfl) ?_
      refine lv_bipush (v := 93) hx hb dX10_putBack_3 (by decide) ?_
      refine lv_icmp_ge (tgt := 26) hx hb dX10_putBack_5 (by decide) (fun c1 => ?_) (fun c1 => ?_)
      · skip
        have hF : f_X10_putBack_lp2 mg (n + 1) xi yf = yf := by
          rw [f_X10_putBack_lp2, if_pos c1]
        obtain rfl : yf = o := hF.symm.trans hlp2
        exact W.vret hx hb hrt (fun t ht hM => ⟨⟨(), rfl, trivial, ⟨by rw [ht]; exact hW.1, hW.2.1⟩⟩, hW.2.2.F ht⟩) hW.2.2.2.2 dX10_putBack_26 hlocks
      · skip
        refine lv_aload_n hx hb dX10_putBack_8 rfl (lv_at hl 0 rfl) ?_
        refine xget (ci := 10) (C := RX10) (T := TX10) (N := 10) hx hb hts hin10 hown hK hW.1 0 rfl rfl 0 (by decide) w1 rfl dX10_putBack_9 ?_
        refine lv_iload_n hx hb dX10_putBack_12 rfl (lv_at hl 1 rfl) ?_
        refine lv_aload_n hx hb dX10_putBack_13 rfl (lv_at hl 0 rfl) ?_
        refine xget (ci := 10) (C := RX10) (T := TX10) (N := 10) hx hb hts hin10 hown hK hW.1 0 rfl rfl 1 (by decide) w3 rfl dX10_putBack_14 ?_
        refine lv_iload_n hx hb dX10_putBack_17 rfl (lv_at hl 1 rfl) ?_
        refine xlald hx hb hK hW.1 2 1 rfl rfl (in_lt hi0 c1 (by decide)) xi.toNatClampNeg rfl (v := mg xi.toNatClampNeg) rfl dX10_putBack_18 ?_
        refine xlast hx hb hK hW 1 1 rfl (Nat.le_of_ble_eq_true rfl) rfl (in_lt hi0 c1 (by decide)) xi.toNatClampNeg rfl dX10_putBack_19 (fun H locs hW => ?_)
        have hW : xW D A s.heap ([(aM, .inr (10, [.ref mA, .ref mB, .ref mC, .ref mD, .ref mE, .int pm, .int sp, .int (bi iw), .ref mF, .int rn])), (mA, .inl (cJ, 93, .inr (.inl (vp_updL yf xi.toNatClampNeg (mg xi.toNatClampNeg))))), (mB, .inl (cJ, 93, .inr (.inl mg)))] ++ []) H _ := hW
        refine lv_iinc (v := xi + 1) (lv' := [(1, .int (xi + 1)), (0, .ref aM)]) hx hb dX10_putBack_20 hl (k := 1) rfl rfl (by decide) rfl (fun ls hl => ?_)
        refine lv_goto (tgt := 2) hx hb dX10_putBack_23 (by decide) ?_
        have hF : f_X10_putBack_lp2 mg (n + 1) xi yf = f_X10_putBack_lp2 mg n (xi + 1) (vp_updL yf xi.toNatClampNeg (mg xi.toNatClampNeg)) := by
          rw [f_X10_putBack_lp2, if_neg c1]
        refine W.widen (k := 0) (n := 0) (Nat.le_of_ble_eq_true rfl) (Nat.le_of_ble_eq_true rfl) ?_
        exact ih2 (xi + 1) (vp_updL yf xi.toNatClampNeg (mg xi.toNatClampNeg)) (hF.symm.trans hlp2) (up_0 hi0 c1) (up_mu c1 hm2) _ _ _ hW (lv_sub hl [1, 0] rfl)
  have hF : f_X10_putBack mf mg = f_X10_putBack_lp2 mg (((93 : Int32).toInt - (0 : Int32).toInt).toNat + 1) 0 mf := by
    rw [f_X10_putBack]
  refine W.widen (k := 0) (n := 0) (Nat.le_of_ble_eq_true rfl) (Nat.le_of_ble_eq_true rfl) ?_
  exact hl2_ (((93 : Int32).toInt - (0 : Int32).toInt).toNat + 1) 0 mf (hF.symm.trans ho) (by decide) (Nat.lt_succ_self _) _ _ _ hW (lv_sub hl [1, 0] rfl)

theorem d2v {v : Int64} (h : 1 ≤ v.toInt ∧ v.toInt ≤ 100) : ¬ (2 : Int64) * v = 0 := by
  intro q
  have e2 : (2 : Int64).toInt = 2 := by decide
  have h1 : ((2 : Int64) * v).toInt = 2 * v.toInt := by
    rw [Int64.toInt_mul, e2, Int.bmod_eq_of_le (by omega) (by omega)]
  rw [q] at h1
  have e0 : (0 : Int64).toInt = 0 := by decide
  omega
theorem d1v {v : Int64} (h : 1 ≤ v.toInt) : ¬ v = 0 := by
  intro q
  rw [q] at h
  exact absurd h (by decide)
theorem d100v {v : Int64} (h : 1 ≤ v.toInt ∧ v.toInt ≤ 100) : ¬ (100 : Int64) * v = 0 := by
  intro q
  have e2 : (100 : Int64).toInt = 100 := by decide
  have h1 : ((100 : Int64) * v).toInt = 100 * v.toInt := by
    rw [Int64.toInt_mul, e2, Int.bmod_eq_of_le (by omega) (by omega)]
  rw [q] at h1
  have e0 : (0 : Int64).toInt = 0 := by decide
  omega

def f_X10_concentration (mf : Nat → Int64) : Int32 :=
  ((mf 79) / (2 * (mf 65))).toInt32
set_option maxHeartbeats 4000000 in
set_option maxRecDepth 100000 in
theorem c_X10_concentration (l : Launch) (D : va_G) (cI cJ cZ cB : ClassId) (sz : Nat) (aM : Nat) (mA : Nat) (mB : Nat) (mC : Nat) (mD : Nat) (mE : Nat) (pm : Int32) (sp : Int32) (iw : Bool) (mF : Nat) (rn : Int32) (mf : Nat → Int64) (hok : okM mf) (o : Int32) (ho : f_X10_concentration mf = o) : Met l yX10_concentration wsX10_concentration ({ frames := 0, cells := 0, slots := 0, locals := 0 } : Room) (xPre D (xT cI cJ cZ cB) [.ref aM] [(aM, .inr (10, [.ref mA, .ref mB, .ref mC, .ref mD, .ref mE, .int pm, .int sp, .int (bi iw), .ref mF, .int rn])), (mA, .inl (cJ, 93, .inr (.inl mf)))] sz) (vp_Si (fun r => r = o)) 0 0 (fun _ => False) := by
  refine xofW (Qc := fun _ => vp_Si (fun r => r = o)) (fr := fun _ _ => False) (cc := cX10_concentration) (maxL := 1) (ret := (some .int)) (by decide) rfl (Nat.le_of_ble_eq_true rfl) ?_
  intro p e s m below meth c A ⟨hx, hb, hml, hown, hts⟩ hrt hlocks hnm hsz hK hW hA hG ls hl
  have hown : s.vm.findClass RX10 = some m.cls := hown
  have hl : lv_has ls 1 [(0, .ref aM)] := hl
  obtain ⟨H, hH⟩ : ∃ H, H = s.heap := ⟨_, rfl⟩
  have hW : xW D A s.heap ([(aM, .inr (10, [.ref mA, .ref mB, .ref mC, .ref mD, .ref mE, .int pm, .int sp, .int (bi iw), .ref mF, .int rn])), (mA, .inl (cJ, 93, .inr (.inl mf)))] ++ []) H [] := by rw [hH]; exact hW
  have w1 := hts (.fieldLink RX10 7 "DryIceLaneModel" "at" "[J") (by decide +kernel)
  have hin10 : ∀ w ∈ u_ws RX10 TX10 10, w ∈ wsX10_concentration := by decide +kernel
  have w3 := hts (.constantLong RX10 56 (2)) (by decide +kernel)
  rw [← hH]
  refine lv_aload_n hx hb dX10_concentration_0 rfl (lv_at hl 0 rfl) ?_
  refine xget (ci := 10) (C := RX10) (T := TX10) (N := 10) hx hb hts hin10 hown hK hW.1 0 rfl rfl 0 (by decide) w1 rfl dX10_concentration_1 ?_
  refine lv_bipush (v := 79) hx hb dX10_concentration_4 (by decide) ?_
  refine xlald hx hb hK hW.1 1 1 rfl rfl (vp_in_iff.mpr ⟨by decide, by decide⟩) 79 rfl (v := mf 79) rfl dX10_concentration_6 ?_
  refine lv_ldc2 hx hb hown w3 dX10_concentration_7 ?_
  refine lv_aload_n hx hb dX10_concentration_10 rfl (lv_at hl 0 rfl) ?_
  refine xget (ci := 10) (C := RX10) (T := TX10) (N := 10) hx hb hts hin10 hown hK hW.1 0 rfl rfl 0 (by decide) w1 rfl dX10_concentration_11 ?_
  refine lv_bipush (v := 65) hx hb dX10_concentration_14 (by decide) ?_
  refine xlald hx hb hK hW.1 1 1 rfl rfl (vp_in_iff.mpr ⟨by decide, by decide⟩) 65 rfl (v := mf 65) rfl dX10_concentration_16 ?_
  refine lv_lmul hx hb dX10_concentration_17 ?_
  refine lv_ldiv hx hb dX10_concentration_18 (d2v hok.2.2.2.1) ?_
  refine lv_l2i hx hb dX10_concentration_19 rfl ?_
  have hF : f_X10_concentration mf = ((mf 79) / (2 * (mf 65))).toInt32 := by
    rw [f_X10_concentration]
  obtain rfl : ((mf 79) / (2 * (mf 65))).toInt32 = o := hF.symm.trans ho
  exact W.iret (v := ((mf 79) / (2 * (mf 65))).toInt32) hx hb hrt (fun t ht hM => ⟨_, rfl, rfl, ht.trans hH⟩) (fun q h => by cases h) dX10_concentration_20 hlocks

theorem load_b {f : Nat → Int64} (hok : okM f) (h : ¬ f_X10_boxes f = 10) : 0 ≤ (f_X10_boxes f).toInt ∧ (f_X10_boxes f).toInt < 10 := by
  have h1 := okM_nb hok
  have h2 := hok.1
  have h3 : (f_X10_boxes f).toInt = (f 75).toInt := h1
  have h4 : (f_X10_boxes f).toInt ≠ 10 := fun q => h (Int32.toInt_inj.mp (q.trans (show (10 : Int) = (10 : Int32).toInt by decide)))
  omega

def f_X10_load (a0 : Int32) (a1 : Int32) (a2 : Int32) (mf : Nat → Int64) : Int32 × (Nat → Int64) :=
  if (f_X10_in a0.toInt64 1 100) = true then
    if (f_X10_in a1.toInt64 0 5000000) = true then
      if (f_X10_in a2.toInt64 0 20000000) = true then
        if (f_X10_boxes mf) = 10 then
          (-4, mf)
        else
          if (f_X10_isDoorOpen mf) = true then
            (f_X10_boxes mf, vp_updL (f_X10_lay (f_X10_boxes mf) 3 a2.toInt64 (f_X10_lay (f_X10_boxes mf) 2 a2.toInt64 (f_X10_lay (f_X10_boxes mf) 1 a1.toInt64 (f_X10_lay (f_X10_boxes mf) 0 a0.toInt64 (vp_updL mf 75 ((mf 75) + 1)))))) 88 (((f_X10_lay (f_X10_boxes mf) 3 a2.toInt64 (f_X10_lay (f_X10_boxes mf) 2 a2.toInt64 (f_X10_lay (f_X10_boxes mf) 1 a1.toInt64 (f_X10_lay (f_X10_boxes mf) 0 a0.toInt64 (vp_updL mf 75 ((mf 75) + 1)))))) 88) + a2.toInt64))
          else
            (-5, mf)
      else
        (-2, mf)
    else
      (-2, mf)
  else
    (-2, mf)
set_option maxHeartbeats 4000000 in
set_option maxRecDepth 100000 in
theorem c_X10_load (l : Launch) (D : va_G) (cI cJ cZ cB : ClassId) (sz : Nat) (aM : Nat) (mA : Nat) (a0 : Int32) (a1 : Int32) (a2 : Int32) (mB : Nat) (mC : Nat) (mD : Nat) (mE : Nat) (pm : Int32) (sp : Int32) (iw : Bool) (mF : Nat) (rn : Int32) (mf : Nat → Int64) (hok : okM mf) (o : Int32 × (Nat → Int64)) (ho : f_X10_load a0 a1 a2 mf = o) : Met l yX10_load wsX10_load ({ frames := 1, cells := 0, slots := 0, locals := 25 } : Room) (xPre D (xT cI cJ cZ cB) [.ref aM, .int a0, .int a1, .int a2] [(aM, .inr (10, [.ref mA, .ref mB, .ref mC, .ref mD, .ref mE, .int pm, .int sp, .int (bi iw), .ref mF, .int rn])), (mA, .inl (cJ, 93, .inr (.inl mf)))] sz) (va_Qi (fun r (_ : Unit) => r = o.1) (fun _ t => xB D ([(aM, .inr (10, [.ref mA, .ref mB, .ref mC, .ref mD, .ref mE, .int pm, .int sp, .int (bi iw), .ref mF, .int rn])), (mA, .inl (cJ, 93, .inr (.inl o.2)))]) (va_A [(aM, .inr (10, [.ref mA, .ref mB, .ref mC, .ref mD, .ref mE, .int pm, .int sp, .int (bi iw), .ref mF, .int rn])), (mA, .inl (cJ, 93, .inr (.inl mf)))] sz) t) (va_A [(aM, .inr (10, [.ref mA, .ref mB, .ref mC, .ref mD, .ref mE, .int pm, .int sp, .int (bi iw), .ref mF, .int rn])), (mA, .inl (cJ, 93, .inr (.inl mf)))] sz)) 0 0 (va_A [(aM, .inr (10, [.ref mA, .ref mB, .ref mC, .ref mD, .ref mE, .int pm, .int sp, .int (bi iw), .ref mF, .int rn])), (mA, .inl (cJ, 93, .inr (.inl mf)))] sz) := by
  refine xofW (Qc := fun A0 => va_Qi (fun r (_ : Unit) => r = o.1) (fun _ t => xB D ([(aM, .inr (10, [.ref mA, .ref mB, .ref mC, .ref mD, .ref mE, .int pm, .int sp, .int (bi iw), .ref mF, .int rn])), (mA, .inl (cJ, 93, .inr (.inl o.2)))]) A0 t) A0) (fr := fun A => A) (cc := cX10_load) (maxL := 5) (ret := (some .int)) (by decide) rfl (Nat.le_of_ble_eq_true rfl) ?_
  intro p e s m below meth c A ⟨hx, hb, hml, hown, hts⟩ hrt hlocks hnm hsz hK hW hA hG ls hl
  have hown : s.vm.findClass RX10 = some m.cls := hown
  have hl : lv_has ls 5 [(0, .ref aM), (1, .int a0), (2, .int a1), (3, .int a2)] := hl
  obtain ⟨H, hH⟩ : ∃ H, H = s.heap := ⟨_, rfl⟩
  have hW : xW D A s.heap ([(aM, .inr (10, [.ref mA, .ref mB, .ref mC, .ref mD, .ref mE, .int pm, .int sp, .int (bi iw), .ref mF, .int rn])), (mA, .inl (cJ, 93, .inr (.inl mf)))] ++ []) H [] := by rw [hH]; exact hW
  have w1 := hts (.constantLong RX10 34 (100)) (by decide +kernel)
  have w2 := hts (.constantLong RX10 58 (5000000)) (by decide +kernel)
  have w3 := hts (.constantLong RX10 60 (20000000)) (by decide +kernel)
  have w4 := hts (.fieldLink RX10 7 "DryIceLaneModel" "at" "[J") (by decide +kernel)
  have hin10 : ∀ w ∈ u_ws RX10 TX10 10, w ∈ wsX10_load := by decide +kernel
  rw [← hH]
  refine lv_iload_n hx hb dX10_load_0 rfl (lv_at hl 1 rfl) ?_
  refine lv_i2l hx hb dX10_load_1 rfl ?_
  refine lv_lconst (v := 1) hx hb dX10_load_2 (by decide) ?_
  refine lv_ldc2 hx hb hown w1 dX10_load_3 ?_
  refine vp_callSi (va_Run.run (xrunS (As := [.long a0.toInt64, .long 1, .long 100]) (rest := []) ⟨hx, hb, hml, hown, hts⟩ (c_X10_in l D cI cJ cZ cB H.size a0.toInt64 1 100 _ rfl) (cwS 3 hts gX10_load_X10_in rfl rfl rfl (by decide +kernel) ⟨Nat.le_of_ble_eq_true rfl, Nat.le_of_ble_eq_true rfl⟩) hK hG hW.2.2 (xsubQ hW hA [] rfl (by decide)) rfl hl.1 rfl (Nat.le_of_ble_eq_true rfl) dX10_load_6 ⟨Nat.le_of_ble_eq_true rfl, Nat.le_of_ble_eq_true rfl⟩)) (fun r1 hq => ?_)
  subst hq
  refine xb_eq (tgt := 36) hx hb dX10_load_9 (by decide) (fun c1 => ?_) (fun c1 => ?_)
  · skip
    refine lv_bipush (v := -2) hx hb dX10_load_36 (by decide) ?_
    have hF : f_X10_load a0 a1 a2 mf = (-2, mf) := by
      rw [f_X10_load, if_neg c1]
    obtain rfl : (-2, mf) = o := hF.symm.trans ho
    exact W.iret (v := -2) hx hb hrt (fun t ht hM => ⟨⟨_, (), rfl, rfl, ⟨by rw [ht]; exact hW.1, hW.2.1⟩⟩, hW.2.2.F ht⟩) hW.2.2.2.2 dX10_load_38 hlocks
  · skip
    refine lv_iload_n hx hb dX10_load_12 rfl (lv_at hl 2 rfl) ?_
    refine lv_i2l hx hb dX10_load_13 rfl ?_
    refine lv_lconst (v := 0) hx hb dX10_load_14 (by decide) ?_
    refine lv_ldc2 hx hb hown w2 dX10_load_15 ?_
    refine vp_callSi (va_Run.run (xrunS (As := [.long a1.toInt64, .long 0, .long 5000000]) (rest := []) ⟨hx, hb, hml, hown, hts⟩ (c_X10_in l D cI cJ cZ cB H.size a1.toInt64 0 5000000 _ rfl) (cwS 3 hts gX10_load_X10_in rfl rfl rfl (by decide +kernel) ⟨Nat.le_of_ble_eq_true rfl, Nat.le_of_ble_eq_true rfl⟩) hK hG hW.2.2 (xsubQ hW hA [] rfl (by decide)) rfl hl.1 rfl (Nat.le_of_ble_eq_true rfl) dX10_load_18 ⟨Nat.le_of_ble_eq_true rfl, Nat.le_of_ble_eq_true rfl⟩)) (fun r2 hq => ?_)
    subst hq
    refine xb_eq (tgt := 36) hx hb dX10_load_21 (by decide) (fun c2 => ?_) (fun c2 => ?_)
    · skip
      refine lv_bipush (v := -2) hx hb dX10_load_36 (by decide) ?_
      have hF : f_X10_load a0 a1 a2 mf = (-2, mf) := by
        rw [f_X10_load, if_pos c1, if_neg c2]
      obtain rfl : (-2, mf) = o := hF.symm.trans ho
      exact W.iret (v := -2) hx hb hrt (fun t ht hM => ⟨⟨_, (), rfl, rfl, ⟨by rw [ht]; exact hW.1, hW.2.1⟩⟩, hW.2.2.F ht⟩) hW.2.2.2.2 dX10_load_38 hlocks
    · skip
      refine lv_iload_n hx hb dX10_load_24 rfl (lv_at hl 3 rfl) ?_
      refine lv_i2l hx hb dX10_load_25 rfl ?_
      refine lv_lconst (v := 0) hx hb dX10_load_26 (by decide) ?_
      refine lv_ldc2 hx hb hown w3 dX10_load_27 ?_
      refine vp_callSi (va_Run.run (xrunS (As := [.long a2.toInt64, .long 0, .long 20000000]) (rest := []) ⟨hx, hb, hml, hown, hts⟩ (c_X10_in l D cI cJ cZ cB H.size a2.toInt64 0 20000000 _ rfl) (cwS 3 hts gX10_load_X10_in rfl rfl rfl (by decide +kernel) ⟨Nat.le_of_ble_eq_true rfl, Nat.le_of_ble_eq_true rfl⟩) hK hG hW.2.2 (xsubQ hW hA [] rfl (by decide)) rfl hl.1 rfl (Nat.le_of_ble_eq_true rfl) dX10_load_30 ⟨Nat.le_of_ble_eq_true rfl, Nat.le_of_ble_eq_true rfl⟩)) (fun r3 hq => ?_)
      subst hq
      refine xb_ne (tgt := 39) hx hb dX10_load_33 (by decide) (fun c3 => ?_) (fun c3 => ?_)
      · skip
        refine lv_aload_n hx hb dX10_load_39 rfl (lv_at hl 0 rfl) ?_
        refine vp_callSi (va_Run.run (xrunV (As := []) (rest := []) ⟨hx, hb, hml, hown, hts⟩ (c_X10_boxes l D cI cJ cZ cB H.size aM mA mB mC mD mE pm sp iw mF rn mf _ rfl) (cwV 0 hts gX10_load_X10_boxes rfl rfl rfl (by decide +kernel) ⟨Nat.le_of_ble_eq_true rfl, Nat.le_of_ble_eq_true rfl⟩) hK hG hW.2.2 (xsubQ hW hA [0, 1] rfl (by decide)) (va_recv hK hW.1 (ci := 10) (q0 := 0) rfl rfl) rfl hl.1 rfl (Nat.le_of_ble_eq_true rfl) dX10_load_40 ⟨Nat.le_of_ble_eq_true rfl, Nat.le_of_ble_eq_true rfl⟩)) (fun r4 hq => ?_)
        subst hq
        refine lv_bipush (v := 10) hx hb dX10_load_43 (by decide) ?_
        refine lv_icmp_ne (tgt := 51) hx hb dX10_load_45 (by decide) (fun c4 => ?_) (fun c4 => ?_)
        · skip
          refine lv_aload_n hx hb dX10_load_51 rfl (lv_at hl 0 rfl) ?_
          refine vp_callSi (va_Run.run (xrunV (As := []) (rest := []) ⟨hx, hb, hml, hown, hts⟩ (c_X10_isDoorOpen l D cI cJ cZ cB H.size aM mA mB mC mD mE pm sp iw mF rn mf _ rfl) (cwV 0 hts gX10_load_X10_isDoorOpen rfl rfl rfl (by decide +kernel) ⟨Nat.le_of_ble_eq_true rfl, Nat.le_of_ble_eq_true rfl⟩) hK hG hW.2.2 (xsubQ hW hA [0, 1] rfl (by decide)) (va_recv hK hW.1 (ci := 10) (q0 := 0) rfl rfl) rfl hl.1 rfl (Nat.le_of_ble_eq_true rfl) dX10_load_52 ⟨Nat.le_of_ble_eq_true rfl, Nat.le_of_ble_eq_true rfl⟩)) (fun r5 hq => ?_)
          subst hq
          refine xb_ne (tgt := 61) hx hb dX10_load_55 (by decide) (fun c5 => ?_) (fun c5 => ?_)
          · skip
            refine lv_aload_n hx hb dX10_load_61 rfl (lv_at hl 0 rfl) ?_
            refine vp_callSi (va_Run.run (xrunV (As := []) (rest := []) ⟨hx, hb, hml, hown, hts⟩ (c_X10_boxes l D cI cJ cZ cB H.size aM mA mB mC mD mE pm sp iw mF rn mf _ rfl) (cwV 0 hts gX10_load_X10_boxes rfl rfl rfl (by decide +kernel) ⟨Nat.le_of_ble_eq_true rfl, Nat.le_of_ble_eq_true rfl⟩) hK hG hW.2.2 (xsubQ hW hA [0, 1] rfl (by decide)) (va_recv hK hW.1 (ci := 10) (q0 := 0) rfl rfl) rfl hl.1 rfl (Nat.le_of_ble_eq_true rfl) dX10_load_62 ⟨Nat.le_of_ble_eq_true rfl, Nat.le_of_ble_eq_true rfl⟩)) (fun r6 hq => ?_)
            subst hq
            refine lv_istore (lv' := [(4, .int (f_X10_boxes mf)), (0, .ref aM), (1, .int a0), (2, .int a1), (3, .int a2)]) hx hb dX10_load_65 hl (by decide) rfl (fun ls hl => ?_)
            refine lv_aload_n hx hb dX10_load_67 rfl (lv_at hl 1 rfl) ?_
            refine xget (ci := 10) (C := RX10) (T := TX10) (N := 10) hx hb hts hin10 hown hK hW.1 0 rfl rfl 0 (by decide) w4 rfl dX10_load_68 ?_
            refine lv_bipush (v := 75) hx hb dX10_load_71 (by decide) ?_
            refine lv_dup2_11 hx hb dX10_load_73 rfl rfl ?_
            refine xlald hx hb hK hW.1 1 1 rfl rfl (vp_in_iff.mpr ⟨by decide, by decide⟩) 75 rfl (v := mf 75) rfl dX10_load_74 ?_
            refine lv_lconst (v := 1) hx hb dX10_load_75 (by decide) ?_
            refine lv_ladd hx hb dX10_load_76 ?_
            refine xlast hx hb hK hW 1 1 rfl (Nat.le_of_ble_eq_true rfl) rfl (vp_in_iff.mpr ⟨by decide, by decide⟩) 75 rfl dX10_load_77 (fun H locs hW => ?_)
            have hW : xW D A s.heap ([(aM, .inr (10, [.ref mA, .ref mB, .ref mC, .ref mD, .ref mE, .int pm, .int sp, .int (bi iw), .ref mF, .int rn])), (mA, .inl (cJ, 93, .inr (.inl (vp_updL mf 75 ((mf 75) + 1)))))] ++ []) H _ := hW
            refine lv_aload_n hx hb dX10_load_78 rfl (lv_at hl 1 rfl) ?_
            refine lv_iload hx hb dX10_load_79 (lv_at hl 0 rfl) ?_
            refine lv_iconst (v := 0) hx hb dX10_load_81 (by decide) ?_
            refine lv_iload_n hx hb dX10_load_82 rfl (lv_at hl 2 rfl) ?_
            refine lv_i2l hx hb dX10_load_83 rfl ?_
            refine xQv (wr := []) hW hA [0, 1] [] rfl rfl (by decide) (by decide) (by decide) (xrunV (As := [.int (f_X10_boxes mf), .int 0, .long a0.toInt64]) (rest := []) ⟨hx, hb, hml, hown, hts⟩ (c_X10_lay l D cI cJ cZ cB H.size aM mA (f_X10_boxes mf) 0 a0.toInt64 mB mC mD mE pm sp iw mF rn (vp_updL mf 75 ((mf 75) + 1)) (ix_in (load_b hok c4) ⟨by decide, by decide⟩) _ rfl) (cwV 3 hts gX10_load_X10_lay rfl rfl rfl (by decide +kernel) ⟨Nat.le_of_ble_eq_true rfl, Nat.le_of_ble_eq_true rfl⟩) hK hG hW.2.2 (xsubQ hW hA [0, 1] rfl (by decide)) (va_recv hK hW.1 (ci := 10) (q0 := 0) rfl rfl) rfl hl.1 rfl (Nat.le_of_ble_eq_true rfl) dX10_load_84 ⟨Nat.le_of_ble_eq_true rfl, Nat.le_of_ble_eq_true rfl⟩) (fun _ H locs _ hW => ?_)
            have hW : xW D A s.heap ([(aM, .inr (10, [.ref mA, .ref mB, .ref mC, .ref mD, .ref mE, .int pm, .int sp, .int (bi iw), .ref mF, .int rn])), (mA, .inl (cJ, 93, .inr (.inl (f_X10_lay (f_X10_boxes mf) 0 a0.toInt64 (vp_updL mf 75 ((mf 75) + 1))))))] ++ []) H _ := hW
            refine lv_aload_n hx hb dX10_load_87 rfl (lv_at hl 1 rfl) ?_
            refine lv_iload hx hb dX10_load_88 (lv_at hl 0 rfl) ?_
            refine lv_iconst (v := 1) hx hb dX10_load_90 (by decide) ?_
            refine lv_iload_n hx hb dX10_load_91 rfl (lv_at hl 3 rfl) ?_
            refine lv_i2l hx hb dX10_load_92 rfl ?_
            refine xQv (wr := []) hW hA [0, 1] [] rfl rfl (by decide) (by decide) (by decide) (xrunV (As := [.int (f_X10_boxes mf), .int 1, .long a1.toInt64]) (rest := []) ⟨hx, hb, hml, hown, hts⟩ (c_X10_lay l D cI cJ cZ cB H.size aM mA (f_X10_boxes mf) 1 a1.toInt64 mB mC mD mE pm sp iw mF rn (f_X10_lay (f_X10_boxes mf) 0 a0.toInt64 (vp_updL mf 75 ((mf 75) + 1))) (ix_in (load_b hok c4) ⟨by decide, by decide⟩) _ rfl) (cwV 3 hts gX10_load_X10_lay rfl rfl rfl (by decide +kernel) ⟨Nat.le_of_ble_eq_true rfl, Nat.le_of_ble_eq_true rfl⟩) hK hG hW.2.2 (xsubQ hW hA [0, 1] rfl (by decide)) (va_recv hK hW.1 (ci := 10) (q0 := 0) rfl rfl) rfl hl.1 rfl (Nat.le_of_ble_eq_true rfl) dX10_load_93 ⟨Nat.le_of_ble_eq_true rfl, Nat.le_of_ble_eq_true rfl⟩) (fun _ H locs _ hW => ?_)
            have hW : xW D A s.heap ([(aM, .inr (10, [.ref mA, .ref mB, .ref mC, .ref mD, .ref mE, .int pm, .int sp, .int (bi iw), .ref mF, .int rn])), (mA, .inl (cJ, 93, .inr (.inl (f_X10_lay (f_X10_boxes mf) 1 a1.toInt64 (f_X10_lay (f_X10_boxes mf) 0 a0.toInt64 (vp_updL mf 75 ((mf 75) + 1)))))))] ++ []) H _ := hW
            refine lv_aload_n hx hb dX10_load_96 rfl (lv_at hl 1 rfl) ?_
            refine lv_iload hx hb dX10_load_97 (lv_at hl 0 rfl) ?_
            refine lv_iconst (v := 2) hx hb dX10_load_99 (by decide) ?_
            refine lv_iload_n hx hb dX10_load_100 rfl (lv_at hl 4 rfl) ?_
            refine lv_i2l hx hb dX10_load_101 rfl ?_
            refine xQv (wr := []) hW hA [0, 1] [] rfl rfl (by decide) (by decide) (by decide) (xrunV (As := [.int (f_X10_boxes mf), .int 2, .long a2.toInt64]) (rest := []) ⟨hx, hb, hml, hown, hts⟩ (c_X10_lay l D cI cJ cZ cB H.size aM mA (f_X10_boxes mf) 2 a2.toInt64 mB mC mD mE pm sp iw mF rn (f_X10_lay (f_X10_boxes mf) 1 a1.toInt64 (f_X10_lay (f_X10_boxes mf) 0 a0.toInt64 (vp_updL mf 75 ((mf 75) + 1)))) (ix_in (load_b hok c4) ⟨by decide, by decide⟩) _ rfl) (cwV 3 hts gX10_load_X10_lay rfl rfl rfl (by decide +kernel) ⟨Nat.le_of_ble_eq_true rfl, Nat.le_of_ble_eq_true rfl⟩) hK hG hW.2.2 (xsubQ hW hA [0, 1] rfl (by decide)) (va_recv hK hW.1 (ci := 10) (q0 := 0) rfl rfl) rfl hl.1 rfl (Nat.le_of_ble_eq_true rfl) dX10_load_102 ⟨Nat.le_of_ble_eq_true rfl, Nat.le_of_ble_eq_true rfl⟩) (fun _ H locs _ hW => ?_)
            have hW : xW D A s.heap ([(aM, .inr (10, [.ref mA, .ref mB, .ref mC, .ref mD, .ref mE, .int pm, .int sp, .int (bi iw), .ref mF, .int rn])), (mA, .inl (cJ, 93, .inr (.inl (f_X10_lay (f_X10_boxes mf) 2 a2.toInt64 (f_X10_lay (f_X10_boxes mf) 1 a1.toInt64 (f_X10_lay (f_X10_boxes mf) 0 a0.toInt64 (vp_updL mf 75 ((mf 75) + 1))))))))] ++ []) H _ := hW
            refine lv_aload_n hx hb dX10_load_105 rfl (lv_at hl 1 rfl) ?_
            refine lv_iload hx hb dX10_load_106 (lv_at hl 0 rfl) ?_
            refine lv_iconst (v := 3) hx hb dX10_load_108 (by decide) ?_
            refine lv_iload_n hx hb dX10_load_109 rfl (lv_at hl 4 rfl) ?_
            refine lv_i2l hx hb dX10_load_110 rfl ?_
            refine xQv (wr := []) hW hA [0, 1] [] rfl rfl (by decide) (by decide) (by decide) (xrunV (As := [.int (f_X10_boxes mf), .int 3, .long a2.toInt64]) (rest := []) ⟨hx, hb, hml, hown, hts⟩ (c_X10_lay l D cI cJ cZ cB H.size aM mA (f_X10_boxes mf) 3 a2.toInt64 mB mC mD mE pm sp iw mF rn (f_X10_lay (f_X10_boxes mf) 2 a2.toInt64 (f_X10_lay (f_X10_boxes mf) 1 a1.toInt64 (f_X10_lay (f_X10_boxes mf) 0 a0.toInt64 (vp_updL mf 75 ((mf 75) + 1))))) (ix_in (load_b hok c4) ⟨by decide, by decide⟩) _ rfl) (cwV 3 hts gX10_load_X10_lay rfl rfl rfl (by decide +kernel) ⟨Nat.le_of_ble_eq_true rfl, Nat.le_of_ble_eq_true rfl⟩) hK hG hW.2.2 (xsubQ hW hA [0, 1] rfl (by decide)) (va_recv hK hW.1 (ci := 10) (q0 := 0) rfl rfl) rfl hl.1 rfl (Nat.le_of_ble_eq_true rfl) dX10_load_111 ⟨Nat.le_of_ble_eq_true rfl, Nat.le_of_ble_eq_true rfl⟩) (fun _ H locs _ hW => ?_)
            have hW : xW D A s.heap ([(aM, .inr (10, [.ref mA, .ref mB, .ref mC, .ref mD, .ref mE, .int pm, .int sp, .int (bi iw), .ref mF, .int rn])), (mA, .inl (cJ, 93, .inr (.inl (f_X10_lay (f_X10_boxes mf) 3 a2.toInt64 (f_X10_lay (f_X10_boxes mf) 2 a2.toInt64 (f_X10_lay (f_X10_boxes mf) 1 a1.toInt64 (f_X10_lay (f_X10_boxes mf) 0 a0.toInt64 (vp_updL mf 75 ((mf 75) + 1)))))))))] ++ []) H _ := hW
            refine lv_aload_n hx hb dX10_load_114 rfl (lv_at hl 1 rfl) ?_
            refine xget (ci := 10) (C := RX10) (T := TX10) (N := 10) hx hb hts hin10 hown hK hW.1 0 rfl rfl 0 (by decide) w4 rfl dX10_load_115 ?_
            refine lv_bipush (v := 88) hx hb dX10_load_118 (by decide) ?_
            refine lv_dup2_11 hx hb dX10_load_120 rfl rfl ?_
            refine xlald hx hb hK hW.1 1 1 rfl rfl (vp_in_iff.mpr ⟨by decide, by decide⟩) 88 rfl (v := (f_X10_lay (f_X10_boxes mf) 3 a2.toInt64 (f_X10_lay (f_X10_boxes mf) 2 a2.toInt64 (f_X10_lay (f_X10_boxes mf) 1 a1.toInt64 (f_X10_lay (f_X10_boxes mf) 0 a0.toInt64 (vp_updL mf 75 ((mf 75) + 1)))))) 88) rfl dX10_load_121 ?_
            refine lv_iload_n hx hb dX10_load_122 rfl (lv_at hl 4 rfl) ?_
            refine lv_i2l hx hb dX10_load_123 rfl ?_
            refine lv_ladd hx hb dX10_load_124 ?_
            refine xlast hx hb hK hW 1 1 rfl (Nat.le_of_ble_eq_true rfl) rfl (vp_in_iff.mpr ⟨by decide, by decide⟩) 88 rfl dX10_load_125 (fun H locs hW => ?_)
            have hW : xW D A s.heap ([(aM, .inr (10, [.ref mA, .ref mB, .ref mC, .ref mD, .ref mE, .int pm, .int sp, .int (bi iw), .ref mF, .int rn])), (mA, .inl (cJ, 93, .inr (.inl (vp_updL (f_X10_lay (f_X10_boxes mf) 3 a2.toInt64 (f_X10_lay (f_X10_boxes mf) 2 a2.toInt64 (f_X10_lay (f_X10_boxes mf) 1 a1.toInt64 (f_X10_lay (f_X10_boxes mf) 0 a0.toInt64 (vp_updL mf 75 ((mf 75) + 1)))))) 88 (((f_X10_lay (f_X10_boxes mf) 3 a2.toInt64 (f_X10_lay (f_X10_boxes mf) 2 a2.toInt64 (f_X10_lay (f_X10_boxes mf) 1 a1.toInt64 (f_X10_lay (f_X10_boxes mf) 0 a0.toInt64 (vp_updL mf 75 ((mf 75) + 1)))))) 88) + a2.toInt64)))))] ++ []) H _ := hW
            refine lv_iload hx hb dX10_load_126 (lv_at hl 0 rfl) ?_
            have hF : f_X10_load a0 a1 a2 mf = (f_X10_boxes mf, vp_updL (f_X10_lay (f_X10_boxes mf) 3 a2.toInt64 (f_X10_lay (f_X10_boxes mf) 2 a2.toInt64 (f_X10_lay (f_X10_boxes mf) 1 a1.toInt64 (f_X10_lay (f_X10_boxes mf) 0 a0.toInt64 (vp_updL mf 75 ((mf 75) + 1)))))) 88 (((f_X10_lay (f_X10_boxes mf) 3 a2.toInt64 (f_X10_lay (f_X10_boxes mf) 2 a2.toInt64 (f_X10_lay (f_X10_boxes mf) 1 a1.toInt64 (f_X10_lay (f_X10_boxes mf) 0 a0.toInt64 (vp_updL mf 75 ((mf 75) + 1)))))) 88) + a2.toInt64)) := by
              rw [f_X10_load, if_pos c1, if_pos c2, if_pos c3, if_neg c4, if_pos c5]
            obtain rfl : (f_X10_boxes mf, vp_updL (f_X10_lay (f_X10_boxes mf) 3 a2.toInt64 (f_X10_lay (f_X10_boxes mf) 2 a2.toInt64 (f_X10_lay (f_X10_boxes mf) 1 a1.toInt64 (f_X10_lay (f_X10_boxes mf) 0 a0.toInt64 (vp_updL mf 75 ((mf 75) + 1)))))) 88 (((f_X10_lay (f_X10_boxes mf) 3 a2.toInt64 (f_X10_lay (f_X10_boxes mf) 2 a2.toInt64 (f_X10_lay (f_X10_boxes mf) 1 a1.toInt64 (f_X10_lay (f_X10_boxes mf) 0 a0.toInt64 (vp_updL mf 75 ((mf 75) + 1)))))) 88) + a2.toInt64)) = o := hF.symm.trans ho
            exact W.iret (v := f_X10_boxes mf) hx hb hrt (fun t ht hM => ⟨⟨_, (), rfl, rfl, ⟨by rw [ht]; exact hW.1, hW.2.1⟩⟩, hW.2.2.F ht⟩) hW.2.2.2.2 dX10_load_128 hlocks
          · skip
            refine lv_bipush (v := -5) hx hb dX10_load_58 (by decide) ?_
            have hF : f_X10_load a0 a1 a2 mf = (-5, mf) := by
              rw [f_X10_load, if_pos c1, if_pos c2, if_pos c3, if_neg c4, if_neg c5]
            obtain rfl : (-5, mf) = o := hF.symm.trans ho
            exact W.iret (v := -5) hx hb hrt (fun t ht hM => ⟨⟨_, (), rfl, rfl, ⟨by rw [ht]; exact hW.1, hW.2.1⟩⟩, hW.2.2.F ht⟩) hW.2.2.2.2 dX10_load_60 hlocks
        · skip
          refine lv_bipush (v := -4) hx hb dX10_load_48 (by decide) ?_
          have hF : f_X10_load a0 a1 a2 mf = (-4, mf) := by
            rw [f_X10_load, if_pos c1, if_pos c2, if_pos c3, if_pos c4]
          obtain rfl : (-4, mf) = o := hF.symm.trans ho
          exact W.iret (v := -4) hx hb hrt (fun t ht hM => ⟨⟨_, (), rfl, rfl, ⟨by rw [ht]; exact hW.1, hW.2.1⟩⟩, hW.2.2.F ht⟩) hW.2.2.2.2 dX10_load_50 hlocks
      · skip
        refine lv_bipush (v := -2) hx hb dX10_load_36 (by decide) ?_
        have hF : f_X10_load a0 a1 a2 mf = (-2, mf) := by
          rw [f_X10_load, if_pos c1, if_pos c2, if_neg c3]
        obtain rfl : (-2, mf) = o := hF.symm.trans ho
        exact W.iret (v := -2) hx hb hrt (fun t ht hM => ⟨⟨_, (), rfl, rfl, ⟨by rw [ht]; exact hW.1, hW.2.1⟩⟩, hW.2.2.F ht⟩) hW.2.2.2.2 dX10_load_38 hlocks
