set_option maxHeartbeats 4000000 in
set_option maxRecDepth 100000 in
theorem c_L_isBox (l : Launch) (D : va_G) (cI cJ cZ cB : ClassId) (sz : Nat) (aX : Nat) (aV : Nat) (aS : Nat) (aSv : Nat) (aL : Nat) (aLr : Nat) (aH : Nat) (aR : Nat) (aRd : Nat) (aRo : Nat) (aP : Nat) (b : Nat) (a0 : Int32) (aVk : Nat) (aK : Nat) (aJ : Nat) (aQ : Nat) (tm : Int32) (k1 : Int64) (k2 : Int64) (k3 : Int64) (k4 : Int64) (k5 : Int64) (sf : Nat → Int32) (lc : Int32) (lr : Nat → Option Nat) (vT : Int32) (vG : Int64) (vM : Int32) (vO : Bool) (vN : Int32) (vD : Bool) (vA : Int32) (rc : Int32) (rl : Int32) (rm : Int32) (rd : Nat → Int32) (ro : Nat → Int32) (aPc : Nat) (pl : Int32) (L : List Nat) (qi : Nat → Int32) (qt : Nat → Int32) (qc : Nat → Int32) (qp : Nat → Int32) (B : Int) (Tm : Int) (Ln : Nat) (xs : Nat → Int32) (hLn : Ln ≤ 260) (hJ : JJ B Tm L lc lr rc rl rm rd ro sf vT vG vM vO vN vD vA tm k1 k2 k3 k4 k5 qi qt qc qp) (hB : B ≤ 100000000) (hTm : Tm ≤ 1000) (hat : 0 ≤ a0.toInt ∧ a0.toInt ≤ 300) : Met l yL_isBox wsL_isBox ({ frames := 5, cells := 0, slots := 0, locals := 105 } : Room) (xPreX D (xT cI cJ cZ cB) [.ref aX, .ref b, .int a0] ([(aX, .inr (9, [.ref aV, .ref aVk, .ref aK, .ref aJ, .ref aP, .ref aQ])), (aV, .inr (8, [.ref aS, .ref aL, .ref aH, .ref aR, .int tm, .long k1, .long k2, .long k3, .long k4, .long k5])), (aS, .inr (6, [.ref aSv])), (aSv, .inl (cI, 11, .inl sf)), (aL, .inr (2, [.ref aLr, .int lc])), (aLr, .inl (cB, 10, .inr (.inr (.inr (.inr lr))))), (aH, .inr (1, [.int vT, .long vG, .int vM, .int (bi vO), .int vN, .int (bi vD), .int vA])), (aR, .inr (4, [.ref aRd, .ref aRo, .int rc, .int rl, .int rm])), (aRd, .inl (cI, 12, .inl rd)), (aRo, .inl (cI, 12, .inl ro)), (aP, .inr (3, [.ref aPc, .int pl]))] ++ bxP L qi qt qc qp) sz b Ln xs) ((fun A0 => va_Qi (fun r (u : Int64 × Int64 × Int64 × Int32 × (Nat → Option Nat) × (Nat → Int32) × (Nat → Int32) × (Nat → Int32) × (Nat → Int32)) => r = 1 ∧ JJ (B + 2000000) Tm L u.2.2.2.1 u.2.2.2.2.1 rc rl rm rd ro sf vT vG vM vO vN vD vA tm u.1 u.2.1 k3 k4 u.2.2.1 u.2.2.2.2.2.1 u.2.2.2.2.2.2.1 u.2.2.2.2.2.2.2.1 u.2.2.2.2.2.2.2.2) (fun u t => xB D (([(aX, .inr (9, [.ref aV, .ref aVk, .ref aK, .ref aJ, .ref aP, .ref aQ])), (aV, .inr (8, [.ref aS, .ref aL, .ref aH, .ref aR, .int tm, .long u.1, .long u.2.1, .long k3, .long k4, .long u.2.2.1])), (aS, .inr (6, [.ref aSv])), (aSv, .inl (cI, 11, .inl sf)), (aL, .inr (2, [.ref aLr, .int u.2.2.2.1])), (aLr, .inl (cB, 10, .inr (.inr (.inr (.inr u.2.2.2.2.1))))), (aH, .inr (1, [.int vT, .long vG, .int vM, .int (bi vO), .int vN, .int (bi vD), .int vA])), (aR, .inr (4, [.ref aRd, .ref aRo, .int rc, .int rl, .int rm])), (aRd, .inl (cI, 12, .inl rd)), (aRo, .inl (cI, 12, .inl ro)), (aP, .inr (3, [.ref aPc, .int pl]))] : va_W) ++ bxP L u.2.2.2.2.2.1 u.2.2.2.2.2.2.1 u.2.2.2.2.2.2.2.1 u.2.2.2.2.2.2.2.2) A0 t) A0) (va_A ([(aX, .inr (9, [.ref aV, .ref aVk, .ref aK, .ref aJ, .ref aP, .ref aQ])), (aV, .inr (8, [.ref aS, .ref aL, .ref aH, .ref aR, .int tm, .long k1, .long k2, .long k3, .long k4, .long k5])), (aS, .inr (6, [.ref aSv])), (aSv, .inl (cI, 11, .inl sf)), (aL, .inr (2, [.ref aLr, .int lc])), (aLr, .inl (cB, 10, .inr (.inr (.inr (.inr lr))))), (aH, .inr (1, [.int vT, .long vG, .int vM, .int (bi vO), .int vN, .int (bi vD), .int vA])), (aR, .inr (4, [.ref aRd, .ref aRo, .int rc, .int rl, .int rm])), (aRd, .inl (cI, 12, .inl rd)), (aRo, .inl (cI, 12, .inl ro)), (aP, .inr (3, [.ref aPc, .int pl]))] ++ bxP L qi qt qc qp) sz)) 0 0 (va_A ([(aX, .inr (9, [.ref aV, .ref aVk, .ref aK, .ref aJ, .ref aP, .ref aQ])), (aV, .inr (8, [.ref aS, .ref aL, .ref aH, .ref aR, .int tm, .long k1, .long k2, .long k3, .long k4, .long k5])), (aS, .inr (6, [.ref aSv])), (aSv, .inl (cI, 11, .inl sf)), (aL, .inr (2, [.ref aLr, .int lc])), (aLr, .inl (cB, 10, .inr (.inr (.inr (.inr lr))))), (aH, .inr (1, [.int vT, .long vG, .int vM, .int (bi vO), .int vN, .int (bi vD), .int vA])), (aR, .inr (4, [.ref aRd, .ref aRo, .int rc, .int rl, .int rm])), (aRd, .inl (cI, 12, .inl rd)), (aRo, .inl (cI, 12, .inl ro)), (aP, .inr (3, [.ref aPc, .int pl]))] ++ bxP L qi qt qc qp) sz) := by
  refine xofWX (Qc := fun A0 => va_Qi (fun r (u : Int64 × Int64 × Int64 × Int32 × (Nat → Option Nat) × (Nat → Int32) × (Nat → Int32) × (Nat → Int32) × (Nat → Int32)) => r = 1 ∧ JJ (B + 2000000) Tm L u.2.2.2.1 u.2.2.2.2.1 rc rl rm rd ro sf vT vG vM vO vN vD vA tm u.1 u.2.1 k3 k4 u.2.2.1 u.2.2.2.2.2.1 u.2.2.2.2.2.2.1 u.2.2.2.2.2.2.2.1 u.2.2.2.2.2.2.2.2) (fun u t => xB D (([(aX, .inr (9, [.ref aV, .ref aVk, .ref aK, .ref aJ, .ref aP, .ref aQ])), (aV, .inr (8, [.ref aS, .ref aL, .ref aH, .ref aR, .int tm, .long u.1, .long u.2.1, .long k3, .long k4, .long u.2.2.1])), (aS, .inr (6, [.ref aSv])), (aSv, .inl (cI, 11, .inl sf)), (aL, .inr (2, [.ref aLr, .int u.2.2.2.1])), (aLr, .inl (cB, 10, .inr (.inr (.inr (.inr u.2.2.2.2.1))))), (aH, .inr (1, [.int vT, .long vG, .int vM, .int (bi vO), .int vN, .int (bi vD), .int vA])), (aR, .inr (4, [.ref aRd, .ref aRo, .int rc, .int rl, .int rm])), (aRd, .inl (cI, 12, .inl rd)), (aRo, .inl (cI, 12, .inl ro)), (aP, .inr (3, [.ref aPc, .int pl]))] : va_W) ++ bxP L u.2.2.2.2.2.1 u.2.2.2.2.2.2.1 u.2.2.2.2.2.2.2.1 u.2.2.2.2.2.2.2.2) A0 t) A0) (fr := fun A => A) (cc := cL_isBox) (maxL := 15) (ret := (some .boolean)) (by decide) rfl (Nat.le_of_ble_eq_true rfl) ?_
  intro p e s m below meth c A ⟨hx, hb, hml, hown, hts⟩ hrt hlocks hnm hsz hK hW hA hG hX hbl hbA ls hl
  have hown : s.vm.findClass RL = some m.cls := hown
  have hl : lv_has ls 15 [(0, .ref aX), (1, .ref b), (2, .int a0)] := hl
  obtain ⟨H, hH⟩ : ∃ H, H = s.heap := ⟨_, rfl⟩
  have hW : xW D A s.heap ([(aX, .inr (9, [.ref aV, .ref aVk, .ref aK, .ref aJ, .ref aP, .ref aQ])), (aV, .inr (8, [.ref aS, .ref aL, .ref aH, .ref aR, .int tm, .long k1, .long k2, .long k3, .long k4, .long k5])), (aS, .inr (6, [.ref aSv])), (aSv, .inl (cI, 11, .inl sf)), (aL, .inr (2, [.ref aLr, .int lc])), (aLr, .inl (cB, 10, .inr (.inr (.inr (.inr lr))))), (aH, .inr (1, [.int vT, .long vG, .int vM, .int (bi vO), .int vN, .int (bi vD), .int vA])), (aR, .inr (4, [.ref aRd, .ref aRo, .int rc, .int rl, .int rm])), (aRd, .inl (cI, 12, .inl rd)), (aRo, .inl (cI, 12, .inl ro)), (aP, .inr (3, [.ref aPc, .int pl]))] ++ bxP L qi qt qc qp) H [] := by rw [hH]; exact hW
  have w1 := hts (.constant RL 73 (-1000000001)) (by decide +kernel)
  have w2 := hts (.constant RL 63 (300000)) (by decide +kernel)
  have w3 := hts (.constant RL 55 (2000000)) (by decide +kernel)
  have w4 := hts (.constant RL 74 (-1000000005)) (by decide +kernel)
  rw [← hH]
  have hr := j_r hJ
  have hc := j_c hJ
  have hrc := j_w hJ
  refine lv_aload_n hx hb dL_isBox_0 rfl (lv_at hl 0 rfl) ?_
  refine lv_bipush (v := 12) hx hb dL_isBox_1 (by decide) ?_
  refine vp_callSi (va_Run.run (xrunV (As := [.int 12]) (rest := []) ⟨hx, hb, hml, hown, hts⟩ (c_X9_van l D cI cJ cZ cB H.size aX aV aS aSv aL aH aR aRo aP 12 aVk aK aJ aQ tm k1 k2 k3 k4 k5 sf aLr lc vT vG vM vO vN vD vA aRd rc rl rm ro aPc pl (by assumption) _ rfl) (cwV 1 hts gL_isBox_X9_van rfl rfl rfl (by decide +kernel) ⟨Nat.le_of_ble_eq_true rfl, Nat.le_of_ble_eq_true rfl⟩) hK hG hW.2.2 (xsubQ hW hA [0, 1, 2, 3, 4, 6, 7, 9, 10] rfl (by decide)) (va_recv hK hW.1 (ci := 9) (q0 := 0) rfl rfl) rfl hl.1 rfl (Nat.le_of_ble_eq_true rfl) dL_isBox_3 ⟨Nat.le_of_ble_eq_true rfl, Nat.le_of_ble_eq_true rfl⟩)) (fun r1 hq => ?_)
  rw [hq, van_12]
  refine lv_istore_n (lv' := [(3, .int lc), (0, .ref aX), (1, .ref b), (2, .int a0)]) hx hb dL_isBox_6 rfl hl (by decide) rfl (fun ls hl => ?_)
  refine lv_aload_n hx hb dL_isBox_7 rfl (lv_at hl 1 rfl) ?_
  refine lv_bipush (v := 8) hx hb dL_isBox_8 (by decide) ?_
  refine vp_callSi (va_Run.run (xrunV (As := [.int 8]) (rest := []) ⟨hx, hb, hml, hown, hts⟩ (c_X9_van l D cI cJ cZ cB H.size aX aV aS aSv aL aH aR aRo aP 8 aVk aK aJ aQ tm k1 k2 k3 k4 k5 sf aLr lc vT vG vM vO vN vD vA aRd rc rl rm ro aPc pl (by assumption) _ rfl) (cwV 1 hts gL_isBox_X9_van rfl rfl rfl (by decide +kernel) ⟨Nat.le_of_ble_eq_true rfl, Nat.le_of_ble_eq_true rfl⟩) hK hG hW.2.2 (xsubQ hW hA [0, 1, 2, 3, 4, 6, 7, 9, 10] rfl (by decide)) (va_recv hK hW.1 (ci := 9) (q0 := 0) rfl rfl) rfl hl.1 rfl (Nat.le_of_ble_eq_true rfl) dL_isBox_10 ⟨Nat.le_of_ble_eq_true rfl, Nat.le_of_ble_eq_true rfl⟩)) (fun r2 hq => ?_)
  rw [hq, van_8]
  refine lv_iconst (v := 1) hx hb dL_isBox_13 (by decide) ?_
  refine lv_icmp_ne (tgt := 21) hx hb dL_isBox_14 (by decide) (fun c1 => ?_) (fun c1 => ?_)
  · skip
    refine lv_iconst (v := 0) hx hb dL_isBox_21 (by decide) ?_
    refine lv_istore (lv' := [(4, .int 0), (3, .int lc), (0, .ref aX), (1, .ref b), (2, .int a0)]) hx hb dL_isBox_22 hl (by decide) rfl (fun ls hl => ?_)
    refine lv_aload_n hx hb dL_isBox_24 rfl (lv_at hl 2 rfl) ?_
    refine lv_bipush (v := 10) hx hb dL_isBox_25 (by decide) ?_
    refine vp_callSi (va_Run.run (xrunV (As := [.int 10]) (rest := []) ⟨hx, hb, hml, hown, hts⟩ (c_X9_van l D cI cJ cZ cB H.size aX aV aS aSv aL aH aR aRo aP 10 aVk aK aJ aQ tm k1 k2 k3 k4 k5 sf aLr lc vT vG vM vO vN vD vA aRd rc rl rm ro aPc pl (by assumption) _ rfl) (cwV 1 hts gL_isBox_X9_van rfl rfl rfl (by decide +kernel) ⟨Nat.le_of_ble_eq_true rfl, Nat.le_of_ble_eq_true rfl⟩) hK hG hW.2.2 (xsubQ hW hA [0, 1, 2, 3, 4, 6, 7, 9, 10] rfl (by decide)) (va_recv hK hW.1 (ci := 9) (q0 := 0) rfl rfl) rfl hl.1 rfl (Nat.le_of_ble_eq_true rfl) dL_isBox_27 ⟨Nat.le_of_ble_eq_true rfl, Nat.le_of_ble_eq_true rfl⟩)) (fun r3 hq => ?_)
    rw [hq, van_10]
    refine W.widen (k := 0) (n := 0) (Nat.le_of_ble_eq_true rfl) (Nat.le_of_ble_eq_true rfl) ?_
    have hJ38 : ∀ (u38_s0 : Int32) (H : Heap) (locs : List Loc) (ls : Array Slot), u38_s0 = (if rm ≤ 0 then (0 : Int32) else (1 : Int32)) → xW D A s.heap ([(aX, .inr (9, [.ref aV, .ref aVk, .ref aK, .ref aJ, .ref aP, .ref aQ])), (aV, .inr (8, [.ref aS, .ref aL, .ref aH, .ref aR, .int tm, .long k1, .long k2, .long k3, .long k4, .long k5])), (aS, .inr (6, [.ref aSv])), (aSv, .inl (cI, 11, .inl sf)), (aL, .inr (2, [.ref aLr, .int lc])), (aLr, .inl (cB, 10, .inr (.inr (.inr (.inr lr))))), (aH, .inr (1, [.int vT, .long vG, .int vM, .int (bi vO), .int vN, .int (bi vD), .int vA])), (aR, .inr (4, [.ref aRd, .ref aRo, .int rc, .int rl, .int rm])), (aRd, .inl (cI, 12, .inl rd)), (aRo, .inl (cI, 12, .inl ro)), (aP, .inr (3, [.ref aPc, .int pl]))] ++ bxP L qi qt qc qp) H locs → lv_has ls 15 [(4, .int 0), (3, .int lc), (0, .ref aX), (1, .ref b), (2, .int a0)] → W p l e ({ frames := 5, cells := 0, slots := 0, locals := 105 } : Room) s m [.ref aX, .ref b, .int a0].toArray below meth c H locs 0 0 (MQ below (va_Qi (fun r (u : Int64 × Int64 × Int64 × Int32 × (Nat → Option Nat) × (Nat → Int32) × (Nat → Int32) × (Nat → Int32) × (Nat → Int32)) => r = 1 ∧ JJ (B + 2000000) Tm L u.2.2.2.1 u.2.2.2.2.1 rc rl rm rd ro sf vT vG vM vO vN vD vA tm u.1 u.2.1 k3 k4 u.2.2.1 u.2.2.2.2.2.1 u.2.2.2.2.2.2.1 u.2.2.2.2.2.2.2.1 u.2.2.2.2.2.2.2.2) (fun u t => xB D (([(aX, .inr (9, [.ref aV, .ref aVk, .ref aK, .ref aJ, .ref aP, .ref aQ])), (aV, .inr (8, [.ref aS, .ref aL, .ref aH, .ref aR, .int tm, .long u.1, .long u.2.1, .long k3, .long k4, .long u.2.2.1])), (aS, .inr (6, [.ref aSv])), (aSv, .inl (cI, 11, .inl sf)), (aL, .inr (2, [.ref aLr, .int u.2.2.2.1])), (aLr, .inl (cB, 10, .inr (.inr (.inr (.inr u.2.2.2.2.1))))), (aH, .inr (1, [.int vT, .long vG, .int vM, .int (bi vO), .int vN, .int (bi vD), .int vA])), (aR, .inr (4, [.ref aRd, .ref aRo, .int rc, .int rl, .int rm])), (aRd, .inl (cI, 12, .inl rd)), (aRo, .inl (cI, 12, .inl ro)), (aP, .inr (3, [.ref aPc, .int pl]))] : va_W) ++ bxP L u.2.2.2.2.2.1 u.2.2.2.2.2.2.1 u.2.2.2.2.2.2.2.1 u.2.2.2.2.2.2.2.2) A t) A) [.ref aX, .ref b, .int a0].toArray s 0 0 A) (F0 m 38 ls [.int u38_s0]) := by
      intro u38_s0 H locs ls eu38_s0 hW hl
      refine lv_istore (lv' := [(5, .int u38_s0), (4, .int 0), (3, .int lc), (0, .ref aX), (1, .ref b), (2, .int a0)]) hx hb dL_isBox_38 hl (by decide) rfl (fun ls hl => ?_)
      refine lv_aload_n hx hb dL_isBox_40 rfl (lv_at hl 4 rfl) ?_
      refine lv_iload_n hx hb dL_isBox_41 rfl (lv_at hl 5 rfl) ?_
      refine lv_iconst (v := 5) hx hb dL_isBox_42 (by decide) ?_
      refine xcell (k := a0) (n := 5) (rest := []) ⟨hx, hb, hml, hown, hts⟩ (cwS 3 hts gL_isBox_L_cell rfl rfl rfl (by decide +kernel) ⟨Nat.le_of_ble_eq_true rfl, Nat.le_of_ble_eq_true rfl⟩) hX hbl hbA hLn hW.2.2 (ck_0 hat) (by decide) hl.1 (Nat.le_of_ble_eq_true rfl) dL_isBox_43 ⟨Nat.le_of_ble_eq_true rfl, Nat.le_of_ble_eq_true rfl⟩ ?_
      obtain ⟨yw, eyw⟩ : ∃ z9, cellf Ln xs a0 (5 : Int32) = z9 := ⟨_, rfl⟩
      rw [eyw]
      have hyw : 0 ≤ yw.toInt ∧ yw.toInt < 5 := cell_b (N := 5) (ck_0 hat) (by decide) (by decide) eyw
      refine lv_istore (lv' := [(6, .int yw), (5, .int u38_s0), (4, .int 0), (3, .int lc), (0, .ref aX), (1, .ref b), (2, .int a0)]) hx hb dL_isBox_46 hl (by decide) rfl (fun ls hl => ?_)
      refine lv_aload_n hx hb dL_isBox_48 rfl (lv_at hl 5 rfl) ?_
      refine lv_iload_n hx hb dL_isBox_49 rfl (lv_at hl 6 rfl) ?_
      refine lv_iconst (v := 1) hx hb dL_isBox_50 (by decide) ?_
      refine lv_iadd hx hb dL_isBox_51 ?_
      refine lv_bipush (v := 10) hx hb dL_isBox_52 (by decide) ?_
      refine xcell (k := a0 + 1) (n := 10) (rest := []) ⟨hx, hb, hml, hown, hts⟩ (cwS 3 hts gL_isBox_L_cell rfl rfl rfl (by decide +kernel) ⟨Nat.le_of_ble_eq_true rfl, Nat.le_of_ble_eq_true rfl⟩) hX hbl hbA hLn hW.2.2 (ck_1 hat) (by decide) hl.1 (Nat.le_of_ble_eq_true rfl) dL_isBox_54 ⟨Nat.le_of_ble_eq_true rfl, Nat.le_of_ble_eq_true rfl⟩ ?_
      obtain ⟨yb, eyb⟩ : ∃ z9, cellf Ln xs (a0 + 1) (10 : Int32) = z9 := ⟨_, rfl⟩
      rw [eyb]
      have hyb : 0 ≤ yb.toInt ∧ yb.toInt < 10 := cell_b (N := 10) (ck_1 hat) (by decide) (by decide) eyb
      refine lv_istore (lv' := [(7, .int yb), (6, .int yw), (5, .int u38_s0), (4, .int 0), (3, .int lc), (0, .ref aX), (1, .ref b), (2, .int a0)]) hx hb dL_isBox_57 hl (by decide) rfl (fun ls hl => ?_)
      refine lv_iload hx hb dL_isBox_59 (lv_at hl 0 rfl) ?_
      refine lv_iload_n hx hb dL_isBox_61 rfl (lv_at hl 4 rfl) ?_
      refine lv_icmp_ge (tgt := 69) hx hb dL_isBox_62 (by decide) (fun c3 => ?_) (fun c3 => ?_)
      · skip
        refine lv_iconst (v := 0) hx hb dL_isBox_69 (by decide) ?_
        refine lv_istore (lv' := [(8, .int 0), (7, .int yb), (6, .int yw), (5, .int u38_s0), (4, .int 0), (3, .int lc), (0, .ref aX), (1, .ref b), (2, .int a0)]) hx hb dL_isBox_70 hl (by decide) rfl (fun ls hl => ?_)
        refine lv_iload hx hb dL_isBox_72 (lv_at hl 0 rfl) ?_
        refine lv_if_eq (tgt := 87) hx hb dL_isBox_74 (by decide) (fun c4 => ?_) (fun c4 => ?_)
        · skip
          refine lv_iconst (v := 0) hx hb dL_isBox_87 (by decide) ?_
          refine lv_istore (lv' := [(9, .int 0), (8, .int 0), (7, .int yb), (6, .int yw), (5, .int u38_s0), (4, .int 0), (3, .int lc), (0, .ref aX), (1, .ref b), (2, .int a0)]) hx hb dL_isBox_88 hl (by decide) rfl (fun ls hl => ?_)
          refine lv_iload hx hb dL_isBox_90 (lv_at hl 1 rfl) ?_
          refine lv_if_eq (tgt := 105) hx hb dL_isBox_92 (by decide) (fun c5 => ?_) (fun c5 => ?_)
          · skip
            refine lv_iconst (v := 0) hx hb dL_isBox_105 (by decide) ?_
            refine lv_istore (lv' := [(10, .int 0), (9, .int 0), (8, .int 0), (7, .int yb), (6, .int yw), (5, .int u38_s0), (4, .int 0), (3, .int lc), (0, .ref aX), (1, .ref b), (2, .int a0)]) hx hb dL_isBox_106 hl (by decide) rfl (fun ls hl => ?_)
            refine lv_iload hx hb dL_isBox_108 (lv_at hl 4 rfl) ?_
            refine lv_if_ne (tgt := 261) hx hb dL_isBox_110 (by decide) (fun c6 => ?_) (fun c6 => ?_)
            · skip
              refine lv_iload hx hb dL_isBox_261 (lv_at hl 4 rfl) ?_
              refine lv_iconst (v := 1) hx hb dL_isBox_263 (by decide) ?_
              refine lv_icmp_ne (tgt := 372) hx hb dL_isBox_264 (by decide) (fun c7 => ?_) (fun c7 => ?_)
              · skip
                refine lv_iload hx hb dL_isBox_372 (lv_at hl 4 rfl) ?_
                refine lv_iconst (v := 2) hx hb dL_isBox_374 (by decide) ?_
                refine lv_icmp_ne (tgt := 468) hx hb dL_isBox_375 (by decide) (fun c8 => ?_) (fun c8 => ?_)
                · skip
                  refine lv_iload hx hb dL_isBox_468 (lv_at hl 4 rfl) ?_
                  refine lv_iconst (v := 3) hx hb dL_isBox_470 (by decide) ?_
                  refine lv_icmp_ne (tgt := 579) hx hb dL_isBox_471 (by decide) (fun c9 => ?_) (fun c9 => ?_)
                  · skip
                    refine lv_aload_n hx hb dL_isBox_579 rfl (lv_at hl 9 rfl) ?_
                    refine lv_iload_n hx hb dL_isBox_580 rfl (lv_at hl 10 rfl) ?_
                    refine lv_iconst (v := 2) hx hb dL_isBox_581 (by decide) ?_
                    refine lv_iadd hx hb dL_isBox_582 ?_
                    refine lv_bipush (v := 10) hx hb dL_isBox_583 (by decide) ?_
                    refine xcell (k := a0 + 2) (n := 10) (rest := []) ⟨hx, hb, hml, hown, hts⟩ (cwS 3 hts gL_isBox_L_cell rfl rfl rfl (by decide +kernel) ⟨Nat.le_of_ble_eq_true rfl, Nat.le_of_ble_eq_true rfl⟩) hX hbl hbA hLn hW.2.2 (ck_2 hat) (by decide) hl.1 (Nat.le_of_ble_eq_true rfl) dL_isBox_585 ⟨Nat.le_of_ble_eq_true rfl, Nat.le_of_ble_eq_true rfl⟩ ?_
                    obtain ⟨yt, eyt⟩ : ∃ z9, cellf Ln xs (a0 + 2) (10 : Int32) = z9 := ⟨_, rfl⟩
                    rw [eyt]
                    have hyt : 0 ≤ yt.toInt ∧ yt.toInt < 10 := cell_b (N := 10) (ck_2 hat) (by decide) (by decide) eyt
                    refine lv_istore (lv' := [(11, .int yt), (10, .int 0), (9, .int 0), (8, .int 0), (7, .int yb), (6, .int yw), (5, .int u38_s0), (4, .int 0), (3, .int lc), (0, .ref aX), (1, .ref b), (2, .int a0)]) hx hb dL_isBox_588 hl (by decide) rfl (fun ls hl => ?_)
                    refine lv_iload hx hb dL_isBox_590 (lv_at hl 3 rfl) ?_
                    refine lv_if_eq (tgt := 605) hx hb dL_isBox_592 (by decide) (fun c10 => ?_) (fun c10 => ?_)
                    · skip
                      refine lv_iconst (v := 0) hx hb dL_isBox_605 (by decide) ?_
                      refine lv_istore (lv' := [(12, .int 0), (11, .int yt), (10, .int 0), (9, .int 0), (8, .int 0), (7, .int yb), (6, .int yw), (5, .int u38_s0), (4, .int 0), (3, .int lc), (0, .ref aX), (1, .ref b), (2, .int a0)]) hx hb dL_isBox_606 hl (by decide) rfl (fun ls hl => ?_)
                      refine lv_iload hx hb dL_isBox_608 (lv_at hl 0 rfl) ?_
                      refine lv_if_eq (tgt := 623) hx hb dL_isBox_610 (by decide) (fun c11 => ?_) (fun c11 => ?_)
                      · skip
                        refine lv_iconst (v := 0) hx hb dL_isBox_623 (by decide) ?_
                        refine lv_istore (lv' := [(13, .int 0), (12, .int 0), (11, .int yt), (10, .int 0), (9, .int 0), (8, .int 0), (7, .int yb), (6, .int yw), (5, .int u38_s0), (4, .int 0), (3, .int lc), (0, .ref aX), (1, .ref b), (2, .int a0)]) hx hb dL_isBox_624 hl (by decide) rfl (fun ls hl => ?_)
                        refine lv_aload_n hx hb dL_isBox_626 rfl (lv_at hl 11 rfl) ?_
                        refine lv_iload hx hb dL_isBox_627 (lv_at hl 6 rfl) ?_
                        refine lv_iload hx hb dL_isBox_629 (lv_at hl 2 rfl) ?_
                        refine xPi (wr := [(aS, .inr (6, [.ref aSv])), (aSv, .inl (cI, 11, .inl sf)), (aH, .inr (1, [.int vT, .long vG, .int vM, .int (bi vO), .int vN, .int (bi vD), .int vA])), (aR, .inr (4, [.ref aRd, .ref aRo, .int rc, .int rl, .int rm])), (aRd, .inl (cI, 12, .inl rd)), (aRo, .inl (cI, 12, .inl ro)), (aP, .inr (3, [.ref aPc, .int pl]))]) hW hA [0, 1, 4, 5] [2, 3, 6, 7, 8, 9, 10] rfl rfl (by decide) (by decide) (by decide) (xrunV (As := [.int yb, .int yt]) (rest := []) ⟨hx, hb, hml, hown, hts⟩ (c_X9_shift l D cI cJ cZ cB H.size aX aV aL aLr yb yt aVk aK aJ aP aQ aS aH aR tm k1 k2 k3 k4 k5 lc lr L qi qt qc qp (by assumption) (by assumption) _ rfl) (cwV 2 hts gL_isBox_X9_shift rfl rfl rfl (by decide +kernel) ⟨Nat.le_of_ble_eq_true rfl, Nat.le_of_ble_eq_true rfl⟩) hK hG hW.2.2 (xsubP hW hA [0, 1, 4, 5] rfl (by decide)) (va_recv hK hW.1 (ci := 9) (q0 := 0) rfl rfl) rfl hl.1 rfl (Nat.le_of_ble_eq_true rfl) dL_isBox_631 ⟨Nat.le_of_ble_eq_true rfl, Nat.le_of_ble_eq_true rfl⟩) (fun r4 _ H locs hq hW => ?_)
                        rw [hq]
                        have hW : xW D A s.heap ([(aS, .inr (6, [.ref aSv])), (aSv, .inl (cI, 11, .inl sf)), (aH, .inr (1, [.int vT, .long vG, .int vM, .int (bi vO), .int vN, .int (bi vD), .int vA])), (aR, .inr (4, [.ref aRd, .ref aRo, .int rc, .int rl, .int rm])), (aRd, .inl (cI, 12, .inl rd)), (aRo, .inl (cI, 12, .inl ro)), (aP, .inr (3, [.ref aPc, .int pl])), (aX, .inr (9, [.ref aV, .ref aVk, .ref aK, .ref aJ, .ref aP, .ref aQ])), (aV, .inr (8, [.ref aS, .ref aL, .ref aH, .ref aR, .int tm, .long k1, .long k2, .long k3, .long k4, .long k5])), (aL, .inr (2, [.ref aLr, .int lc])), (aLr, .inl (cB, 10, .inr (.inr (.inr (.inr (f_X9_shift yb yt lc lr qc).2)))))] ++ bxP L qi qt qc qp) H _ := hW
                        have ho := sh_none (lr := lr) (qc := qc) (t := yt) hc c3
                        have hr2 : okR L (f_X9_shift yb yt lc lr qc).2 := by rw [ho]; exact hr
                        refine lv_iload hx hb dL_isBox_634 (lv_at hl 1 rfl) ?_
                        refine lv_if_eq (tgt := 644) hx hb dL_isBox_636 (by decide) (fun c12 => ?_) (fun c12 => ?_)
                        · skip
                          refine lv_iconst (v := -1) hx hb dL_isBox_644 (by decide) ?_
                          refine lv_icmp_ne (tgt := 716) hx hb dL_isBox_645 (by decide) (fun c13 => ?_) (fun c13 => ?_)
                          · exact absurd (congrArg Prod.fst ho) c13
                          · skip
                            refine lv_iload hx hb dL_isBox_648 (lv_at hl 1 rfl) ?_
                            refine lv_if_eq (tgt := 712) hx hb dL_isBox_650 (by decide) (fun c14 => ?_) (fun c14 => ?_)
                            · skip
                              refine lv_iconst (v := 1) hx hb dL_isBox_712 (by decide) ?_
                              refine lv_goto (tgt := 717) hx hb dL_isBox_713 (by decide) ?_
                              have hW := xW_perm (X' := [(aX, .inr (9, [.ref aV, .ref aVk, .ref aK, .ref aJ, .ref aP, .ref aQ])), (aV, .inr (8, [.ref aS, .ref aL, .ref aH, .ref aR, .int tm, .long k1, .long k2, .long k3, .long k4, .long k5])), (aS, .inr (6, [.ref aSv])), (aSv, .inl (cI, 11, .inl sf)), (aL, .inr (2, [.ref aLr, .int lc])), (aLr, .inl (cB, 10, .inr (.inr (.inr (.inr (f_X9_shift yb yt lc lr qc).2))))), (aH, .inr (1, [.int vT, .long vG, .int vM, .int (bi vO), .int vN, .int (bi vD), .int vA])), (aR, .inr (4, [.ref aRd, .ref aRo, .int rc, .int rl, .int rm])), (aRd, .inl (cI, 12, .inl rd)), (aRo, .inl (cI, 12, .inl ro)), (aP, .inr (3, [.ref aPc, .int pl]))]) hW [7, 8, 0, 1, 9, 10, 2, 3, 4, 5, 6] rfl (by decide)
                              exact W.zret (v := 1) hx hb hrt rfl (fun t ht hM => ⟨⟨1, (k1, k2, k5, lc, (f_X9_shift yb yt lc lr qc).2, qi, qt, qc, qp), rfl, ⟨rfl, jj_B (B := B) (by rw [ho]; exact hJ) (by omega)⟩, ⟨by rw [ht]; exact hW.1, hW.2.1⟩⟩, hW.2.2.F ht⟩) hW.2.2.2.2 dL_isBox_717 hlocks
                            · exact absurd c14 (by decide)
                        · exact absurd c12 (by decide)
                      · exact absurd c11 (by decide)
                    · exact absurd c10 (by decide)
                  · skip
                    refine lv_aload_n hx hb dL_isBox_474 rfl (lv_at hl 8 rfl) ?_
                    refine lv_iload hx hb dL_isBox_475 (lv_at hl 3 rfl) ?_
                    refine vp_callSi (va_Run.run (xrunV (As := [.int yb]) (rest := []) ⟨hx, hb, hml, hown, hts⟩ (c_X9_weigh l D cI cJ cZ cB H.size aX aV aL aLr aR yb aVk aK aJ aP aQ aS aH tm k1 k2 k3 k4 k5 lc lr aRd aRo rc rl rm L qi qt qc qp (by assumption) (by assumption) _ rfl) (cwV 1 hts gL_isBox_X9_weigh rfl rfl rfl (by decide +kernel) ⟨Nat.le_of_ble_eq_true rfl, Nat.le_of_ble_eq_true rfl⟩) hK hG hW.2.2 (xsubP hW hA [0, 1, 4, 5, 7] rfl (by decide)) (va_recv hK hW.1 (ci := 9) (q0 := 0) rfl rfl) rfl hl.1 rfl (Nat.le_of_ble_eq_true rfl) dL_isBox_477 ⟨Nat.le_of_ble_eq_true rfl, Nat.le_of_ble_eq_true rfl⟩)) (fun r5 hq => ?_)
                    rw [hq]
                    refine lv_iload hx hb dL_isBox_480 (lv_at hl 2 rfl) ?_
                    refine lv_if_ne (tgt := 489) hx hb dL_isBox_482 (by decide) (fun c10 => ?_) (fun c10 => ?_)
                    · exact absurd c10 (by decide)
                    · skip
                      refine lv_iconst (v := -1) hx hb dL_isBox_485 (by decide) ?_
                      refine lv_goto (tgt := 509) hx hb dL_isBox_486 (by decide) ?_
                      refine lv_icmp_ne (tgt := 577) hx hb dL_isBox_509 (by decide) (fun c11 => ?_) (fun c11 => ?_)
                      · exact absurd ((wg_none (qp := qp) hc c3).1) c11
                      · skip
                        refine lv_aload_n hx hb dL_isBox_512 rfl (lv_at hl 8 rfl) ?_
                        refine lv_iload hx hb dL_isBox_513 (lv_at hl 3 rfl) ?_
                        refine xPi (wr := [(aS, .inr (6, [.ref aSv])), (aSv, .inl (cI, 11, .inl sf)), (aH, .inr (1, [.int vT, .long vG, .int vM, .int (bi vO), .int vN, .int (bi vD), .int vA])), (aRd, .inl (cI, 12, .inl rd)), (aRo, .inl (cI, 12, .inl ro)), (aP, .inr (3, [.ref aPc, .int pl]))]) hW hA [0, 1, 4, 5, 7] [2, 3, 6, 8, 9, 10] rfl rfl (by decide) (by decide) (by decide) (xrunV (As := [.int yb]) (rest := []) ⟨hx, hb, hml, hown, hts⟩ (c_X9_check l D cI cJ cZ cB H.size aX aV aL aLr aR yb aVk aK aJ aP aQ aS aH tm k1 k2 k3 k4 k5 lc lr aRd aRo rc rl rm L qi qt qc qp (by assumption) (by assumption) _ rfl) (cwV 1 hts gL_isBox_X9_check rfl rfl rfl (by decide +kernel) ⟨Nat.le_of_ble_eq_true rfl, Nat.le_of_ble_eq_true rfl⟩) hK hG hW.2.2 (xsubP hW hA [0, 1, 4, 5, 7] rfl (by decide)) (va_recv hK hW.1 (ci := 9) (q0 := 0) rfl rfl) rfl hl.1 rfl (Nat.le_of_ble_eq_true rfl) dL_isBox_515 ⟨Nat.le_of_ble_eq_true rfl, Nat.le_of_ble_eq_true rfl⟩) (fun r6 _ H locs hq hW => ?_)
                        rw [hq]
                        have hW : xW D A s.heap ([(aS, .inr (6, [.ref aSv])), (aSv, .inl (cI, 11, .inl sf)), (aH, .inr (1, [.int vT, .long vG, .int vM, .int (bi vO), .int vN, .int (bi vD), .int vA])), (aRd, .inl (cI, 12, .inl rd)), (aRo, .inl (cI, 12, .inl ro)), (aP, .inr (3, [.ref aPc, .int pl])), (aX, .inr (9, [.ref aV, .ref aVk, .ref aK, .ref aJ, .ref aP, .ref aQ])), (aV, .inr (8, [.ref aS, .ref aL, .ref aH, .ref aR, .int tm, .long k1, .long k2, .long k3, .long k4, .long k5])), (aL, .inr (2, [.ref aLr, .int lc])), (aLr, .inl (cB, 10, .inr (.inr (.inr (.inr lr))))), (aR, .inr (4, [.ref aRd, .ref aRo, .int rc, .int rl, .int rm]))] ++ bxP L qi qt qc (f_X9_check yb lc lr rm qc qp).2) H _ := hW
                        refine lv_iload hx hb dL_isBox_518 (lv_at hl 2 rfl) ?_
                        refine lv_if_ne (tgt := 528) hx hb dL_isBox_520 (by decide) (fun c12 => ?_) (fun c12 => ?_)
                        · exact absurd c12 (by decide)
                        · skip
                          refine lv_ldc hx hb hown w1 dL_isBox_523 ?_
                          refine lv_goto (tgt := 543) hx hb dL_isBox_525 (by decide) ?_
                          refine lv_icmp_ne (tgt := 577) hx hb dL_isBox_543 (by decide) (fun c13 => ?_) (fun c13 => ?_)
                          · exact absurd (congrArg Prod.fst (wg_none (qt := qt) hc c3).2) c13
                          · skip
                            refine lv_iload hx hb dL_isBox_546 (lv_at hl 2 rfl) ?_
                            refine lv_if_eq (tgt := 573) hx hb dL_isBox_548 (by decide) (fun c14 => ?_) (fun c14 => ?_)
                            · skip
                              refine lv_iconst (v := 1) hx hb dL_isBox_573 (by decide) ?_
                              refine lv_goto (tgt := 578) hx hb dL_isBox_574 (by decide) ?_
                              have hW := xW_perm (X' := [(aX, .inr (9, [.ref aV, .ref aVk, .ref aK, .ref aJ, .ref aP, .ref aQ])), (aV, .inr (8, [.ref aS, .ref aL, .ref aH, .ref aR, .int tm, .long k1, .long k2, .long k3, .long k4, .long k5])), (aS, .inr (6, [.ref aSv])), (aSv, .inl (cI, 11, .inl sf)), (aL, .inr (2, [.ref aLr, .int lc])), (aLr, .inl (cB, 10, .inr (.inr (.inr (.inr lr))))), (aH, .inr (1, [.int vT, .long vG, .int vM, .int (bi vO), .int vN, .int (bi vD), .int vA])), (aR, .inr (4, [.ref aRd, .ref aRo, .int rc, .int rl, .int rm])), (aRd, .inl (cI, 12, .inl rd)), (aRo, .inl (cI, 12, .inl ro)), (aP, .inr (3, [.ref aPc, .int pl]))]) hW [6, 7, 0, 1, 8, 9, 2, 10, 3, 4, 5] rfl (by decide)
                              exact W.zret (v := 1) hx hb hrt rfl (fun t ht hM => ⟨⟨1, (k1, k2, k5, lc, lr, qi, qt, qc, (f_X9_check yb lc lr rm qc qp).2), rfl, ⟨rfl, jj_B (B := B) (by rw [(wg_none (qt := qt) hc c3).2]; exact hJ) (by omega)⟩, ⟨by rw [ht]; exact hW.1, hW.2.1⟩⟩, hW.2.2.F ht⟩) hW.2.2.2.2 dL_isBox_578 hlocks
                            · exact absurd c14 (by decide)
                · skip
                  refine lv_iconst (v := 1) hx hb dL_isBox_378 (by decide) ?_
                  refine lv_aload_n hx hb dL_isBox_379 rfl (lv_at hl 9 rfl) ?_
                  refine lv_iload_n hx hb dL_isBox_380 rfl (lv_at hl 10 rfl) ?_
                  refine lv_iconst (v := 2) hx hb dL_isBox_381 (by decide) ?_
                  refine lv_iadd hx hb dL_isBox_382 ?_
                  refine lv_ldc hx hb hown w2 dL_isBox_383 ?_
                  refine xcell (k := a0 + 2) (n := 300000) (rest := [.int 1]) ⟨hx, hb, hml, hown, hts⟩ (cwS 3 hts gL_isBox_L_cell rfl rfl rfl (by decide +kernel) ⟨Nat.le_of_ble_eq_true rfl, Nat.le_of_ble_eq_true rfl⟩) hX hbl hbA hLn hW.2.2 (ck_2 hat) (by decide) hl.1 (Nat.le_of_ble_eq_true rfl) dL_isBox_385 ⟨Nat.le_of_ble_eq_true rfl, Nat.le_of_ble_eq_true rfl⟩ ?_
                  obtain ⟨yl, eyl⟩ : ∃ z9, cellf Ln xs (a0 + 2) (300000 : Int32) = z9 := ⟨_, rfl⟩
                  rw [eyl]
                  have hyl : 0 ≤ yl.toInt ∧ yl.toInt < 300000 := cell_b (N := 300000) (ck_2 hat) (by decide) (by decide) eyl
                  refine lv_iadd hx hb dL_isBox_388 ?_
                  refine lv_istore (lv' := [(11, .int (1 + yl)), (10, .int 0), (9, .int 0), (8, .int 0), (7, .int yb), (6, .int yw), (5, .int u38_s0), (4, .int 0), (3, .int lc), (0, .ref aX), (1, .ref b), (2, .int a0)]) hx hb dL_isBox_389 hl (by decide) rfl (fun ls hl => ?_)
                  refine lv_iload hx hb dL_isBox_391 (lv_at hl 3 rfl) ?_
                  refine lv_if_eq (tgt := 407) hx hb dL_isBox_393 (by decide) (fun c9 => ?_) (fun c9 => ?_)
                  · skip
                    refine lv_iconst (v := 0) hx hb dL_isBox_407 (by decide) ?_
                    refine lv_istore (lv' := [(12, .int 0), (11, .int (1 + yl)), (10, .int 0), (9, .int 0), (8, .int 0), (7, .int yb), (6, .int yw), (5, .int u38_s0), (4, .int 0), (3, .int lc), (0, .ref aX), (1, .ref b), (2, .int a0)]) hx hb dL_isBox_408 hl (by decide) rfl (fun ls hl => ?_)
                    refine lv_aload_n hx hb dL_isBox_410 rfl (lv_at hl 10 rfl) ?_
                    refine lv_iload hx hb dL_isBox_411 (lv_at hl 5 rfl) ?_
                    refine lv_iload hx hb dL_isBox_413 (lv_at hl 1 rfl) ?_
                    obtain ⟨o7_, eo7_⟩ : ∃ z9, f_X9_spill yb (1 + yl) k5 lc lr qc = z9 := ⟨_, rfl⟩
                    refine xPi (wr := [(aS, .inr (6, [.ref aSv])), (aSv, .inl (cI, 11, .inl sf)), (aH, .inr (1, [.int vT, .long vG, .int vM, .int (bi vO), .int vN, .int (bi vD), .int vA])), (aR, .inr (4, [.ref aRd, .ref aRo, .int rc, .int rl, .int rm])), (aRd, .inl (cI, 12, .inl rd)), (aRo, .inl (cI, 12, .inl ro)), (aP, .inr (3, [.ref aPc, .int pl]))]) hW hA [0, 1, 4, 5] [2, 3, 6, 7, 8, 9, 10] rfl rfl (by decide) (by decide) (by decide) (xrunV (As := [.int yb, .int (1 + yl)]) (rest := []) ⟨hx, hb, hml, hown, hts⟩ (c_X9_spill l D cI cJ cZ cB H.size aX aV aL aLr yb (1 + yl) aVk aK aJ aP aQ aS aH aR tm k1 k2 k3 k4 k5 lc lr L qi qt qc qp (by assumption) (by assumption) o7_ eo7_) (cwV 2 hts gL_isBox_X9_spill rfl rfl rfl (by decide +kernel) ⟨Nat.le_of_ble_eq_true rfl, Nat.le_of_ble_eq_true rfl⟩) hK hG hW.2.2 (xsubP hW hA [0, 1, 4, 5] rfl (by decide)) (va_recv hK hW.1 (ci := 9) (q0 := 0) rfl rfl) rfl hl.1 rfl (Nat.le_of_ble_eq_true rfl) dL_isBox_415 ⟨Nat.le_of_ble_eq_true rfl, Nat.le_of_ble_eq_true rfl⟩) (fun r8 _ H locs hq hW => ?_)
                    rw [hq]
                    have hW : xW D A s.heap ([(aS, .inr (6, [.ref aSv])), (aSv, .inl (cI, 11, .inl sf)), (aH, .inr (1, [.int vT, .long vG, .int vM, .int (bi vO), .int vN, .int (bi vD), .int vA])), (aR, .inr (4, [.ref aRd, .ref aRo, .int rc, .int rl, .int rm])), (aRd, .inl (cI, 12, .inl rd)), (aRo, .inl (cI, 12, .inl ro)), (aP, .inr (3, [.ref aPc, .int pl])), (aX, .inr (9, [.ref aV, .ref aVk, .ref aK, .ref aJ, .ref aP, .ref aQ])), (aV, .inr (8, [.ref aS, .ref aL, .ref aH, .ref aR, .int tm, .long k1, .long k2, .long k3, .long k4, .long o7_.2.1])), (aL, .inr (2, [.ref aLr, .int lc])), (aLr, .inl (cB, 10, .inr (.inr (.inr (.inr lr)))))] ++ bxP L qi qt o7_.2.2 qp) H _ := hW
                    have ho := sp_none eo7_ hc c3
                    refine lv_iload hx hb dL_isBox_418 (lv_at hl 4 rfl) ?_
                    refine lv_if_ne (tgt := 427) hx hb dL_isBox_420 (by decide) (fun c10 => ?_) (fun c10 => ?_)
                    · exact absurd c10 (by decide)
                    · skip
                      refine lv_iconst (v := -1) hx hb dL_isBox_423 (by decide) ?_
                      refine lv_goto (tgt := 442) hx hb dL_isBox_424 (by decide) ?_
                      refine lv_icmp_ne (tgt := 466) hx hb dL_isBox_442 (by decide) (fun c11 => ?_) (fun c11 => ?_)
                      · exact absurd (by subst ho; rfl) c11
                      · skip
                        refine lv_iload hx hb dL_isBox_445 (lv_at hl 4 rfl) ?_
                        refine lv_if_eq (tgt := 462) hx hb dL_isBox_447 (by decide) (fun c12 => ?_) (fun c12 => ?_)
                        · skip
                          refine lv_iconst (v := 1) hx hb dL_isBox_462 (by decide) ?_
                          refine lv_goto (tgt := 467) hx hb dL_isBox_463 (by decide) ?_
                          have hW := xW_perm (X' := [(aX, .inr (9, [.ref aV, .ref aVk, .ref aK, .ref aJ, .ref aP, .ref aQ])), (aV, .inr (8, [.ref aS, .ref aL, .ref aH, .ref aR, .int tm, .long k1, .long k2, .long k3, .long k4, .long o7_.2.1])), (aS, .inr (6, [.ref aSv])), (aSv, .inl (cI, 11, .inl sf)), (aL, .inr (2, [.ref aLr, .int lc])), (aLr, .inl (cB, 10, .inr (.inr (.inr (.inr lr))))), (aH, .inr (1, [.int vT, .long vG, .int vM, .int (bi vO), .int vN, .int (bi vD), .int vA])), (aR, .inr (4, [.ref aRd, .ref aRo, .int rc, .int rl, .int rm])), (aRd, .inl (cI, 12, .inl rd)), (aRo, .inl (cI, 12, .inl ro)), (aP, .inr (3, [.ref aPc, .int pl]))]) hW [7, 8, 0, 1, 9, 10, 2, 3, 4, 5, 6] rfl (by decide)
                          exact W.zret (v := 1) hx hb hrt rfl (fun t ht hM => ⟨⟨1, (k1, k2, o7_.2.1, lc, lr, qi, qt, o7_.2.2, qp), rfl, ⟨rfl, jj_B (B := B) (by subst ho; exact hJ) (by omega)⟩, ⟨by rw [ht]; exact hW.1, hW.2.1⟩⟩, hW.2.2.F ht⟩) hW.2.2.2.2 dL_isBox_467 hlocks
                        · exact absurd c12 (by decide)
                  · exact absurd c9 (by decide)
              · skip
                refine lv_aload_n hx hb dL_isBox_267 rfl (lv_at hl 8 rfl) ?_
                refine lv_iconst (v := 2) hx hb dL_isBox_268 (by decide) ?_
                refine vp_callSl (va_Run.run (xrunV (As := [.int 2]) (rest := []) ⟨hx, hb, hml, hown, hts⟩ (c_X9_account l D cI cJ cZ cB H.size aX aV aL aLr 2 aVk aK aJ aP aQ aS aH aR tm k1 k2 k3 k4 k5 lc lr L qi qt qc qp (by assumption) (by assumption) _ rfl) (cwV 1 hts gL_isBox_X9_account rfl rfl rfl (by decide +kernel) ⟨Nat.le_of_ble_eq_true rfl, Nat.le_of_ble_eq_true rfl⟩) hK hG hW.2.2 (xsubP hW hA [0, 1, 4, 5] rfl (by decide)) (va_recv hK hW.1 (ci := 9) (q0 := 0) rfl rfl) rfl hl.1 rfl (Nat.le_of_ble_eq_true rfl) dL_isBox_269 ⟨Nat.le_of_ble_eq_true rfl, Nat.le_of_ble_eq_true rfl⟩)) (fun r9 hq => ?_)
                rw [hq, acc_2]
                refine lv_lstore (lv' := [(11, .long k2), (10, .int 0), (9, .int 0), (8, .int 0), (7, .int yb), (6, .int yw), (5, .int u38_s0), (4, .int 0), (3, .int lc), (0, .ref aX), (1, .ref b), (2, .int a0)]) hx hb dL_isBox_272 hl (by decide) rfl (fun ls hl => ?_)
                refine lv_iload hx hb dL_isBox_274 (lv_at hl 3 rfl) ?_
                refine lv_if_eq (tgt := 288) hx hb dL_isBox_276 (by decide) (fun c8 => ?_) (fun c8 => ?_)
                · skip
                  refine lv_iconst (v := 0) hx hb dL_isBox_288 (by decide) ?_
                  refine lv_istore (lv' := [(13, .int 0), (11, .long k2), (10, .int 0), (9, .int 0), (8, .int 0), (7, .int yb), (6, .int yw), (5, .int u38_s0), (4, .int 0), (3, .int lc), (0, .ref aX), (1, .ref b), (2, .int a0)]) hx hb dL_isBox_289 hl (by decide) rfl (fun ls hl => ?_)
                  refine lv_aload_n hx hb dL_isBox_291 rfl (lv_at hl 10 rfl) ?_
                  refine lv_iload hx hb dL_isBox_292 (lv_at hl 5 rfl) ?_
                  obtain ⟨o10_, eo10_⟩ : ∃ z9, f_X9_unload yb k2 lc lr vD qc = z9 := ⟨_, rfl⟩
                  refine xPi (wr := [(aS, .inr (6, [.ref aSv])), (aSv, .inl (cI, 11, .inl sf)), (aR, .inr (4, [.ref aRd, .ref aRo, .int rc, .int rl, .int rm])), (aRd, .inl (cI, 12, .inl rd)), (aRo, .inl (cI, 12, .inl ro)), (aP, .inr (3, [.ref aPc, .int pl]))]) hW hA [0, 1, 4, 5, 6] [2, 3, 7, 8, 9, 10] rfl rfl (by decide) (by decide) (by decide) (xrunV (As := [.int yb]) (rest := []) ⟨hx, hb, hml, hown, hts⟩ (c_X9_unload l D cI cJ cZ cB H.size aX aV aL aLr aH yb aVk aK aJ aP aQ aS aR tm k1 k2 k3 k4 k5 lc lr vT vG vM vO vN vD vA L qi qt qc qp (by assumption) (by assumption) o10_ eo10_) (cwV 1 hts gL_isBox_X9_unload rfl rfl rfl (by decide +kernel) ⟨Nat.le_of_ble_eq_true rfl, Nat.le_of_ble_eq_true rfl⟩) hK hG hW.2.2 (xsubP hW hA [0, 1, 4, 5, 6] rfl (by decide)) (va_recv hK hW.1 (ci := 9) (q0 := 0) rfl rfl) rfl hl.1 rfl (Nat.le_of_ble_eq_true rfl) dL_isBox_294 ⟨Nat.le_of_ble_eq_true rfl, Nat.le_of_ble_eq_true rfl⟩) (fun r11 _ H locs hq hW => ?_)
                  rw [hq]
                  have hW : xW D A s.heap ([(aS, .inr (6, [.ref aSv])), (aSv, .inl (cI, 11, .inl sf)), (aR, .inr (4, [.ref aRd, .ref aRo, .int rc, .int rl, .int rm])), (aRd, .inl (cI, 12, .inl rd)), (aRo, .inl (cI, 12, .inl ro)), (aP, .inr (3, [.ref aPc, .int pl])), (aX, .inr (9, [.ref aV, .ref aVk, .ref aK, .ref aJ, .ref aP, .ref aQ])), (aV, .inr (8, [.ref aS, .ref aL, .ref aH, .ref aR, .int tm, .long k1, .long o10_.2.1, .long k3, .long k4, .long k5])), (aL, .inr (2, [.ref aLr, .int o10_.2.2.1])), (aLr, .inl (cB, 10, .inr (.inr (.inr (.inr o10_.2.2.2))))), (aH, .inr (1, [.int vT, .long vG, .int vM, .int (bi vO), .int vN, .int (bi vD), .int vA]))] ++ bxP L qi qt qc qp) H _ := hW
                  have ho := un_none eo10_ hc c3
                  have hc2 : okC o10_.2.2.1 10 := by rw [ho]; exact hc
                  have hr2 : okR L o10_.2.2.2 := by rw [ho]; exact hr
                  refine lv_iload hx hb dL_isBox_297 (lv_at hl 4 rfl) ?_
                  refine lv_if_ne (tgt := 306) hx hb dL_isBox_299 (by decide) (fun c9 => ?_) (fun c9 => ?_)
                  · exact absurd c9 (by decide)
                  · skip
                    refine lv_iconst (v := -1) hx hb dL_isBox_302 (by decide) ?_
                    refine lv_goto (tgt := 318) hx hb dL_isBox_303 (by decide) ?_
                    refine lv_icmp_ne (tgt := 370) hx hb dL_isBox_318 (by decide) (fun c10 => ?_) (fun c10 => ?_)
                    · exact absurd (by subst ho; rfl) c10
                    · skip
                      refine lv_aload_n hx hb dL_isBox_321 rfl (lv_at hl 10 rfl) ?_
                      refine lv_bipush (v := 12) hx hb dL_isBox_322 (by decide) ?_
                      refine vp_callSi (va_Run.run (xrunV (As := [.int 12]) (rest := []) ⟨hx, hb, hml, hown, hts⟩ (c_X9_van l D cI cJ cZ cB H.size aX aV aS aSv aL aH aR aRo aP 12 aVk aK aJ aQ tm k1 o10_.2.1 k3 k4 k5 sf aLr o10_.2.2.1 vT vG vM vO vN vD vA aRd rc rl rm ro aPc pl (by assumption) _ rfl) (cwV 1 hts gL_isBox_X9_van rfl rfl rfl (by decide +kernel) ⟨Nat.le_of_ble_eq_true rfl, Nat.le_of_ble_eq_true rfl⟩) hK hG hW.2.2 (xsubQ hW hA [6, 7, 0, 1, 8, 10, 2, 4, 5] rfl (by decide)) (va_recv hK hW.1 (ci := 9) (q0 := 6) rfl rfl) rfl hl.1 rfl (Nat.le_of_ble_eq_true rfl) dL_isBox_324 ⟨Nat.le_of_ble_eq_true rfl, Nat.le_of_ble_eq_true rfl⟩)) (fun r12 hq => ?_)
                      rw [hq, van_12]
                      refine lv_iload hx hb dL_isBox_327 (lv_at hl 0 rfl) ?_
                      refine lv_if_eq (tgt := 338) hx hb dL_isBox_329 (by decide) (fun c11 => ?_) (fun c11 => ?_)
                      · skip
                        refine lv_iload_n hx hb dL_isBox_338 rfl (lv_at hl 9 rfl) ?_
                        refine lv_icmp_ne (tgt := 370) hx hb dL_isBox_339 (by decide) (fun c12 => ?_) (fun c12 => ?_)
                        · exact absurd (by subst ho; rfl) c12
                        · skip
                          refine lv_aload_n hx hb dL_isBox_342 rfl (lv_at hl 10 rfl) ?_
                          refine lv_iconst (v := 2) hx hb dL_isBox_343 (by decide) ?_
                          refine vp_callSl (va_Run.run (xrunV (As := [.int 2]) (rest := []) ⟨hx, hb, hml, hown, hts⟩ (c_X9_account l D cI cJ cZ cB H.size aX aV aL aLr 2 aVk aK aJ aP aQ aS aH aR tm k1 o10_.2.1 k3 k4 k5 o10_.2.2.1 o10_.2.2.2 L qi qt qc qp (by assumption) (by assumption) _ rfl) (cwV 1 hts gL_isBox_X9_account rfl rfl rfl (by decide +kernel) ⟨Nat.le_of_ble_eq_true rfl, Nat.le_of_ble_eq_true rfl⟩) hK hG hW.2.2 (xsubP hW hA [6, 7, 8, 9] rfl (by decide)) (va_recv hK hW.1 (ci := 9) (q0 := 6) rfl rfl) rfl hl.1 rfl (Nat.le_of_ble_eq_true rfl) dL_isBox_344 ⟨Nat.le_of_ble_eq_true rfl, Nat.le_of_ble_eq_true rfl⟩)) (fun r13 hq => ?_)
                          rw [hq, acc_2]
                          refine lv_lload hx hb dL_isBox_347 (lv_at hl 1 rfl) ?_
                          refine lv_iload hx hb dL_isBox_349 (lv_at hl 0 rfl) ?_
                          refine lv_if_eq (tgt := 359) hx hb dL_isBox_351 (by decide) (fun c13 => ?_) (fun c13 => ?_)
                          · skip
                            refine lv_iconst (v := 0) hx hb dL_isBox_359 (by decide) ?_
                            refine lv_i2l hx hb dL_isBox_360 rfl ?_
                            refine lv_ladd hx hb dL_isBox_361 ?_
                            refine xlc_ne (tgt := 370) hx hb dL_isBox_362 dL_isBox_363 (by decide) (fun c14 => ?_) (fun c14 => ?_)
                            · exact absurd (by subst ho; exact k_0) c14
                            · skip
                              refine lv_iconst (v := 1) hx hb dL_isBox_366 (by decide) ?_
                              refine lv_goto (tgt := 371) hx hb dL_isBox_367 (by decide) ?_
                              have hW := xW_perm (X' := [(aX, .inr (9, [.ref aV, .ref aVk, .ref aK, .ref aJ, .ref aP, .ref aQ])), (aV, .inr (8, [.ref aS, .ref aL, .ref aH, .ref aR, .int tm, .long k1, .long o10_.2.1, .long k3, .long k4, .long k5])), (aS, .inr (6, [.ref aSv])), (aSv, .inl (cI, 11, .inl sf)), (aL, .inr (2, [.ref aLr, .int o10_.2.2.1])), (aLr, .inl (cB, 10, .inr (.inr (.inr (.inr o10_.2.2.2))))), (aH, .inr (1, [.int vT, .long vG, .int vM, .int (bi vO), .int vN, .int (bi vD), .int vA])), (aR, .inr (4, [.ref aRd, .ref aRo, .int rc, .int rl, .int rm])), (aRd, .inl (cI, 12, .inl rd)), (aRo, .inl (cI, 12, .inl ro)), (aP, .inr (3, [.ref aPc, .int pl]))]) hW [6, 7, 0, 1, 8, 9, 10, 2, 3, 4, 5] rfl (by decide)
                              exact W.zret (v := 1) hx hb hrt rfl (fun t ht hM => ⟨⟨1, (k1, o10_.2.1, k5, o10_.2.2.1, o10_.2.2.2, qi, qt, qc, qp), rfl, ⟨rfl, jj_B (B := B) (by subst ho; exact hJ) (by omega)⟩, ⟨by rw [ht]; exact hW.1, hW.2.1⟩⟩, hW.2.2.F ht⟩) hW.2.2.2.2 dL_isBox_371 hlocks
                          · exact absurd c13 (by decide)
                      · exact absurd c11 (by decide)
                · exact absurd c8 (by decide)
            · skip
              refine lv_aload_n hx hb dL_isBox_113 rfl (lv_at hl 9 rfl) ?_
              refine lv_iload_n hx hb dL_isBox_114 rfl (lv_at hl 10 rfl) ?_
              refine lv_iconst (v := 2) hx hb dL_isBox_115 (by decide) ?_
              refine lv_iadd hx hb dL_isBox_116 ?_
              refine lv_ldc hx hb hown w3 dL_isBox_117 ?_
              refine xcell (k := a0 + 2) (n := 2000000) (rest := []) ⟨hx, hb, hml, hown, hts⟩ (cwS 3 hts gL_isBox_L_cell rfl rfl rfl (by decide +kernel) ⟨Nat.le_of_ble_eq_true rfl, Nat.le_of_ble_eq_true rfl⟩) hX hbl hbA hLn hW.2.2 (ck_2 hat) (by decide) hl.1 (Nat.le_of_ble_eq_true rfl) dL_isBox_119 ⟨Nat.le_of_ble_eq_true rfl, Nat.le_of_ble_eq_true rfl⟩ ?_
              obtain ⟨yp, eyp⟩ : ∃ z9, cellf Ln xs (a0 + 2) (2000000 : Int32) = z9 := ⟨_, rfl⟩
              rw [eyp]
              have hyp : 0 ≤ yp.toInt ∧ yp.toInt < 2000000 := cell_b (N := 2000000) (ck_2 hat) (by decide) (by decide) eyp
              refine lv_istore (lv' := [(11, .int yp), (10, .int 0), (9, .int 0), (8, .int 0), (7, .int yb), (6, .int yw), (5, .int u38_s0), (4, .int 0), (3, .int lc), (0, .ref aX), (1, .ref b), (2, .int a0)]) hx hb dL_isBox_122 hl (by decide) rfl (fun ls hl => ?_)
              refine lv_aload_n hx hb dL_isBox_124 rfl (lv_at hl 9 rfl) ?_
              refine lv_iconst (v := 1) hx hb dL_isBox_125 (by decide) ?_
              refine vp_callSl (va_Run.run (xrunV (As := [.int 1]) (rest := []) ⟨hx, hb, hml, hown, hts⟩ (c_X9_account l D cI cJ cZ cB H.size aX aV aL aLr 1 aVk aK aJ aP aQ aS aH aR tm k1 k2 k3 k4 k5 lc lr L qi qt qc qp (by assumption) (by assumption) _ rfl) (cwV 1 hts gL_isBox_X9_account rfl rfl rfl (by decide +kernel) ⟨Nat.le_of_ble_eq_true rfl, Nat.le_of_ble_eq_true rfl⟩) hK hG hW.2.2 (xsubP hW hA [0, 1, 4, 5] rfl (by decide)) (va_recv hK hW.1 (ci := 9) (q0 := 0) rfl rfl) rfl hl.1 rfl (Nat.le_of_ble_eq_true rfl) dL_isBox_126 ⟨Nat.le_of_ble_eq_true rfl, Nat.le_of_ble_eq_true rfl⟩)) (fun r14 hq => ?_)
              rw [hq, acc_1]
              refine lv_lstore (lv' := [(12, .long k1), (11, .int yp), (10, .int 0), (9, .int 0), (8, .int 0), (7, .int yb), (6, .int yw), (5, .int u38_s0), (4, .int 0), (3, .int lc), (0, .ref aX), (1, .ref b), (2, .int a0)]) hx hb dL_isBox_129 hl (by decide) rfl (fun ls hl => ?_)
              refine lv_iload_n hx hb dL_isBox_131 rfl (lv_at hl 9 rfl) ?_
              refine lv_bipush (v := 10) hx hb dL_isBox_132 (by decide) ?_
              refine lv_icmp_ge (tgt := 146) hx hb dL_isBox_134 (by decide) (fun c7 => ?_) (fun c7 => ?_)
              · skip
                refine lv_iconst (v := 0) hx hb dL_isBox_146 (by decide) ?_
                refine lv_istore (lv' := [(14, .int 0), (12, .long k1), (11, .int yp), (10, .int 0), (9, .int 0), (8, .int 0), (7, .int yb), (6, .int yw), (5, .int u38_s0), (4, .int 0), (3, .int lc), (0, .ref aX), (1, .ref b), (2, .int a0)]) hx hb dL_isBox_147 hl (by decide) rfl (fun ls hl => ?_)
                refine lv_aload_n hx hb dL_isBox_149 rfl (lv_at hl 11 rfl) ?_
                refine lv_iconst (v := 1) hx hb dL_isBox_150 (by decide) ?_
                refine lv_aload_n hx hb dL_isBox_151 rfl (lv_at hl 12 rfl) ?_
                refine lv_iload_n hx hb dL_isBox_152 rfl (lv_at hl 13 rfl) ?_
                refine lv_iconst (v := 3) hx hb dL_isBox_153 (by decide) ?_
                refine lv_iadd hx hb dL_isBox_154 ?_
                refine lv_bipush (v := 20) hx hb dL_isBox_155 (by decide) ?_
                refine xcell (k := a0 + 3) (n := 20) (rest := [.int 1, .ref aX]) ⟨hx, hb, hml, hown, hts⟩ (cwS 3 hts gL_isBox_L_cell rfl rfl rfl (by decide +kernel) ⟨Nat.le_of_ble_eq_true rfl, Nat.le_of_ble_eq_true rfl⟩) hX hbl hbA hLn hW.2.2 (ck_3 hat) (by decide) hl.1 (Nat.le_of_ble_eq_true rfl) dL_isBox_157 ⟨Nat.le_of_ble_eq_true rfl, Nat.le_of_ble_eq_true rfl⟩ ?_
                obtain ⟨yi, eyi⟩ : ∃ z9, cellf Ln xs (a0 + 3) (20 : Int32) = z9 := ⟨_, rfl⟩
                rw [eyi]
                have hyi : 0 ≤ yi.toInt ∧ yi.toInt < 20 := cell_b (N := 20) (ck_3 hat) (by decide) (by decide) eyi
                refine lv_iadd hx hb dL_isBox_160 ?_
                refine lv_bipush (v := 7) hx hb dL_isBox_161 (by decide) ?_
                refine lv_iload hx hb dL_isBox_163 (lv_at hl 2 rfl) ?_
                obtain ⟨o15_, eo15_⟩ : ∃ z9, f_X9_load (1 + yi) 7 yp k1 lc lr vD qi qt qc qp = z9 := ⟨_, rfl⟩
                refine xPi (wr := [(aS, .inr (6, [.ref aSv])), (aSv, .inl (cI, 11, .inl sf)), (aR, .inr (4, [.ref aRd, .ref aRo, .int rc, .int rl, .int rm])), (aRd, .inl (cI, 12, .inl rd)), (aRo, .inl (cI, 12, .inl ro)), (aP, .inr (3, [.ref aPc, .int pl]))]) hW hA [0, 1, 4, 5, 6] [2, 3, 7, 8, 9, 10] rfl rfl (by decide) (by decide) (by decide) (xrunV (As := [.int (1 + yi), .int 7, .int yp]) (rest := []) ⟨hx, hb, hml, hown, hts⟩ (c_X9_load l D cI cJ cZ cB H.size aX aV aL aLr aH (1 + yi) 7 yp aVk aK aJ aP aQ aS aR tm k1 k2 k3 k4 k5 lc lr vT vG vM vO vN vD vA L qi qt qc qp (by assumption) (by assumption) o15_ eo15_) (cwV 3 hts gL_isBox_X9_load rfl rfl rfl (by decide +kernel) ⟨Nat.le_of_ble_eq_true rfl, Nat.le_of_ble_eq_true rfl⟩) hK hG hW.2.2 (xsubP hW hA [0, 1, 4, 5, 6] rfl (by decide)) (va_recv hK hW.1 (ci := 9) (q0 := 0) rfl rfl) rfl hl.1 rfl (Nat.le_of_ble_eq_true rfl) dL_isBox_165 ⟨Nat.le_of_ble_eq_true rfl, Nat.le_of_ble_eq_true rfl⟩) (fun r16 _ H locs hq hW => ?_)
                rw [hq]
                have hW : xW D A s.heap ([(aS, .inr (6, [.ref aSv])), (aSv, .inl (cI, 11, .inl sf)), (aR, .inr (4, [.ref aRd, .ref aRo, .int rc, .int rl, .int rm])), (aRd, .inl (cI, 12, .inl rd)), (aRo, .inl (cI, 12, .inl ro)), (aP, .inr (3, [.ref aPc, .int pl])), (aX, .inr (9, [.ref aV, .ref aVk, .ref aK, .ref aJ, .ref aP, .ref aQ])), (aV, .inr (8, [.ref aS, .ref aL, .ref aH, .ref aR, .int tm, .long o15_.2.1, .long k2, .long k3, .long k4, .long k5])), (aL, .inr (2, [.ref aLr, .int o15_.2.2.1])), (aLr, .inl (cB, 10, .inr (.inr (.inr (.inr lr))))), (aH, .inr (1, [.int vT, .long vG, .int vM, .int (bi vO), .int vN, .int (bi vD), .int vA]))] ++ bxP L o15_.2.2.2.1 o15_.2.2.2.2.1 o15_.2.2.2.2.2.1 o15_.2.2.2.2.2.2) H _ := hW
                have ho := ld_full eo15_ (i_b hyi) (p_b hyp) c7
                have hc2 : okC o15_.2.2.1 10 := by rw [ho]; exact hc
                refine lv_iload_n hx hb dL_isBox_168 rfl (lv_at hl 10 rfl) ?_
                refine lv_bipush (v := 10) hx hb dL_isBox_169 (by decide) ?_
                refine lv_icmp_ne (tgt := 179) hx hb dL_isBox_171 (by decide) (fun c8 => ?_) (fun c8 => ?_)
                · exact absurd (n10_t hc c7) c8
                · skip
                  refine lv_bipush (v := -4) hx hb dL_isBox_174 (by decide) ?_
                  refine lv_goto (tgt := 190) hx hb dL_isBox_176 (by decide) ?_
                  refine lv_icmp_ne (tgt := 259) hx hb dL_isBox_190 (by decide) (fun c9 => ?_) (fun c9 => ?_)
                  · exact absurd (by subst ho; rfl) c9
                  · skip
                    refine lv_aload_n hx hb dL_isBox_193 rfl (lv_at hl 11 rfl) ?_
                    refine lv_iconst (v := 1) hx hb dL_isBox_194 (by decide) ?_
                    refine vp_callSl (va_Run.run (xrunV (As := [.int 1]) (rest := []) ⟨hx, hb, hml, hown, hts⟩ (c_X9_account l D cI cJ cZ cB H.size aX aV aL aLr 1 aVk aK aJ aP aQ aS aH aR tm o15_.2.1 k2 k3 k4 k5 o15_.2.2.1 lr L o15_.2.2.2.1 o15_.2.2.2.2.1 o15_.2.2.2.2.2.1 o15_.2.2.2.2.2.2 (by assumption) (by assumption) _ rfl) (cwV 1 hts gL_isBox_X9_account rfl rfl rfl (by decide +kernel) ⟨Nat.le_of_ble_eq_true rfl, Nat.le_of_ble_eq_true rfl⟩) hK hG hW.2.2 (xsubP hW hA [6, 7, 8, 9] rfl (by decide)) (va_recv hK hW.1 (ci := 9) (q0 := 6) rfl rfl) rfl hl.1 rfl (Nat.le_of_ble_eq_true rfl) dL_isBox_195 ⟨Nat.le_of_ble_eq_true rfl, Nat.le_of_ble_eq_true rfl⟩)) (fun r17 hq => ?_)
                    rw [hq, acc_1]
                    refine lv_lload hx hb dL_isBox_198 (lv_at hl 1 rfl) ?_
                    refine lv_iload hx hb dL_isBox_200 (lv_at hl 0 rfl) ?_
                    refine lv_if_eq (tgt := 210) hx hb dL_isBox_202 (by decide) (fun c10 => ?_) (fun c10 => ?_)
                    · skip
                      refine lv_iconst (v := 0) hx hb dL_isBox_210 (by decide) ?_
                      refine lv_i2l hx hb dL_isBox_211 rfl ?_
                      refine lv_ladd hx hb dL_isBox_212 ?_
                      refine xlc_ne (tgt := 259) hx hb dL_isBox_213 dL_isBox_214 (by decide) (fun c11 => ?_) (fun c11 => ?_)
                      · exact absurd (by subst ho; exact k_0) c11
                      · skip
                        refine lv_iload hx hb dL_isBox_217 (lv_at hl 0 rfl) ?_
                        refine lv_if_eq (tgt := 255) hx hb dL_isBox_219 (by decide) (fun c12 => ?_) (fun c12 => ?_)
                        · skip
                          refine lv_iconst (v := 1) hx hb dL_isBox_255 (by decide) ?_
                          refine lv_goto (tgt := 260) hx hb dL_isBox_256 (by decide) ?_
                          have hW := xW_perm (X' := [(aX, .inr (9, [.ref aV, .ref aVk, .ref aK, .ref aJ, .ref aP, .ref aQ])), (aV, .inr (8, [.ref aS, .ref aL, .ref aH, .ref aR, .int tm, .long o15_.2.1, .long k2, .long k3, .long k4, .long k5])), (aS, .inr (6, [.ref aSv])), (aSv, .inl (cI, 11, .inl sf)), (aL, .inr (2, [.ref aLr, .int o15_.2.2.1])), (aLr, .inl (cB, 10, .inr (.inr (.inr (.inr lr))))), (aH, .inr (1, [.int vT, .long vG, .int vM, .int (bi vO), .int vN, .int (bi vD), .int vA])), (aR, .inr (4, [.ref aRd, .ref aRo, .int rc, .int rl, .int rm])), (aRd, .inl (cI, 12, .inl rd)), (aRo, .inl (cI, 12, .inl ro)), (aP, .inr (3, [.ref aPc, .int pl]))]) hW [6, 7, 0, 1, 8, 9, 10, 2, 3, 4, 5] rfl (by decide)
                          exact W.zret (v := 1) hx hb hrt rfl (fun t ht hM => ⟨⟨1, (o15_.2.1, k2, k5, o15_.2.2.1, lr, o15_.2.2.2.1, o15_.2.2.2.2.1, o15_.2.2.2.2.2.1, o15_.2.2.2.2.2.2), rfl, ⟨rfl, jj_B (B := B) (by subst ho; exact hJ) (by omega)⟩, ⟨by rw [ht]; exact hW.1, hW.2.1⟩⟩, hW.2.2.F ht⟩) hW.2.2.2.2 dL_isBox_260 hlocks
                        · exact absurd c12 (by decide)
                    · exact absurd c10 (by decide)
              · skip
                refine lv_iload hx hb dL_isBox_137 (lv_at hl 8 rfl) ?_
                refine lv_if_eq (tgt := 146) hx hb dL_isBox_139 (by decide) (fun c8 => ?_) (fun c8 => ?_)
                · skip
                  refine lv_iconst (v := 0) hx hb dL_isBox_146 (by decide) ?_
                  refine lv_istore (lv' := [(14, .int 0), (12, .long k1), (11, .int yp), (10, .int 0), (9, .int 0), (8, .int 0), (7, .int yb), (6, .int yw), (5, .int u38_s0), (4, .int 0), (3, .int lc), (0, .ref aX), (1, .ref b), (2, .int a0)]) hx hb dL_isBox_147 hl (by decide) rfl (fun ls hl => ?_)
                  refine lv_aload_n hx hb dL_isBox_149 rfl (lv_at hl 11 rfl) ?_
                  refine lv_iconst (v := 1) hx hb dL_isBox_150 (by decide) ?_
                  refine lv_aload_n hx hb dL_isBox_151 rfl (lv_at hl 12 rfl) ?_
                  refine lv_iload_n hx hb dL_isBox_152 rfl (lv_at hl 13 rfl) ?_
                  refine lv_iconst (v := 3) hx hb dL_isBox_153 (by decide) ?_
                  refine lv_iadd hx hb dL_isBox_154 ?_
                  refine lv_bipush (v := 20) hx hb dL_isBox_155 (by decide) ?_
                  refine xcell (k := a0 + 3) (n := 20) (rest := [.int 1, .ref aX]) ⟨hx, hb, hml, hown, hts⟩ (cwS 3 hts gL_isBox_L_cell rfl rfl rfl (by decide +kernel) ⟨Nat.le_of_ble_eq_true rfl, Nat.le_of_ble_eq_true rfl⟩) hX hbl hbA hLn hW.2.2 (ck_3 hat) (by decide) hl.1 (Nat.le_of_ble_eq_true rfl) dL_isBox_157 ⟨Nat.le_of_ble_eq_true rfl, Nat.le_of_ble_eq_true rfl⟩ ?_
                  obtain ⟨yi, eyi⟩ : ∃ z9, cellf Ln xs (a0 + 3) (20 : Int32) = z9 := ⟨_, rfl⟩
                  rw [eyi]
                  have hyi : 0 ≤ yi.toInt ∧ yi.toInt < 20 := cell_b (N := 20) (ck_3 hat) (by decide) (by decide) eyi
                  refine lv_iadd hx hb dL_isBox_160 ?_
                  refine lv_bipush (v := 7) hx hb dL_isBox_161 (by decide) ?_
                  refine lv_iload hx hb dL_isBox_163 (lv_at hl 2 rfl) ?_
                  obtain ⟨o18_, eo18_⟩ : ∃ z9, f_X9_load (1 + yi) 7 yp k1 lc lr vD qi qt qc qp = z9 := ⟨_, rfl⟩
                  refine xPi (wr := [(aS, .inr (6, [.ref aSv])), (aSv, .inl (cI, 11, .inl sf)), (aR, .inr (4, [.ref aRd, .ref aRo, .int rc, .int rl, .int rm])), (aRd, .inl (cI, 12, .inl rd)), (aRo, .inl (cI, 12, .inl ro)), (aP, .inr (3, [.ref aPc, .int pl]))]) hW hA [0, 1, 4, 5, 6] [2, 3, 7, 8, 9, 10] rfl rfl (by decide) (by decide) (by decide) (xrunV (As := [.int (1 + yi), .int 7, .int yp]) (rest := []) ⟨hx, hb, hml, hown, hts⟩ (c_X9_load l D cI cJ cZ cB H.size aX aV aL aLr aH (1 + yi) 7 yp aVk aK aJ aP aQ aS aR tm k1 k2 k3 k4 k5 lc lr vT vG vM vO vN vD vA L qi qt qc qp (by assumption) (by assumption) o18_ eo18_) (cwV 3 hts gL_isBox_X9_load rfl rfl rfl (by decide +kernel) ⟨Nat.le_of_ble_eq_true rfl, Nat.le_of_ble_eq_true rfl⟩) hK hG hW.2.2 (xsubP hW hA [0, 1, 4, 5, 6] rfl (by decide)) (va_recv hK hW.1 (ci := 9) (q0 := 0) rfl rfl) rfl hl.1 rfl (Nat.le_of_ble_eq_true rfl) dL_isBox_165 ⟨Nat.le_of_ble_eq_true rfl, Nat.le_of_ble_eq_true rfl⟩) (fun r19 _ H locs hq hW => ?_)
                  rw [hq]
                  have hW : xW D A s.heap ([(aS, .inr (6, [.ref aSv])), (aSv, .inl (cI, 11, .inl sf)), (aR, .inr (4, [.ref aRd, .ref aRo, .int rc, .int rl, .int rm])), (aRd, .inl (cI, 12, .inl rd)), (aRo, .inl (cI, 12, .inl ro)), (aP, .inr (3, [.ref aPc, .int pl])), (aX, .inr (9, [.ref aV, .ref aVk, .ref aK, .ref aJ, .ref aP, .ref aQ])), (aV, .inr (8, [.ref aS, .ref aL, .ref aH, .ref aR, .int tm, .long o18_.2.1, .long k2, .long k3, .long k4, .long k5])), (aL, .inr (2, [.ref aLr, .int o18_.2.2.1])), (aLr, .inl (cB, 10, .inr (.inr (.inr (.inr lr))))), (aH, .inr (1, [.int vT, .long vG, .int vM, .int (bi vO), .int vN, .int (bi vD), .int vA]))] ++ bxP L o18_.2.2.2.1 o18_.2.2.2.2.1 o18_.2.2.2.2.2.1 o18_.2.2.2.2.2.2) H _ := hW
                  have ho := ld_shut eo18_ (i_b hyi) (p_b hyp) c7 c1
                  have hc2 : okC o18_.2.2.1 10 := by rw [ho]; exact hc
                  refine lv_iload_n hx hb dL_isBox_168 rfl (lv_at hl 10 rfl) ?_
                  refine lv_bipush (v := 10) hx hb dL_isBox_169 (by decide) ?_
                  refine lv_icmp_ne (tgt := 179) hx hb dL_isBox_171 (by decide) (fun c9 => ?_) (fun c9 => ?_)
                  · skip
                    refine lv_iload hx hb dL_isBox_179 (lv_at hl 9 rfl) ?_
                    refine lv_if_eq (tgt := 188) hx hb dL_isBox_181 (by decide) (fun c10 => ?_) (fun c10 => ?_)
                    · skip
                      refine lv_bipush (v := -5) hx hb dL_isBox_188 (by decide) ?_
                      refine lv_icmp_ne (tgt := 259) hx hb dL_isBox_190 (by decide) (fun c11 => ?_) (fun c11 => ?_)
                      · exact absurd (by subst ho; rfl) c11
                      · skip
                        refine lv_aload_n hx hb dL_isBox_193 rfl (lv_at hl 11 rfl) ?_
                        refine lv_iconst (v := 1) hx hb dL_isBox_194 (by decide) ?_
                        refine vp_callSl (va_Run.run (xrunV (As := [.int 1]) (rest := []) ⟨hx, hb, hml, hown, hts⟩ (c_X9_account l D cI cJ cZ cB H.size aX aV aL aLr 1 aVk aK aJ aP aQ aS aH aR tm o18_.2.1 k2 k3 k4 k5 o18_.2.2.1 lr L o18_.2.2.2.1 o18_.2.2.2.2.1 o18_.2.2.2.2.2.1 o18_.2.2.2.2.2.2 (by assumption) (by assumption) _ rfl) (cwV 1 hts gL_isBox_X9_account rfl rfl rfl (by decide +kernel) ⟨Nat.le_of_ble_eq_true rfl, Nat.le_of_ble_eq_true rfl⟩) hK hG hW.2.2 (xsubP hW hA [6, 7, 8, 9] rfl (by decide)) (va_recv hK hW.1 (ci := 9) (q0 := 6) rfl rfl) rfl hl.1 rfl (Nat.le_of_ble_eq_true rfl) dL_isBox_195 ⟨Nat.le_of_ble_eq_true rfl, Nat.le_of_ble_eq_true rfl⟩)) (fun r20 hq => ?_)
                        rw [hq, acc_1]
                        refine lv_lload hx hb dL_isBox_198 (lv_at hl 1 rfl) ?_
                        refine lv_iload hx hb dL_isBox_200 (lv_at hl 0 rfl) ?_
                        refine lv_if_eq (tgt := 210) hx hb dL_isBox_202 (by decide) (fun c12 => ?_) (fun c12 => ?_)
                        · skip
                          refine lv_iconst (v := 0) hx hb dL_isBox_210 (by decide) ?_
                          refine lv_i2l hx hb dL_isBox_211 rfl ?_
                          refine lv_ladd hx hb dL_isBox_212 ?_
                          refine xlc_ne (tgt := 259) hx hb dL_isBox_213 dL_isBox_214 (by decide) (fun c13 => ?_) (fun c13 => ?_)
                          · exact absurd (by subst ho; exact k_0) c13
                          · skip
                            refine lv_iload hx hb dL_isBox_217 (lv_at hl 0 rfl) ?_
                            refine lv_if_eq (tgt := 255) hx hb dL_isBox_219 (by decide) (fun c14 => ?_) (fun c14 => ?_)
                            · skip
                              refine lv_iconst (v := 1) hx hb dL_isBox_255 (by decide) ?_
                              refine lv_goto (tgt := 260) hx hb dL_isBox_256 (by decide) ?_
                              have hW := xW_perm (X' := [(aX, .inr (9, [.ref aV, .ref aVk, .ref aK, .ref aJ, .ref aP, .ref aQ])), (aV, .inr (8, [.ref aS, .ref aL, .ref aH, .ref aR, .int tm, .long o18_.2.1, .long k2, .long k3, .long k4, .long k5])), (aS, .inr (6, [.ref aSv])), (aSv, .inl (cI, 11, .inl sf)), (aL, .inr (2, [.ref aLr, .int o18_.2.2.1])), (aLr, .inl (cB, 10, .inr (.inr (.inr (.inr lr))))), (aH, .inr (1, [.int vT, .long vG, .int vM, .int (bi vO), .int vN, .int (bi vD), .int vA])), (aR, .inr (4, [.ref aRd, .ref aRo, .int rc, .int rl, .int rm])), (aRd, .inl (cI, 12, .inl rd)), (aRo, .inl (cI, 12, .inl ro)), (aP, .inr (3, [.ref aPc, .int pl]))]) hW [6, 7, 0, 1, 8, 9, 10, 2, 3, 4, 5] rfl (by decide)
                              exact W.zret (v := 1) hx hb hrt rfl (fun t ht hM => ⟨⟨1, (o18_.2.1, k2, k5, o18_.2.2.1, lr, o18_.2.2.2.1, o18_.2.2.2.2.1, o18_.2.2.2.2.2.1, o18_.2.2.2.2.2.2), rfl, ⟨rfl, jj_B (B := B) (by subst ho; exact hJ) (by omega)⟩, ⟨by rw [ht]; exact hW.1, hW.2.1⟩⟩, hW.2.2.F ht⟩) hW.2.2.2.2 dL_isBox_260 hlocks
                            · exact absurd c14 (by decide)
                        · exact absurd c12 (by decide)
                    · exact absurd c10 (by decide)
                  · exact absurd c9 (n10_f c7)
                · exact absurd c8 (by decide)
          · exact absurd c5 (by decide)
        · exact absurd c4 (by decide)
      · skip
        refine lv_iconst (v := 1) hx hb dL_isBox_65 (by decide) ?_
        refine lv_goto (tgt := 70) hx hb dL_isBox_66 (by decide) ?_
        refine lv_istore (lv' := [(8, .int 1), (7, .int yb), (6, .int yw), (5, .int u38_s0), (4, .int 0), (3, .int lc), (0, .ref aX), (1, .ref b), (2, .int a0)]) hx hb dL_isBox_70 hl (by decide) rfl (fun ls hl => ?_)
        refine lv_iload hx hb dL_isBox_72 (lv_at hl 0 rfl) ?_
        refine lv_if_eq (tgt := 87) hx hb dL_isBox_74 (by decide) (fun c4 => ?_) (fun c4 => ?_)
        · exact absurd c4 (by decide)
        · skip
          refine lv_aload_n hx hb dL_isBox_77 rfl (lv_at hl 6 rfl) ?_
          refine lv_iload hx hb dL_isBox_78 (lv_at hl 1 rfl) ?_
          refine lv_iconst (v := 2) hx hb dL_isBox_80 (by decide) ?_
          refine vp_callSi (va_Run.run (xrunV (As := [.int yb, .int 2]) (rest := []) ⟨hx, hb, hml, hown, hts⟩ (c_X9_box l D cI cJ cZ cB H.size aX aV aS aSv aL aLr aH yb 2 aVk aK aJ aP aQ aR tm k1 k2 k3 k4 k5 sf lc lr vT vG vM vO vN vD vA L qi qt qc qp (by assumption) (by assumption) _ rfl) (cwV 2 hts gL_isBox_X9_box rfl rfl rfl (by decide +kernel) ⟨Nat.le_of_ble_eq_true rfl, Nat.le_of_ble_eq_true rfl⟩) hK hG hW.2.2 (xsubP hW hA [0, 1, 2, 3, 4, 5, 6] rfl (by decide)) (va_recv hK hW.1 (ci := 9) (q0 := 0) rfl rfl) rfl hl.1 rfl (Nat.le_of_ble_eq_true rfl) dL_isBox_81 ⟨Nat.le_of_ble_eq_true rfl, Nat.le_of_ble_eq_true rfl⟩)) (fun r21 hq => ?_)
          rw [hq, bx_2 (at_w hc hyb.1 c3)]
          refine lv_goto (tgt := 88) hx hb dL_isBox_84 (by decide) ?_
          refine lv_istore (lv' := [(9, .int (qc (bxa lr yb.toNatClampNeg))), (8, .int 1), (7, .int yb), (6, .int yw), (5, .int u38_s0), (4, .int 0), (3, .int lc), (0, .ref aX), (1, .ref b), (2, .int a0)]) hx hb dL_isBox_88 hl (by decide) rfl (fun ls hl => ?_)
          refine lv_iload hx hb dL_isBox_90 (lv_at hl 1 rfl) ?_
          refine lv_if_eq (tgt := 105) hx hb dL_isBox_92 (by decide) (fun c5 => ?_) (fun c5 => ?_)
          · exact absurd c5 (by decide)
          · skip
            refine lv_aload_n hx hb dL_isBox_95 rfl (lv_at hl 7 rfl) ?_
            refine lv_iload hx hb dL_isBox_96 (lv_at hl 2 rfl) ?_
            refine lv_iconst (v := 3) hx hb dL_isBox_98 (by decide) ?_
            refine vp_callSi (va_Run.run (xrunV (As := [.int yb, .int 3]) (rest := []) ⟨hx, hb, hml, hown, hts⟩ (c_X9_box l D cI cJ cZ cB H.size aX aV aS aSv aL aLr aH yb 3 aVk aK aJ aP aQ aR tm k1 k2 k3 k4 k5 sf lc lr vT vG vM vO vN vD vA L qi qt qc qp (by assumption) (by assumption) _ rfl) (cwV 2 hts gL_isBox_X9_box rfl rfl rfl (by decide +kernel) ⟨Nat.le_of_ble_eq_true rfl, Nat.le_of_ble_eq_true rfl⟩) hK hG hW.2.2 (xsubP hW hA [0, 1, 2, 3, 4, 5, 6] rfl (by decide)) (va_recv hK hW.1 (ci := 9) (q0 := 0) rfl rfl) rfl hl.1 rfl (Nat.le_of_ble_eq_true rfl) dL_isBox_99 ⟨Nat.le_of_ble_eq_true rfl, Nat.le_of_ble_eq_true rfl⟩)) (fun r22 hq => ?_)
            rw [hq, bx_3 (at_w hc hyb.1 c3)]
            refine lv_goto (tgt := 106) hx hb dL_isBox_102 (by decide) ?_
            refine lv_istore (lv' := [(10, .int (qp (bxa lr yb.toNatClampNeg))), (9, .int (qc (bxa lr yb.toNatClampNeg))), (8, .int 1), (7, .int yb), (6, .int yw), (5, .int u38_s0), (4, .int 0), (3, .int lc), (0, .ref aX), (1, .ref b), (2, .int a0)]) hx hb dL_isBox_106 hl (by decide) rfl (fun ls hl => ?_)
            refine lv_iload hx hb dL_isBox_108 (lv_at hl 4 rfl) ?_
            refine lv_if_ne (tgt := 261) hx hb dL_isBox_110 (by decide) (fun c6 => ?_) (fun c6 => ?_)
            · skip
              refine lv_iload hx hb dL_isBox_261 (lv_at hl 4 rfl) ?_
              refine lv_iconst (v := 1) hx hb dL_isBox_263 (by decide) ?_
              refine lv_icmp_ne (tgt := 372) hx hb dL_isBox_264 (by decide) (fun c7 => ?_) (fun c7 => ?_)
              · skip
                refine lv_iload hx hb dL_isBox_372 (lv_at hl 4 rfl) ?_
                refine lv_iconst (v := 2) hx hb dL_isBox_374 (by decide) ?_
                refine lv_icmp_ne (tgt := 468) hx hb dL_isBox_375 (by decide) (fun c8 => ?_) (fun c8 => ?_)
                · skip
                  refine lv_iload hx hb dL_isBox_468 (lv_at hl 4 rfl) ?_
                  refine lv_iconst (v := 3) hx hb dL_isBox_470 (by decide) ?_
                  refine lv_icmp_ne (tgt := 579) hx hb dL_isBox_471 (by decide) (fun c9 => ?_) (fun c9 => ?_)
                  · skip
                    refine lv_aload_n hx hb dL_isBox_579 rfl (lv_at hl 9 rfl) ?_
                    refine lv_iload_n hx hb dL_isBox_580 rfl (lv_at hl 10 rfl) ?_
                    refine lv_iconst (v := 2) hx hb dL_isBox_581 (by decide) ?_
                    refine lv_iadd hx hb dL_isBox_582 ?_
                    refine lv_bipush (v := 10) hx hb dL_isBox_583 (by decide) ?_
                    refine xcell (k := a0 + 2) (n := 10) (rest := []) ⟨hx, hb, hml, hown, hts⟩ (cwS 3 hts gL_isBox_L_cell rfl rfl rfl (by decide +kernel) ⟨Nat.le_of_ble_eq_true rfl, Nat.le_of_ble_eq_true rfl⟩) hX hbl hbA hLn hW.2.2 (ck_2 hat) (by decide) hl.1 (Nat.le_of_ble_eq_true rfl) dL_isBox_585 ⟨Nat.le_of_ble_eq_true rfl, Nat.le_of_ble_eq_true rfl⟩ ?_
                    obtain ⟨yt, eyt⟩ : ∃ z9, cellf Ln xs (a0 + 2) (10 : Int32) = z9 := ⟨_, rfl⟩
                    rw [eyt]
                    have hyt : 0 ≤ yt.toInt ∧ yt.toInt < 10 := cell_b (N := 10) (ck_2 hat) (by decide) (by decide) eyt
                    refine lv_istore (lv' := [(11, .int yt), (10, .int (qp (bxa lr yb.toNatClampNeg))), (9, .int (qc (bxa lr yb.toNatClampNeg))), (8, .int 1), (7, .int yb), (6, .int yw), (5, .int u38_s0), (4, .int 0), (3, .int lc), (0, .ref aX), (1, .ref b), (2, .int a0)]) hx hb dL_isBox_588 hl (by decide) rfl (fun ls hl => ?_)
                    refine lv_iload hx hb dL_isBox_590 (lv_at hl 3 rfl) ?_
                    refine lv_if_eq (tgt := 605) hx hb dL_isBox_592 (by decide) (fun c10 => ?_) (fun c10 => ?_)
                    · exact absurd c10 (by decide)
                    · skip
                      refine lv_iload hx hb dL_isBox_595 (lv_at hl 0 rfl) ?_
                      refine lv_iload_n hx hb dL_isBox_597 rfl (lv_at hl 8 rfl) ?_
                      refine lv_icmp_ge (tgt := 605) hx hb dL_isBox_598 (by decide) (fun c11 => ?_) (fun c11 => ?_)
                      · skip
                        refine lv_iconst (v := 0) hx hb dL_isBox_605 (by decide) ?_
                        refine lv_istore (lv' := [(12, .int 0), (11, .int yt), (10, .int (qp (bxa lr yb.toNatClampNeg))), (9, .int (qc (bxa lr yb.toNatClampNeg))), (8, .int 1), (7, .int yb), (6, .int yw), (5, .int u38_s0), (4, .int 0), (3, .int lc), (0, .ref aX), (1, .ref b), (2, .int a0)]) hx hb dL_isBox_606 hl (by decide) rfl (fun ls hl => ?_)
                        refine lv_iload hx hb dL_isBox_608 (lv_at hl 0 rfl) ?_
                        refine lv_if_eq (tgt := 623) hx hb dL_isBox_610 (by decide) (fun c12 => ?_) (fun c12 => ?_)
                        · skip
                          refine lv_iconst (v := 0) hx hb dL_isBox_623 (by decide) ?_
                          refine lv_istore (lv' := [(13, .int 0), (12, .int 0), (11, .int yt), (10, .int (qp (bxa lr yb.toNatClampNeg))), (9, .int (qc (bxa lr yb.toNatClampNeg))), (8, .int 1), (7, .int yb), (6, .int yw), (5, .int u38_s0), (4, .int 0), (3, .int lc), (0, .ref aX), (1, .ref b), (2, .int a0)]) hx hb dL_isBox_624 hl (by decide) rfl (fun ls hl => ?_)
                          refine lv_aload_n hx hb dL_isBox_626 rfl (lv_at hl 11 rfl) ?_
                          refine lv_iload hx hb dL_isBox_627 (lv_at hl 6 rfl) ?_
                          refine lv_iload hx hb dL_isBox_629 (lv_at hl 2 rfl) ?_
                          refine xPi (wr := [(aS, .inr (6, [.ref aSv])), (aSv, .inl (cI, 11, .inl sf)), (aH, .inr (1, [.int vT, .long vG, .int vM, .int (bi vO), .int vN, .int (bi vD), .int vA])), (aR, .inr (4, [.ref aRd, .ref aRo, .int rc, .int rl, .int rm])), (aRd, .inl (cI, 12, .inl rd)), (aRo, .inl (cI, 12, .inl ro)), (aP, .inr (3, [.ref aPc, .int pl]))]) hW hA [0, 1, 4, 5] [2, 3, 6, 7, 8, 9, 10] rfl rfl (by decide) (by decide) (by decide) (xrunV (As := [.int yb, .int yt]) (rest := []) ⟨hx, hb, hml, hown, hts⟩ (c_X9_shift l D cI cJ cZ cB H.size aX aV aL aLr yb yt aVk aK aJ aP aQ aS aH aR tm k1 k2 k3 k4 k5 lc lr L qi qt qc qp (by assumption) (by assumption) _ rfl) (cwV 2 hts gL_isBox_X9_shift rfl rfl rfl (by decide +kernel) ⟨Nat.le_of_ble_eq_true rfl, Nat.le_of_ble_eq_true rfl⟩) hK hG hW.2.2 (xsubP hW hA [0, 1, 4, 5] rfl (by decide)) (va_recv hK hW.1 (ci := 9) (q0 := 0) rfl rfl) rfl hl.1 rfl (Nat.le_of_ble_eq_true rfl) dL_isBox_631 ⟨Nat.le_of_ble_eq_true rfl, Nat.le_of_ble_eq_true rfl⟩) (fun r23 _ H locs hq hW => ?_)
                          rw [hq]
                          have hW : xW D A s.heap ([(aS, .inr (6, [.ref aSv])), (aSv, .inl (cI, 11, .inl sf)), (aH, .inr (1, [.int vT, .long vG, .int vM, .int (bi vO), .int vN, .int (bi vD), .int vA])), (aR, .inr (4, [.ref aRd, .ref aRo, .int rc, .int rl, .int rm])), (aRd, .inl (cI, 12, .inl rd)), (aRo, .inl (cI, 12, .inl ro)), (aP, .inr (3, [.ref aPc, .int pl])), (aX, .inr (9, [.ref aV, .ref aVk, .ref aK, .ref aJ, .ref aP, .ref aQ])), (aV, .inr (8, [.ref aS, .ref aL, .ref aH, .ref aR, .int tm, .long k1, .long k2, .long k3, .long k4, .long k5])), (aL, .inr (2, [.ref aLr, .int lc])), (aLr, .inl (cB, 10, .inr (.inr (.inr (.inr (f_X9_shift yb yt lc lr qc).2)))))] ++ bxP L qi qt qc qp) H _ := hW
                          have ho := sh_to (lr := lr) (qc := qc) hc (at_w hc hyb.1 c3) c11
                          have hr2 : okR L (f_X9_shift yb yt lc lr qc).2 := by rw [ho]; exact hr
                          refine lv_iload hx hb dL_isBox_634 (lv_at hl 1 rfl) ?_
                          refine lv_if_eq (tgt := 644) hx hb dL_isBox_636 (by decide) (fun c13 => ?_) (fun c13 => ?_)
                          · skip
                            refine lv_iconst (v := -1) hx hb dL_isBox_644 (by decide) ?_
                            refine lv_icmp_ne (tgt := 716) hx hb dL_isBox_645 (by decide) (fun c14 => ?_) (fun c14 => ?_)
                            · exact absurd (congrArg Prod.fst ho) c14
                            · skip
                              refine lv_iload hx hb dL_isBox_648 (lv_at hl 1 rfl) ?_
                              refine lv_if_eq (tgt := 712) hx hb dL_isBox_650 (by decide) (fun c15 => ?_) (fun c15 => ?_)
                              · skip
                                refine lv_iconst (v := 1) hx hb dL_isBox_712 (by decide) ?_
                                refine lv_goto (tgt := 717) hx hb dL_isBox_713 (by decide) ?_
                                have hW := xW_perm (X' := [(aX, .inr (9, [.ref aV, .ref aVk, .ref aK, .ref aJ, .ref aP, .ref aQ])), (aV, .inr (8, [.ref aS, .ref aL, .ref aH, .ref aR, .int tm, .long k1, .long k2, .long k3, .long k4, .long k5])), (aS, .inr (6, [.ref aSv])), (aSv, .inl (cI, 11, .inl sf)), (aL, .inr (2, [.ref aLr, .int lc])), (aLr, .inl (cB, 10, .inr (.inr (.inr (.inr (f_X9_shift yb yt lc lr qc).2))))), (aH, .inr (1, [.int vT, .long vG, .int vM, .int (bi vO), .int vN, .int (bi vD), .int vA])), (aR, .inr (4, [.ref aRd, .ref aRo, .int rc, .int rl, .int rm])), (aRd, .inl (cI, 12, .inl rd)), (aRo, .inl (cI, 12, .inl ro)), (aP, .inr (3, [.ref aPc, .int pl]))]) hW [7, 8, 0, 1, 9, 10, 2, 3, 4, 5, 6] rfl (by decide)
                                exact W.zret (v := 1) hx hb hrt rfl (fun t ht hM => ⟨⟨1, (k1, k2, k5, lc, (f_X9_shift yb yt lc lr qc).2, qi, qt, qc, qp), rfl, ⟨rfl, jj_B (B := B) (by rw [ho]; exact hJ) (by omega)⟩, ⟨by rw [ht]; exact hW.1, hW.2.1⟩⟩, hW.2.2.F ht⟩) hW.2.2.2.2 dL_isBox_717 hlocks
                              · exact absurd c15 (by decide)
                          · exact absurd c13 (by decide)
                        · exact absurd c12 (by decide)
                      · skip
                        refine lv_iconst (v := 1) hx hb dL_isBox_601 (by decide) ?_
                        refine lv_goto (tgt := 606) hx hb dL_isBox_602 (by decide) ?_
                        refine lv_istore (lv' := [(12, .int 1), (11, .int yt), (10, .int (qp (bxa lr yb.toNatClampNeg))), (9, .int (qc (bxa lr yb.toNatClampNeg))), (8, .int 1), (7, .int yb), (6, .int yw), (5, .int u38_s0), (4, .int 0), (3, .int lc), (0, .ref aX), (1, .ref b), (2, .int a0)]) hx hb dL_isBox_606 hl (by decide) rfl (fun ls hl => ?_)
                        refine lv_iload hx hb dL_isBox_608 (lv_at hl 0 rfl) ?_
                        refine lv_if_eq (tgt := 623) hx hb dL_isBox_610 (by decide) (fun c12 => ?_) (fun c12 => ?_)
                        · exact absurd c12 (by decide)
                        · skip
                          refine lv_aload_n hx hb dL_isBox_613 rfl (lv_at hl 10 rfl) ?_
                          refine lv_iload hx hb dL_isBox_614 (lv_at hl 1 rfl) ?_
                          refine lv_iconst (v := 2) hx hb dL_isBox_616 (by decide) ?_
                          refine vp_callSi (va_Run.run (xrunV (As := [.int yt, .int 2]) (rest := []) ⟨hx, hb, hml, hown, hts⟩ (c_X9_box l D cI cJ cZ cB H.size aX aV aS aSv aL aLr aH yt 2 aVk aK aJ aP aQ aR tm k1 k2 k3 k4 k5 sf lc lr vT vG vM vO vN vD vA L qi qt qc qp (by assumption) (by assumption) _ rfl) (cwV 2 hts gL_isBox_X9_box rfl rfl rfl (by decide +kernel) ⟨Nat.le_of_ble_eq_true rfl, Nat.le_of_ble_eq_true rfl⟩) hK hG hW.2.2 (xsubP hW hA [0, 1, 2, 3, 4, 5, 6] rfl (by decide)) (va_recv hK hW.1 (ci := 9) (q0 := 0) rfl rfl) rfl hl.1 rfl (Nat.le_of_ble_eq_true rfl) dL_isBox_617 ⟨Nat.le_of_ble_eq_true rfl, Nat.le_of_ble_eq_true rfl⟩)) (fun r24 hq => ?_)
                          rw [hq, bx_2 (at_w hc hyt.1 c11)]
                          refine lv_goto (tgt := 624) hx hb dL_isBox_620 (by decide) ?_
                          refine lv_istore (lv' := [(13, .int (qc (bxa lr yt.toNatClampNeg))), (12, .int 1), (11, .int yt), (10, .int (qp (bxa lr yb.toNatClampNeg))), (9, .int (qc (bxa lr yb.toNatClampNeg))), (8, .int 1), (7, .int yb), (6, .int yw), (5, .int u38_s0), (4, .int 0), (3, .int lc), (0, .ref aX), (1, .ref b), (2, .int a0)]) hx hb dL_isBox_624 hl (by decide) rfl (fun ls hl => ?_)
                          refine lv_aload_n hx hb dL_isBox_626 rfl (lv_at hl 11 rfl) ?_
                          refine lv_iload hx hb dL_isBox_627 (lv_at hl 6 rfl) ?_
                          refine lv_iload hx hb dL_isBox_629 (lv_at hl 2 rfl) ?_
                          refine xPi (wr := [(aS, .inr (6, [.ref aSv])), (aSv, .inl (cI, 11, .inl sf)), (aH, .inr (1, [.int vT, .long vG, .int vM, .int (bi vO), .int vN, .int (bi vD), .int vA])), (aR, .inr (4, [.ref aRd, .ref aRo, .int rc, .int rl, .int rm])), (aRd, .inl (cI, 12, .inl rd)), (aRo, .inl (cI, 12, .inl ro)), (aP, .inr (3, [.ref aPc, .int pl]))]) hW hA [0, 1, 4, 5] [2, 3, 6, 7, 8, 9, 10] rfl rfl (by decide) (by decide) (by decide) (xrunV (As := [.int yb, .int yt]) (rest := []) ⟨hx, hb, hml, hown, hts⟩ (c_X9_shift l D cI cJ cZ cB H.size aX aV aL aLr yb yt aVk aK aJ aP aQ aS aH aR tm k1 k2 k3 k4 k5 lc lr L qi qt qc qp (by assumption) (by assumption) _ rfl) (cwV 2 hts gL_isBox_X9_shift rfl rfl rfl (by decide +kernel) ⟨Nat.le_of_ble_eq_true rfl, Nat.le_of_ble_eq_true rfl⟩) hK hG hW.2.2 (xsubP hW hA [0, 1, 4, 5] rfl (by decide)) (va_recv hK hW.1 (ci := 9) (q0 := 0) rfl rfl) rfl hl.1 rfl (Nat.le_of_ble_eq_true rfl) dL_isBox_631 ⟨Nat.le_of_ble_eq_true rfl, Nat.le_of_ble_eq_true rfl⟩) (fun r25 _ H locs hq hW => ?_)
                          rw [hq]
                          have hW : xW D A s.heap ([(aS, .inr (6, [.ref aSv])), (aSv, .inl (cI, 11, .inl sf)), (aH, .inr (1, [.int vT, .long vG, .int vM, .int (bi vO), .int vN, .int (bi vD), .int vA])), (aR, .inr (4, [.ref aRd, .ref aRo, .int rc, .int rl, .int rm])), (aRd, .inl (cI, 12, .inl rd)), (aRo, .inl (cI, 12, .inl ro)), (aP, .inr (3, [.ref aPc, .int pl])), (aX, .inr (9, [.ref aV, .ref aVk, .ref aK, .ref aJ, .ref aP, .ref aQ])), (aV, .inr (8, [.ref aS, .ref aL, .ref aH, .ref aR, .int tm, .long k1, .long k2, .long k3, .long k4, .long k5])), (aL, .inr (2, [.ref aLr, .int lc])), (aLr, .inl (cB, 10, .inr (.inr (.inr (.inr (f_X9_shift yb yt lc lr qc).2)))))] ++ bxP L qi qt qc qp) H _ := hW
                          have ho := sh_ok hJ (at_w hc hyb.1 c3) (at_w hc hyt.1 c11)
                          have hr2 := j_r ho.2.2.2.2
                          refine lv_iload hx hb dL_isBox_634 (lv_at hl 1 rfl) ?_
                          refine lv_if_eq (tgt := 644) hx hb dL_isBox_636 (by decide) (fun c13 => ?_) (fun c13 => ?_)
                          · exact absurd c13 (by decide)
                          · skip
                            refine lv_iload hx hb dL_isBox_639 (lv_at hl 4 rfl) ?_
                            refine lv_goto (tgt := 645) hx hb dL_isBox_641 (by decide) ?_
                            refine lv_icmp_ne (tgt := 716) hx hb dL_isBox_645 (by decide) (fun c14 => ?_) (fun c14 => ?_)
                            · exact absurd (ho.1) c14
                            · skip
                              refine lv_iload hx hb dL_isBox_648 (lv_at hl 1 rfl) ?_
                              refine lv_if_eq (tgt := 712) hx hb dL_isBox_650 (by decide) (fun c15 => ?_) (fun c15 => ?_)
                              · exact absurd c15 (by decide)
                              · skip
                                refine lv_aload_n hx hb dL_isBox_653 rfl (lv_at hl 11 rfl) ?_
                                refine lv_iload hx hb dL_isBox_654 (lv_at hl 2 rfl) ?_
                                refine lv_iconst (v := 2) hx hb dL_isBox_656 (by decide) ?_
                                refine vp_callSi (va_Run.run (xrunV (As := [.int yt, .int 2]) (rest := []) ⟨hx, hb, hml, hown, hts⟩ (c_X9_box l D cI cJ cZ cB H.size aX aV aS aSv aL aLr aH yt 2 aVk aK aJ aP aQ aR tm k1 k2 k3 k4 k5 sf lc (f_X9_shift yb yt lc lr qc).2 vT vG vM vO vN vD vA L qi qt qc qp (by assumption) (by assumption) _ rfl) (cwV 2 hts gL_isBox_X9_box rfl rfl rfl (by decide +kernel) ⟨Nat.le_of_ble_eq_true rfl, Nat.le_of_ble_eq_true rfl⟩) hK hG hW.2.2 (xsubP hW hA [7, 8, 0, 1, 9, 10, 2] rfl (by decide)) (va_recv hK hW.1 (ci := 9) (q0 := 7) rfl rfl) rfl hl.1 rfl (Nat.le_of_ble_eq_true rfl) dL_isBox_657 ⟨Nat.le_of_ble_eq_true rfl, Nat.le_of_ble_eq_true rfl⟩)) (fun r26 hq => ?_)
                                rw [hq, bx_2 (at_w hc hyt.1 c11)]
                                refine lv_iload hx hb dL_isBox_660 (lv_at hl 4 rfl) ?_
                                refine lv_icmp_ne (tgt := 716) hx hb dL_isBox_662 (by decide) (fun c16 => ?_) (fun c16 => ?_)
                                · exact absurd (congrArg qc ho.2.1) c16
                                · skip
                                  refine lv_aload_n hx hb dL_isBox_665 rfl (lv_at hl 11 rfl) ?_
                                  refine lv_iload hx hb dL_isBox_666 (lv_at hl 2 rfl) ?_
                                  refine lv_iconst (v := 3) hx hb dL_isBox_668 (by decide) ?_
                                  refine vp_callSi (va_Run.run (xrunV (As := [.int yt, .int 3]) (rest := []) ⟨hx, hb, hml, hown, hts⟩ (c_X9_box l D cI cJ cZ cB H.size aX aV aS aSv aL aLr aH yt 3 aVk aK aJ aP aQ aR tm k1 k2 k3 k4 k5 sf lc (f_X9_shift yb yt lc lr qc).2 vT vG vM vO vN vD vA L qi qt qc qp (by assumption) (by assumption) _ rfl) (cwV 2 hts gL_isBox_X9_box rfl rfl rfl (by decide +kernel) ⟨Nat.le_of_ble_eq_true rfl, Nat.le_of_ble_eq_true rfl⟩) hK hG hW.2.2 (xsubP hW hA [7, 8, 0, 1, 9, 10, 2] rfl (by decide)) (va_recv hK hW.1 (ci := 9) (q0 := 7) rfl rfl) rfl hl.1 rfl (Nat.le_of_ble_eq_true rfl) dL_isBox_669 ⟨Nat.le_of_ble_eq_true rfl, Nat.le_of_ble_eq_true rfl⟩)) (fun r27 hq => ?_)
                                  rw [hq, bx_3 (at_w hc hyt.1 c11)]
                                  refine lv_iload hx hb dL_isBox_672 (lv_at hl 3 rfl) ?_
                                  refine lv_icmp_ne (tgt := 716) hx hb dL_isBox_674 (by decide) (fun c17 => ?_) (fun c17 => ?_)
                                  · exact absurd (congrArg qp ho.2.1) c17
                                  · skip
                                    refine lv_iload hx hb dL_isBox_677 (lv_at hl 6 rfl) ?_
                                    refine lv_iload hx hb dL_isBox_679 (lv_at hl 2 rfl) ?_
                                    refine lv_icmp_eq (tgt := 712) hx hb dL_isBox_681 (by decide) (fun c18 => ?_) (fun c18 => ?_)
                                    · skip
                                      refine lv_iconst (v := 1) hx hb dL_isBox_712 (by decide) ?_
                                      refine lv_goto (tgt := 717) hx hb dL_isBox_713 (by decide) ?_
                                      have hW := xW_perm (X' := [(aX, .inr (9, [.ref aV, .ref aVk, .ref aK, .ref aJ, .ref aP, .ref aQ])), (aV, .inr (8, [.ref aS, .ref aL, .ref aH, .ref aR, .int tm, .long k1, .long k2, .long k3, .long k4, .long k5])), (aS, .inr (6, [.ref aSv])), (aSv, .inl (cI, 11, .inl sf)), (aL, .inr (2, [.ref aLr, .int lc])), (aLr, .inl (cB, 10, .inr (.inr (.inr (.inr (f_X9_shift yb yt lc lr qc).2))))), (aH, .inr (1, [.int vT, .long vG, .int vM, .int (bi vO), .int vN, .int (bi vD), .int vA])), (aR, .inr (4, [.ref aRd, .ref aRo, .int rc, .int rl, .int rm])), (aRd, .inl (cI, 12, .inl rd)), (aRo, .inl (cI, 12, .inl ro)), (aP, .inr (3, [.ref aPc, .int pl]))]) hW [7, 8, 0, 1, 9, 10, 2, 3, 4, 5, 6] rfl (by decide)
                                      exact W.zret (v := 1) hx hb hrt rfl (fun t ht hM => ⟨⟨1, (k1, k2, k5, lc, (f_X9_shift yb yt lc lr qc).2, qi, qt, qc, qp), rfl, ⟨rfl, jj_B ho.2.2.2.2 (by omega)⟩, ⟨by rw [ht]; exact hW.1, hW.2.1⟩⟩, hW.2.2.F ht⟩) hW.2.2.2.2 dL_isBox_717 hlocks
                                    · skip
                                      refine lv_aload_n hx hb dL_isBox_684 rfl (lv_at hl 11 rfl) ?_
                                      refine lv_iload hx hb dL_isBox_685 (lv_at hl 6 rfl) ?_
                                      refine lv_iload hx hb dL_isBox_687 (lv_at hl 2 rfl) ?_
                                      refine lv_icmp_ge (tgt := 699) hx hb dL_isBox_689 (by decide) (fun c19 => ?_) (fun c19 => ?_)
                                      · skip
                                        refine lv_iload hx hb dL_isBox_699 (lv_at hl 2 rfl) ?_
                                        refine lv_iconst (v := 1) hx hb dL_isBox_701 (by decide) ?_
                                        refine lv_iadd hx hb dL_isBox_702 ?_
                                        refine lv_iconst (v := 2) hx hb dL_isBox_703 (by decide) ?_
                                        refine vp_callSi (va_Run.run (xrunV (As := [.int (yt + 1), .int 2]) (rest := []) ⟨hx, hb, hml, hown, hts⟩ (c_X9_box l D cI cJ cZ cB H.size aX aV aS aSv aL aLr aH (yt + 1) 2 aVk aK aJ aP aQ aR tm k1 k2 k3 k4 k5 sf lc (f_X9_shift yb yt lc lr qc).2 vT vG vM vO vN vD vA L qi qt qc qp (by assumption) (by assumption) _ rfl) (cwV 2 hts gL_isBox_X9_box rfl rfl rfl (by decide +kernel) ⟨Nat.le_of_ble_eq_true rfl, Nat.le_of_ble_eq_true rfl⟩) hK hG hW.2.2 (xsubP hW hA [7, 8, 0, 1, 9, 10, 2] rfl (by decide)) (va_recv hK hW.1 (ci := 9) (q0 := 7) rfl rfl) rfl hl.1 rfl (Nat.le_of_ble_eq_true rfl) dL_isBox_704 ⟨Nat.le_of_ble_eq_true rfl, Nat.le_of_ble_eq_true rfl⟩)) (fun r28 hq => ?_)
                                        rw [hq, bx_2 ((ho.2.2.2.1 (sh_lt c18 c19)).2)]
                                        refine lv_iload hx hb dL_isBox_707 (lv_at hl 0 rfl) ?_
                                        refine lv_icmp_ne (tgt := 716) hx hb dL_isBox_709 (by decide) (fun c20 => ?_) (fun c20 => ?_)
                                        · exact absurd (congrArg qc (ho.2.2.2.1 (sh_lt c18 c19)).1) c20
                                        · skip
                                          refine lv_iconst (v := 1) hx hb dL_isBox_712 (by decide) ?_
                                          refine lv_goto (tgt := 717) hx hb dL_isBox_713 (by decide) ?_
                                          have hW := xW_perm (X' := [(aX, .inr (9, [.ref aV, .ref aVk, .ref aK, .ref aJ, .ref aP, .ref aQ])), (aV, .inr (8, [.ref aS, .ref aL, .ref aH, .ref aR, .int tm, .long k1, .long k2, .long k3, .long k4, .long k5])), (aS, .inr (6, [.ref aSv])), (aSv, .inl (cI, 11, .inl sf)), (aL, .inr (2, [.ref aLr, .int lc])), (aLr, .inl (cB, 10, .inr (.inr (.inr (.inr (f_X9_shift yb yt lc lr qc).2))))), (aH, .inr (1, [.int vT, .long vG, .int vM, .int (bi vO), .int vN, .int (bi vD), .int vA])), (aR, .inr (4, [.ref aRd, .ref aRo, .int rc, .int rl, .int rm])), (aRd, .inl (cI, 12, .inl rd)), (aRo, .inl (cI, 12, .inl ro)), (aP, .inr (3, [.ref aPc, .int pl]))]) hW [7, 8, 0, 1, 9, 10, 2, 3, 4, 5, 6] rfl (by decide)
                                          exact W.zret (v := 1) hx hb hrt rfl (fun t ht hM => ⟨⟨1, (k1, k2, k5, lc, (f_X9_shift yb yt lc lr qc).2, qi, qt, qc, qp), rfl, ⟨rfl, jj_B ho.2.2.2.2 (by omega)⟩, ⟨by rw [ht]; exact hW.1, hW.2.1⟩⟩, hW.2.2.F ht⟩) hW.2.2.2.2 dL_isBox_717 hlocks
                                      · skip
                                        refine lv_iload hx hb dL_isBox_692 (lv_at hl 2 rfl) ?_
                                        refine lv_iconst (v := 1) hx hb dL_isBox_694 (by decide) ?_
                                        refine lv_isub hx hb dL_isBox_695 ?_
                                        refine lv_goto (tgt := 703) hx hb dL_isBox_696 (by decide) ?_
                                        refine lv_iconst (v := 2) hx hb dL_isBox_703 (by decide) ?_
                                        refine vp_callSi (va_Run.run (xrunV (As := [.int (yt - 1), .int 2]) (rest := []) ⟨hx, hb, hml, hown, hts⟩ (c_X9_box l D cI cJ cZ cB H.size aX aV aS aSv aL aLr aH (yt - 1) 2 aVk aK aJ aP aQ aR tm k1 k2 k3 k4 k5 sf lc (f_X9_shift yb yt lc lr qc).2 vT vG vM vO vN vD vA L qi qt qc qp (by assumption) (by assumption) _ rfl) (cwV 2 hts gL_isBox_X9_box rfl rfl rfl (by decide +kernel) ⟨Nat.le_of_ble_eq_true rfl, Nat.le_of_ble_eq_true rfl⟩) hK hG hW.2.2 (xsubP hW hA [7, 8, 0, 1, 9, 10, 2] rfl (by decide)) (va_recv hK hW.1 (ci := 9) (q0 := 7) rfl rfl) rfl hl.1 rfl (Nat.le_of_ble_eq_true rfl) dL_isBox_704 ⟨Nat.le_of_ble_eq_true rfl, Nat.le_of_ble_eq_true rfl⟩)) (fun r29 hq => ?_)
                                        rw [hq, bx_2 ((ho.2.2.1 (xnle.mp c19)).2)]
                                        refine lv_iload hx hb dL_isBox_707 (lv_at hl 0 rfl) ?_
                                        refine lv_icmp_ne (tgt := 716) hx hb dL_isBox_709 (by decide) (fun c20 => ?_) (fun c20 => ?_)
                                        · exact absurd (congrArg qc (ho.2.2.1 (xnle.mp c19)).1) c20
                                        · skip
                                          refine lv_iconst (v := 1) hx hb dL_isBox_712 (by decide) ?_
                                          refine lv_goto (tgt := 717) hx hb dL_isBox_713 (by decide) ?_
                                          have hW := xW_perm (X' := [(aX, .inr (9, [.ref aV, .ref aVk, .ref aK, .ref aJ, .ref aP, .ref aQ])), (aV, .inr (8, [.ref aS, .ref aL, .ref aH, .ref aR, .int tm, .long k1, .long k2, .long k3, .long k4, .long k5])), (aS, .inr (6, [.ref aSv])), (aSv, .inl (cI, 11, .inl sf)), (aL, .inr (2, [.ref aLr, .int lc])), (aLr, .inl (cB, 10, .inr (.inr (.inr (.inr (f_X9_shift yb yt lc lr qc).2))))), (aH, .inr (1, [.int vT, .long vG, .int vM, .int (bi vO), .int vN, .int (bi vD), .int vA])), (aR, .inr (4, [.ref aRd, .ref aRo, .int rc, .int rl, .int rm])), (aRd, .inl (cI, 12, .inl rd)), (aRo, .inl (cI, 12, .inl ro)), (aP, .inr (3, [.ref aPc, .int pl]))]) hW [7, 8, 0, 1, 9, 10, 2, 3, 4, 5, 6] rfl (by decide)
                                          exact W.zret (v := 1) hx hb hrt rfl (fun t ht hM => ⟨⟨1, (k1, k2, k5, lc, (f_X9_shift yb yt lc lr qc).2, qi, qt, qc, qp), rfl, ⟨rfl, jj_B ho.2.2.2.2 (by omega)⟩, ⟨by rw [ht]; exact hW.1, hW.2.1⟩⟩, hW.2.2.F ht⟩) hW.2.2.2.2 dL_isBox_717 hlocks
                  · skip
                    refine lv_aload_n hx hb dL_isBox_474 rfl (lv_at hl 8 rfl) ?_
                    refine lv_iload hx hb dL_isBox_475 (lv_at hl 3 rfl) ?_
                    refine vp_callSi (va_Run.run (xrunV (As := [.int yb]) (rest := []) ⟨hx, hb, hml, hown, hts⟩ (c_X9_weigh l D cI cJ cZ cB H.size aX aV aL aLr aR yb aVk aK aJ aP aQ aS aH tm k1 k2 k3 k4 k5 lc lr aRd aRo rc rl rm L qi qt qc qp (by assumption) (by assumption) _ rfl) (cwV 1 hts gL_isBox_X9_weigh rfl rfl rfl (by decide +kernel) ⟨Nat.le_of_ble_eq_true rfl, Nat.le_of_ble_eq_true rfl⟩) hK hG hW.2.2 (xsubP hW hA [0, 1, 4, 5, 7] rfl (by decide)) (va_recv hK hW.1 (ci := 9) (q0 := 0) rfl rfl) rfl hl.1 rfl (Nat.le_of_ble_eq_true rfl) dL_isBox_477 ⟨Nat.le_of_ble_eq_true rfl, Nat.le_of_ble_eq_true rfl⟩)) (fun r30 hq => ?_)
                    rw [hq]
                    refine lv_iload hx hb dL_isBox_480 (lv_at hl 2 rfl) ?_
                    refine lv_if_ne (tgt := 489) hx hb dL_isBox_482 (by decide) (fun c10 => ?_) (fun c10 => ?_)
                    · skip
                      refine lv_iload hx hb dL_isBox_489 (lv_at hl 5 rfl) ?_
                      refine lv_if_eq (tgt := 499) hx hb dL_isBox_491 (by decide) (fun c11 => ?_) (fun c11 => ?_)
                      · skip
                        refine lv_aload_n hx hb dL_isBox_499 rfl (lv_at hl 8 rfl) ?_
                        refine lv_iload hx hb dL_isBox_500 (lv_at hl 3 rfl) ?_
                        refine lv_iconst (v := 1) hx hb dL_isBox_502 (by decide) ?_
                        refine vp_callSi (va_Run.run (xrunV (As := [.int yb, .int 1]) (rest := [.int (f_X9_weigh yb lc lr rm qt qc)]) ⟨hx, hb, hml, hown, hts⟩ (c_X9_box l D cI cJ cZ cB H.size aX aV aS aSv aL aLr aH yb 1 aVk aK aJ aP aQ aR tm k1 k2 k3 k4 k5 sf lc lr vT vG vM vO vN vD vA L qi qt qc qp (by assumption) (by assumption) _ rfl) (cwV 2 hts gL_isBox_X9_box rfl rfl rfl (by decide +kernel) ⟨Nat.le_of_ble_eq_true rfl, Nat.le_of_ble_eq_true rfl⟩) hK hG hW.2.2 (xsubP hW hA [0, 1, 2, 3, 4, 5, 6] rfl (by decide)) (va_recv hK hW.1 (ci := 9) (q0 := 0) rfl rfl) rfl hl.1 rfl (Nat.le_of_ble_eq_true rfl) dL_isBox_503 ⟨Nat.le_of_ble_eq_true rfl, Nat.le_of_ble_eq_true rfl⟩)) (fun r31 hq => ?_)
                        rw [hq, bx_1 (at_w hc hyb.1 c3)]
                        refine lv_iload hx hb dL_isBox_506 (lv_at hl 1 rfl) ?_
                        refine lv_iadd hx hb dL_isBox_508 ?_
                        refine lv_icmp_ne (tgt := 577) hx hb dL_isBox_509 (by decide) (fun c12 => ?_) (fun c12 => ?_)
                        · exact absurd ((wg_ok hJ (at_w hc hyb.1 c3) (aw_0 eu38_s0 c11)).1) c12
                        · skip
                          refine lv_aload_n hx hb dL_isBox_512 rfl (lv_at hl 8 rfl) ?_
                          refine lv_iload hx hb dL_isBox_513 (lv_at hl 3 rfl) ?_
                          refine xPi (wr := [(aS, .inr (6, [.ref aSv])), (aSv, .inl (cI, 11, .inl sf)), (aH, .inr (1, [.int vT, .long vG, .int vM, .int (bi vO), .int vN, .int (bi vD), .int vA])), (aRd, .inl (cI, 12, .inl rd)), (aRo, .inl (cI, 12, .inl ro)), (aP, .inr (3, [.ref aPc, .int pl]))]) hW hA [0, 1, 4, 5, 7] [2, 3, 6, 8, 9, 10] rfl rfl (by decide) (by decide) (by decide) (xrunV (As := [.int yb]) (rest := []) ⟨hx, hb, hml, hown, hts⟩ (c_X9_check l D cI cJ cZ cB H.size aX aV aL aLr aR yb aVk aK aJ aP aQ aS aH tm k1 k2 k3 k4 k5 lc lr aRd aRo rc rl rm L qi qt qc qp (by assumption) (by assumption) _ rfl) (cwV 1 hts gL_isBox_X9_check rfl rfl rfl (by decide +kernel) ⟨Nat.le_of_ble_eq_true rfl, Nat.le_of_ble_eq_true rfl⟩) hK hG hW.2.2 (xsubP hW hA [0, 1, 4, 5, 7] rfl (by decide)) (va_recv hK hW.1 (ci := 9) (q0 := 0) rfl rfl) rfl hl.1 rfl (Nat.le_of_ble_eq_true rfl) dL_isBox_515 ⟨Nat.le_of_ble_eq_true rfl, Nat.le_of_ble_eq_true rfl⟩) (fun r32 _ H locs hq hW => ?_)
                          rw [hq]
                          have hW : xW D A s.heap ([(aS, .inr (6, [.ref aSv])), (aSv, .inl (cI, 11, .inl sf)), (aH, .inr (1, [.int vT, .long vG, .int vM, .int (bi vO), .int vN, .int (bi vD), .int vA])), (aRd, .inl (cI, 12, .inl rd)), (aRo, .inl (cI, 12, .inl ro)), (aP, .inr (3, [.ref aPc, .int pl])), (aX, .inr (9, [.ref aV, .ref aVk, .ref aK, .ref aJ, .ref aP, .ref aQ])), (aV, .inr (8, [.ref aS, .ref aL, .ref aH, .ref aR, .int tm, .long k1, .long k2, .long k3, .long k4, .long k5])), (aL, .inr (2, [.ref aLr, .int lc])), (aLr, .inl (cB, 10, .inr (.inr (.inr (.inr lr))))), (aR, .inr (4, [.ref aRd, .ref aRo, .int rc, .int rl, .int rm]))] ++ bxP L qi qt qc (f_X9_check yb lc lr rm qc qp).2) H _ := hW
                          refine lv_iload hx hb dL_isBox_518 (lv_at hl 2 rfl) ?_
                          refine lv_if_ne (tgt := 528) hx hb dL_isBox_520 (by decide) (fun c13 => ?_) (fun c13 => ?_)
                          · skip
                            refine lv_iload hx hb dL_isBox_528 (lv_at hl 5 rfl) ?_
                            refine lv_if_eq (tgt := 538) hx hb dL_isBox_530 (by decide) (fun c14 => ?_) (fun c14 => ?_)
                            · skip
                              refine lv_iload hx hb dL_isBox_538 (lv_at hl 0 rfl) ?_
                              refine lv_iload hx hb dL_isBox_540 (lv_at hl 1 rfl) ?_
                              refine lv_isub hx hb dL_isBox_542 ?_
                              refine lv_icmp_ne (tgt := 577) hx hb dL_isBox_543 (by decide) (fun c15 => ?_) (fun c15 => ?_)
                              · exact absurd ((wg_ok hJ (at_w hc hyb.1 c3) (aw_0 eu38_s0 c11)).2.1) c15
                              · skip
                                refine lv_iload hx hb dL_isBox_546 (lv_at hl 2 rfl) ?_
                                refine lv_if_eq (tgt := 573) hx hb dL_isBox_548 (by decide) (fun c16 => ?_) (fun c16 => ?_)
                                · exact absurd c16 (by decide)
                                · skip
                                  refine lv_aload_n hx hb dL_isBox_551 rfl (lv_at hl 8 rfl) ?_
                                  refine lv_iload hx hb dL_isBox_552 (lv_at hl 3 rfl) ?_
                                  refine lv_iconst (v := 3) hx hb dL_isBox_554 (by decide) ?_
                                  refine vp_callSi (va_Run.run (xrunV (As := [.int yb, .int 3]) (rest := []) ⟨hx, hb, hml, hown, hts⟩ (c_X9_box l D cI cJ cZ cB H.size aX aV aS aSv aL aLr aH yb 3 aVk aK aJ aP aQ aR tm k1 k2 k3 k4 k5 sf lc lr vT vG vM vO vN vD vA L qi qt qc (f_X9_check yb lc lr rm qc qp).2 (by assumption) (by assumption) _ rfl) (cwV 2 hts gL_isBox_X9_box rfl rfl rfl (by decide +kernel) ⟨Nat.le_of_ble_eq_true rfl, Nat.le_of_ble_eq_true rfl⟩) hK hG hW.2.2 (xsubP hW hA [6, 7, 0, 1, 8, 9, 2] rfl (by decide)) (va_recv hK hW.1 (ci := 9) (q0 := 6) rfl rfl) rfl hl.1 rfl (Nat.le_of_ble_eq_true rfl) dL_isBox_555 ⟨Nat.le_of_ble_eq_true rfl, Nat.le_of_ble_eq_true rfl⟩)) (fun r33 hq => ?_)
                                  rw [hq, bx_3 (at_w hc hyb.1 c3)]
                                  refine lv_iload hx hb dL_isBox_558 (lv_at hl 5 rfl) ?_
                                  refine lv_if_eq (tgt := 568) hx hb dL_isBox_560 (by decide) (fun c17 => ?_) (fun c17 => ?_)
                                  · skip
                                    refine lv_iload hx hb dL_isBox_568 (lv_at hl 1 rfl) ?_
                                    refine lv_icmp_ne (tgt := 577) hx hb dL_isBox_570 (by decide) (fun c18 => ?_) (fun c18 => ?_)
                                    · exact absurd ((wg_ok hJ (at_w hc hyb.1 c3) (aw_0 eu38_s0 c11)).2.2.1) c18
                                    · skip
                                      refine lv_iconst (v := 1) hx hb dL_isBox_573 (by decide) ?_
                                      refine lv_goto (tgt := 578) hx hb dL_isBox_574 (by decide) ?_
                                      have hW := xW_perm (X' := [(aX, .inr (9, [.ref aV, .ref aVk, .ref aK, .ref aJ, .ref aP, .ref aQ])), (aV, .inr (8, [.ref aS, .ref aL, .ref aH, .ref aR, .int tm, .long k1, .long k2, .long k3, .long k4, .long k5])), (aS, .inr (6, [.ref aSv])), (aSv, .inl (cI, 11, .inl sf)), (aL, .inr (2, [.ref aLr, .int lc])), (aLr, .inl (cB, 10, .inr (.inr (.inr (.inr lr))))), (aH, .inr (1, [.int vT, .long vG, .int vM, .int (bi vO), .int vN, .int (bi vD), .int vA])), (aR, .inr (4, [.ref aRd, .ref aRo, .int rc, .int rl, .int rm])), (aRd, .inl (cI, 12, .inl rd)), (aRo, .inl (cI, 12, .inl ro)), (aP, .inr (3, [.ref aPc, .int pl]))]) hW [6, 7, 0, 1, 8, 9, 2, 10, 3, 4, 5] rfl (by decide)
                                      exact W.zret (v := 1) hx hb hrt rfl (fun t ht hM => ⟨⟨1, (k1, k2, k5, lc, lr, qi, qt, qc, (f_X9_check yb lc lr rm qc qp).2), rfl, ⟨rfl, jj_B (wg_ok hJ (at_w hc hyb.1 c3) (aw_0 eu38_s0 c11)).2.2.2 (by omega)⟩, ⟨by rw [ht]; exact hW.1, hW.2.1⟩⟩, hW.2.2.F ht⟩) hW.2.2.2.2 dL_isBox_578 hlocks
                                  · exact absurd c11 c17
                            · exact absurd c11 c14
                          · exact absurd c13 (by decide)
                      · skip
                        refine lv_bipush (v := -5) hx hb dL_isBox_494 (by decide) ?_
                        refine lv_goto (tgt := 509) hx hb dL_isBox_496 (by decide) ?_
                        refine lv_icmp_ne (tgt := 577) hx hb dL_isBox_509 (by decide) (fun c12 => ?_) (fun c12 => ?_)
                        · exact absurd ((wg_away (qp := qp) (at_w hc hyb.1 c3) (aw_1 eu38_s0 c11)).1) c12
                        · skip
                          refine lv_aload_n hx hb dL_isBox_512 rfl (lv_at hl 8 rfl) ?_
                          refine lv_iload hx hb dL_isBox_513 (lv_at hl 3 rfl) ?_
                          refine xPi (wr := [(aS, .inr (6, [.ref aSv])), (aSv, .inl (cI, 11, .inl sf)), (aH, .inr (1, [.int vT, .long vG, .int vM, .int (bi vO), .int vN, .int (bi vD), .int vA])), (aRd, .inl (cI, 12, .inl rd)), (aRo, .inl (cI, 12, .inl ro)), (aP, .inr (3, [.ref aPc, .int pl]))]) hW hA [0, 1, 4, 5, 7] [2, 3, 6, 8, 9, 10] rfl rfl (by decide) (by decide) (by decide) (xrunV (As := [.int yb]) (rest := []) ⟨hx, hb, hml, hown, hts⟩ (c_X9_check l D cI cJ cZ cB H.size aX aV aL aLr aR yb aVk aK aJ aP aQ aS aH tm k1 k2 k3 k4 k5 lc lr aRd aRo rc rl rm L qi qt qc qp (by assumption) (by assumption) _ rfl) (cwV 1 hts gL_isBox_X9_check rfl rfl rfl (by decide +kernel) ⟨Nat.le_of_ble_eq_true rfl, Nat.le_of_ble_eq_true rfl⟩) hK hG hW.2.2 (xsubP hW hA [0, 1, 4, 5, 7] rfl (by decide)) (va_recv hK hW.1 (ci := 9) (q0 := 0) rfl rfl) rfl hl.1 rfl (Nat.le_of_ble_eq_true rfl) dL_isBox_515 ⟨Nat.le_of_ble_eq_true rfl, Nat.le_of_ble_eq_true rfl⟩) (fun r34 _ H locs hq hW => ?_)
                          rw [hq]
                          have hW : xW D A s.heap ([(aS, .inr (6, [.ref aSv])), (aSv, .inl (cI, 11, .inl sf)), (aH, .inr (1, [.int vT, .long vG, .int vM, .int (bi vO), .int vN, .int (bi vD), .int vA])), (aRd, .inl (cI, 12, .inl rd)), (aRo, .inl (cI, 12, .inl ro)), (aP, .inr (3, [.ref aPc, .int pl])), (aX, .inr (9, [.ref aV, .ref aVk, .ref aK, .ref aJ, .ref aP, .ref aQ])), (aV, .inr (8, [.ref aS, .ref aL, .ref aH, .ref aR, .int tm, .long k1, .long k2, .long k3, .long k4, .long k5])), (aL, .inr (2, [.ref aLr, .int lc])), (aLr, .inl (cB, 10, .inr (.inr (.inr (.inr lr))))), (aR, .inr (4, [.ref aRd, .ref aRo, .int rc, .int rl, .int rm]))] ++ bxP L qi qt qc (f_X9_check yb lc lr rm qc qp).2) H _ := hW
                          refine lv_iload hx hb dL_isBox_518 (lv_at hl 2 rfl) ?_
                          refine lv_if_ne (tgt := 528) hx hb dL_isBox_520 (by decide) (fun c13 => ?_) (fun c13 => ?_)
                          · skip
                            refine lv_iload hx hb dL_isBox_528 (lv_at hl 5 rfl) ?_
                            refine lv_if_eq (tgt := 538) hx hb dL_isBox_530 (by decide) (fun c14 => ?_) (fun c14 => ?_)
                            · exact absurd c14 c11
                            · skip
                              refine lv_ldc hx hb hown w4 dL_isBox_533 ?_
                              refine lv_goto (tgt := 543) hx hb dL_isBox_535 (by decide) ?_
                              refine lv_icmp_ne (tgt := 577) hx hb dL_isBox_543 (by decide) (fun c15 => ?_) (fun c15 => ?_)
                              · exact absurd (congrArg Prod.fst (wg_away (qt := qt) (at_w hc hyb.1 c3) (aw_1 eu38_s0 c11)).2) c15
                              · skip
                                refine lv_iload hx hb dL_isBox_546 (lv_at hl 2 rfl) ?_
                                refine lv_if_eq (tgt := 573) hx hb dL_isBox_548 (by decide) (fun c16 => ?_) (fun c16 => ?_)
                                · exact absurd c16 (by decide)
                                · skip
                                  refine lv_aload_n hx hb dL_isBox_551 rfl (lv_at hl 8 rfl) ?_
                                  refine lv_iload hx hb dL_isBox_552 (lv_at hl 3 rfl) ?_
                                  refine lv_iconst (v := 3) hx hb dL_isBox_554 (by decide) ?_
                                  refine vp_callSi (va_Run.run (xrunV (As := [.int yb, .int 3]) (rest := []) ⟨hx, hb, hml, hown, hts⟩ (c_X9_box l D cI cJ cZ cB H.size aX aV aS aSv aL aLr aH yb 3 aVk aK aJ aP aQ aR tm k1 k2 k3 k4 k5 sf lc lr vT vG vM vO vN vD vA L qi qt qc (f_X9_check yb lc lr rm qc qp).2 (by assumption) (by assumption) _ rfl) (cwV 2 hts gL_isBox_X9_box rfl rfl rfl (by decide +kernel) ⟨Nat.le_of_ble_eq_true rfl, Nat.le_of_ble_eq_true rfl⟩) hK hG hW.2.2 (xsubP hW hA [6, 7, 0, 1, 8, 9, 2] rfl (by decide)) (va_recv hK hW.1 (ci := 9) (q0 := 6) rfl rfl) rfl hl.1 rfl (Nat.le_of_ble_eq_true rfl) dL_isBox_555 ⟨Nat.le_of_ble_eq_true rfl, Nat.le_of_ble_eq_true rfl⟩)) (fun r35 hq => ?_)
                                  rw [hq, bx_3 (at_w hc hyb.1 c3)]
                                  refine lv_iload hx hb dL_isBox_558 (lv_at hl 5 rfl) ?_
                                  refine lv_if_eq (tgt := 568) hx hb dL_isBox_560 (by decide) (fun c17 => ?_) (fun c17 => ?_)
                                  · exact absurd c17 c11
                                  · skip
                                    refine lv_iload hx hb dL_isBox_563 (lv_at hl 0 rfl) ?_
                                    refine lv_goto (tgt := 570) hx hb dL_isBox_565 (by decide) ?_
                                    refine lv_icmp_ne (tgt := 577) hx hb dL_isBox_570 (by decide) (fun c18 => ?_) (fun c18 => ?_)
                                    · exact absurd (congrFun (congrArg Prod.snd (wg_away (qt := qt) (at_w hc hyb.1 c3) (aw_1 eu38_s0 c11)).2) _) c18
                                    · skip
                                      refine lv_iconst (v := 1) hx hb dL_isBox_573 (by decide) ?_
                                      refine lv_goto (tgt := 578) hx hb dL_isBox_574 (by decide) ?_
                                      have hW := xW_perm (X' := [(aX, .inr (9, [.ref aV, .ref aVk, .ref aK, .ref aJ, .ref aP, .ref aQ])), (aV, .inr (8, [.ref aS, .ref aL, .ref aH, .ref aR, .int tm, .long k1, .long k2, .long k3, .long k4, .long k5])), (aS, .inr (6, [.ref aSv])), (aSv, .inl (cI, 11, .inl sf)), (aL, .inr (2, [.ref aLr, .int lc])), (aLr, .inl (cB, 10, .inr (.inr (.inr (.inr lr))))), (aH, .inr (1, [.int vT, .long vG, .int vM, .int (bi vO), .int vN, .int (bi vD), .int vA])), (aR, .inr (4, [.ref aRd, .ref aRo, .int rc, .int rl, .int rm])), (aRd, .inl (cI, 12, .inl rd)), (aRo, .inl (cI, 12, .inl ro)), (aP, .inr (3, [.ref aPc, .int pl]))]) hW [6, 7, 0, 1, 8, 9, 2, 10, 3, 4, 5] rfl (by decide)
                                      exact W.zret (v := 1) hx hb hrt rfl (fun t ht hM => ⟨⟨1, (k1, k2, k5, lc, lr, qi, qt, qc, (f_X9_check yb lc lr rm qc qp).2), rfl, ⟨rfl, jj_B (B := B) (by rw [(wg_away (qt := qt) (at_w hc hyb.1 c3) (aw_1 eu38_s0 c11)).2]; exact hJ) (by omega)⟩, ⟨by rw [ht]; exact hW.1, hW.2.1⟩⟩, hW.2.2.F ht⟩) hW.2.2.2.2 dL_isBox_578 hlocks
                          · exact absurd c13 (by decide)
                    · exact absurd c10 (by decide)
                · skip
                  refine lv_iconst (v := 1) hx hb dL_isBox_378 (by decide) ?_
                  refine lv_aload_n hx hb dL_isBox_379 rfl (lv_at hl 9 rfl) ?_
                  refine lv_iload_n hx hb dL_isBox_380 rfl (lv_at hl 10 rfl) ?_
                  refine lv_iconst (v := 2) hx hb dL_isBox_381 (by decide) ?_
                  refine lv_iadd hx hb dL_isBox_382 ?_
                  refine lv_ldc hx hb hown w2 dL_isBox_383 ?_
                  refine xcell (k := a0 + 2) (n := 300000) (rest := [.int 1]) ⟨hx, hb, hml, hown, hts⟩ (cwS 3 hts gL_isBox_L_cell rfl rfl rfl (by decide +kernel) ⟨Nat.le_of_ble_eq_true rfl, Nat.le_of_ble_eq_true rfl⟩) hX hbl hbA hLn hW.2.2 (ck_2 hat) (by decide) hl.1 (Nat.le_of_ble_eq_true rfl) dL_isBox_385 ⟨Nat.le_of_ble_eq_true rfl, Nat.le_of_ble_eq_true rfl⟩ ?_
                  obtain ⟨yl, eyl⟩ : ∃ z9, cellf Ln xs (a0 + 2) (300000 : Int32) = z9 := ⟨_, rfl⟩
                  rw [eyl]
                  have hyl : 0 ≤ yl.toInt ∧ yl.toInt < 300000 := cell_b (N := 300000) (ck_2 hat) (by decide) (by decide) eyl
                  refine lv_iadd hx hb dL_isBox_388 ?_
                  refine lv_istore (lv' := [(11, .int (1 + yl)), (10, .int (qp (bxa lr yb.toNatClampNeg))), (9, .int (qc (bxa lr yb.toNatClampNeg))), (8, .int 1), (7, .int yb), (6, .int yw), (5, .int u38_s0), (4, .int 0), (3, .int lc), (0, .ref aX), (1, .ref b), (2, .int a0)]) hx hb dL_isBox_389 hl (by decide) rfl (fun ls hl => ?_)
                  refine lv_iload hx hb dL_isBox_391 (lv_at hl 3 rfl) ?_
                  refine lv_if_eq (tgt := 407) hx hb dL_isBox_393 (by decide) (fun c9 => ?_) (fun c9 => ?_)
                  · exact absurd c9 (by decide)
                  · skip
                    refine lv_iload hx hb dL_isBox_396 (lv_at hl 0 rfl) ?_
                    refine lv_iload hx hb dL_isBox_398 (lv_at hl 2 rfl) ?_
                    refine lv_icmp_gt (tgt := 407) hx hb dL_isBox_400 (by decide) (fun c10 => ?_) (fun c10 => ?_)
                    · skip
                      refine lv_iconst (v := 0) hx hb dL_isBox_407 (by decide) ?_
                      refine lv_istore (lv' := [(12, .int 0), (11, .int (1 + yl)), (10, .int (qp (bxa lr yb.toNatClampNeg))), (9, .int (qc (bxa lr yb.toNatClampNeg))), (8, .int 1), (7, .int yb), (6, .int yw), (5, .int u38_s0), (4, .int 0), (3, .int lc), (0, .ref aX), (1, .ref b), (2, .int a0)]) hx hb dL_isBox_408 hl (by decide) rfl (fun ls hl => ?_)
                      refine lv_aload_n hx hb dL_isBox_410 rfl (lv_at hl 10 rfl) ?_
                      refine lv_iload hx hb dL_isBox_411 (lv_at hl 5 rfl) ?_
                      refine lv_iload hx hb dL_isBox_413 (lv_at hl 1 rfl) ?_
                      obtain ⟨o36_, eo36_⟩ : ∃ z9, f_X9_spill yb (1 + yl) k5 lc lr qc = z9 := ⟨_, rfl⟩
                      refine xPi (wr := [(aS, .inr (6, [.ref aSv])), (aSv, .inl (cI, 11, .inl sf)), (aH, .inr (1, [.int vT, .long vG, .int vM, .int (bi vO), .int vN, .int (bi vD), .int vA])), (aR, .inr (4, [.ref aRd, .ref aRo, .int rc, .int rl, .int rm])), (aRd, .inl (cI, 12, .inl rd)), (aRo, .inl (cI, 12, .inl ro)), (aP, .inr (3, [.ref aPc, .int pl]))]) hW hA [0, 1, 4, 5] [2, 3, 6, 7, 8, 9, 10] rfl rfl (by decide) (by decide) (by decide) (xrunV (As := [.int yb, .int (1 + yl)]) (rest := []) ⟨hx, hb, hml, hown, hts⟩ (c_X9_spill l D cI cJ cZ cB H.size aX aV aL aLr yb (1 + yl) aVk aK aJ aP aQ aS aH aR tm k1 k2 k3 k4 k5 lc lr L qi qt qc qp (by assumption) (by assumption) o36_ eo36_) (cwV 2 hts gL_isBox_X9_spill rfl rfl rfl (by decide +kernel) ⟨Nat.le_of_ble_eq_true rfl, Nat.le_of_ble_eq_true rfl⟩) hK hG hW.2.2 (xsubP hW hA [0, 1, 4, 5] rfl (by decide)) (va_recv hK hW.1 (ci := 9) (q0 := 0) rfl rfl) rfl hl.1 rfl (Nat.le_of_ble_eq_true rfl) dL_isBox_415 ⟨Nat.le_of_ble_eq_true rfl, Nat.le_of_ble_eq_true rfl⟩) (fun r37 _ H locs hq hW => ?_)
                      rw [hq]
                      have hW : xW D A s.heap ([(aS, .inr (6, [.ref aSv])), (aSv, .inl (cI, 11, .inl sf)), (aH, .inr (1, [.int vT, .long vG, .int vM, .int (bi vO), .int vN, .int (bi vD), .int vA])), (aR, .inr (4, [.ref aRd, .ref aRo, .int rc, .int rl, .int rm])), (aRd, .inl (cI, 12, .inl rd)), (aRo, .inl (cI, 12, .inl ro)), (aP, .inr (3, [.ref aPc, .int pl])), (aX, .inr (9, [.ref aV, .ref aVk, .ref aK, .ref aJ, .ref aP, .ref aQ])), (aV, .inr (8, [.ref aS, .ref aL, .ref aH, .ref aR, .int tm, .long k1, .long k2, .long k3, .long k4, .long o36_.2.1])), (aL, .inr (2, [.ref aLr, .int lc])), (aLr, .inl (cB, 10, .inr (.inr (.inr (.inr lr)))))] ++ bxP L qi qt o36_.2.2 qp) H _ := hW
                      have ho := sp_less eo36_ (at_w hc hyb.1 c3) (a_b hyl) c10
                      refine lv_iload hx hb dL_isBox_418 (lv_at hl 4 rfl) ?_
                      refine lv_if_ne (tgt := 427) hx hb dL_isBox_420 (by decide) (fun c11 => ?_) (fun c11 => ?_)
                      · skip
                        refine lv_iload hx hb dL_isBox_427 (lv_at hl 0 rfl) ?_
                        refine lv_if_eq (tgt := 440) hx hb dL_isBox_429 (by decide) (fun c12 => ?_) (fun c12 => ?_)
                        · skip
                          refine lv_bipush (v := -2) hx hb dL_isBox_440 (by decide) ?_
                          refine lv_icmp_ne (tgt := 466) hx hb dL_isBox_442 (by decide) (fun c13 => ?_) (fun c13 => ?_)
                          · exact absurd (by subst ho; rfl) c13
                          · skip
                            refine lv_iload hx hb dL_isBox_445 (lv_at hl 4 rfl) ?_
                            refine lv_if_eq (tgt := 462) hx hb dL_isBox_447 (by decide) (fun c14 => ?_) (fun c14 => ?_)
                            · exact absurd c14 (by decide)
                            · skip
                              refine lv_aload_n hx hb dL_isBox_450 rfl (lv_at hl 10 rfl) ?_
                              refine lv_iload hx hb dL_isBox_451 (lv_at hl 5 rfl) ?_
                              refine lv_iconst (v := 3) hx hb dL_isBox_453 (by decide) ?_
                              refine vp_callSi (va_Run.run (xrunV (As := [.int yb, .int 3]) (rest := []) ⟨hx, hb, hml, hown, hts⟩ (c_X9_box l D cI cJ cZ cB H.size aX aV aS aSv aL aLr aH yb 3 aVk aK aJ aP aQ aR tm k1 k2 k3 k4 o36_.2.1 sf lc lr vT vG vM vO vN vD vA L qi qt o36_.2.2 qp (by assumption) (by assumption) _ rfl) (cwV 2 hts gL_isBox_X9_box rfl rfl rfl (by decide +kernel) ⟨Nat.le_of_ble_eq_true rfl, Nat.le_of_ble_eq_true rfl⟩) hK hG hW.2.2 (xsubP hW hA [7, 8, 0, 1, 9, 10, 2] rfl (by decide)) (va_recv hK hW.1 (ci := 9) (q0 := 7) rfl rfl) rfl hl.1 rfl (Nat.le_of_ble_eq_true rfl) dL_isBox_454 ⟨Nat.le_of_ble_eq_true rfl, Nat.le_of_ble_eq_true rfl⟩)) (fun r38 hq => ?_)
                              rw [hq, bx_3 (at_w hc hyb.1 c3)]
                              refine lv_iload hx hb dL_isBox_457 (lv_at hl 2 rfl) ?_
                              refine lv_icmp_ne (tgt := 466) hx hb dL_isBox_459 (by decide) (fun c15 => ?_) (fun c15 => ?_)
                              · exact absurd (rfl) c15
                              · skip
                                refine lv_iconst (v := 1) hx hb dL_isBox_462 (by decide) ?_
                                refine lv_goto (tgt := 467) hx hb dL_isBox_463 (by decide) ?_
                                have hW := xW_perm (X' := [(aX, .inr (9, [.ref aV, .ref aVk, .ref aK, .ref aJ, .ref aP, .ref aQ])), (aV, .inr (8, [.ref aS, .ref aL, .ref aH, .ref aR, .int tm, .long k1, .long k2, .long k3, .long k4, .long o36_.2.1])), (aS, .inr (6, [.ref aSv])), (aSv, .inl (cI, 11, .inl sf)), (aL, .inr (2, [.ref aLr, .int lc])), (aLr, .inl (cB, 10, .inr (.inr (.inr (.inr lr))))), (aH, .inr (1, [.int vT, .long vG, .int vM, .int (bi vO), .int vN, .int (bi vD), .int vA])), (aR, .inr (4, [.ref aRd, .ref aRo, .int rc, .int rl, .int rm])), (aRd, .inl (cI, 12, .inl rd)), (aRo, .inl (cI, 12, .inl ro)), (aP, .inr (3, [.ref aPc, .int pl]))]) hW [7, 8, 0, 1, 9, 10, 2, 3, 4, 5, 6] rfl (by decide)
                                exact W.zret (v := 1) hx hb hrt rfl (fun t ht hM => ⟨⟨1, (k1, k2, o36_.2.1, lc, lr, qi, qt, o36_.2.2, qp), rfl, ⟨rfl, jj_B (B := B) (by subst ho; exact hJ) (by omega)⟩, ⟨by rw [ht]; exact hW.1, hW.2.1⟩⟩, hW.2.2.F ht⟩) hW.2.2.2.2 dL_isBox_467 hlocks
                        · exact absurd c12 (by decide)
                      · exact absurd c11 (by decide)
                    · skip
                      refine lv_iconst (v := 1) hx hb dL_isBox_403 (by decide) ?_
                      refine lv_goto (tgt := 408) hx hb dL_isBox_404 (by decide) ?_
                      refine lv_istore (lv' := [(12, .int 1), (11, .int (1 + yl)), (10, .int (qp (bxa lr yb.toNatClampNeg))), (9, .int (qc (bxa lr yb.toNatClampNeg))), (8, .int 1), (7, .int yb), (6, .int yw), (5, .int u38_s0), (4, .int 0), (3, .int lc), (0, .ref aX), (1, .ref b), (2, .int a0)]) hx hb dL_isBox_408 hl (by decide) rfl (fun ls hl => ?_)
                      refine lv_aload_n hx hb dL_isBox_410 rfl (lv_at hl 10 rfl) ?_
                      refine lv_iload hx hb dL_isBox_411 (lv_at hl 5 rfl) ?_
                      refine lv_iload hx hb dL_isBox_413 (lv_at hl 1 rfl) ?_
                      obtain ⟨o39_, eo39_⟩ : ∃ z9, f_X9_spill yb (1 + yl) k5 lc lr qc = z9 := ⟨_, rfl⟩
                      refine xPi (wr := [(aS, .inr (6, [.ref aSv])), (aSv, .inl (cI, 11, .inl sf)), (aH, .inr (1, [.int vT, .long vG, .int vM, .int (bi vO), .int vN, .int (bi vD), .int vA])), (aR, .inr (4, [.ref aRd, .ref aRo, .int rc, .int rl, .int rm])), (aRd, .inl (cI, 12, .inl rd)), (aRo, .inl (cI, 12, .inl ro)), (aP, .inr (3, [.ref aPc, .int pl]))]) hW hA [0, 1, 4, 5] [2, 3, 6, 7, 8, 9, 10] rfl rfl (by decide) (by decide) (by decide) (xrunV (As := [.int yb, .int (1 + yl)]) (rest := []) ⟨hx, hb, hml, hown, hts⟩ (c_X9_spill l D cI cJ cZ cB H.size aX aV aL aLr yb (1 + yl) aVk aK aJ aP aQ aS aH aR tm k1 k2 k3 k4 k5 lc lr L qi qt qc qp (by assumption) (by assumption) o39_ eo39_) (cwV 2 hts gL_isBox_X9_spill rfl rfl rfl (by decide +kernel) ⟨Nat.le_of_ble_eq_true rfl, Nat.le_of_ble_eq_true rfl⟩) hK hG hW.2.2 (xsubP hW hA [0, 1, 4, 5] rfl (by decide)) (va_recv hK hW.1 (ci := 9) (q0 := 0) rfl rfl) rfl hl.1 rfl (Nat.le_of_ble_eq_true rfl) dL_isBox_415 ⟨Nat.le_of_ble_eq_true rfl, Nat.le_of_ble_eq_true rfl⟩) (fun r40 _ H locs hq hW => ?_)
                      rw [hq]
                      have hW : xW D A s.heap ([(aS, .inr (6, [.ref aSv])), (aSv, .inl (cI, 11, .inl sf)), (aH, .inr (1, [.int vT, .long vG, .int vM, .int (bi vO), .int vN, .int (bi vD), .int vA])), (aR, .inr (4, [.ref aRd, .ref aRo, .int rc, .int rl, .int rm])), (aRd, .inl (cI, 12, .inl rd)), (aRo, .inl (cI, 12, .inl ro)), (aP, .inr (3, [.ref aPc, .int pl])), (aX, .inr (9, [.ref aV, .ref aVk, .ref aK, .ref aJ, .ref aP, .ref aQ])), (aV, .inr (8, [.ref aS, .ref aL, .ref aH, .ref aR, .int tm, .long k1, .long k2, .long k3, .long k4, .long o39_.2.1])), (aL, .inr (2, [.ref aLr, .int lc])), (aLr, .inl (cB, 10, .inr (.inr (.inr (.inr lr)))))] ++ bxP L qi qt o39_.2.2 qp) H _ := hW
                      have ho := sp_ok hJ hB eo39_ (at_w hc hyb.1 c3) (a_b hyl) c10
                      refine lv_iload hx hb dL_isBox_418 (lv_at hl 4 rfl) ?_
                      refine lv_if_ne (tgt := 427) hx hb dL_isBox_420 (by decide) (fun c11 => ?_) (fun c11 => ?_)
                      · skip
                        refine lv_iload hx hb dL_isBox_427 (lv_at hl 0 rfl) ?_
                        refine lv_if_eq (tgt := 440) hx hb dL_isBox_429 (by decide) (fun c12 => ?_) (fun c12 => ?_)
                        · exact absurd c12 (by decide)
                        · skip
                          refine lv_iload hx hb dL_isBox_432 (lv_at hl 3 rfl) ?_
                          refine lv_iload hx hb dL_isBox_434 (lv_at hl 1 rfl) ?_
                          refine lv_isub hx hb dL_isBox_436 ?_
                          refine lv_goto (tgt := 442) hx hb dL_isBox_437 (by decide) ?_
                          refine lv_icmp_ne (tgt := 466) hx hb dL_isBox_442 (by decide) (fun c13 => ?_) (fun c13 => ?_)
                          · exact absurd (ho.1) c13
                          · skip
                            refine lv_iload hx hb dL_isBox_445 (lv_at hl 4 rfl) ?_
                            refine lv_if_eq (tgt := 462) hx hb dL_isBox_447 (by decide) (fun c14 => ?_) (fun c14 => ?_)
                            · exact absurd c14 (by decide)
                            · skip
                              refine lv_aload_n hx hb dL_isBox_450 rfl (lv_at hl 10 rfl) ?_
                              refine lv_iload hx hb dL_isBox_451 (lv_at hl 5 rfl) ?_
                              refine lv_iconst (v := 3) hx hb dL_isBox_453 (by decide) ?_
                              refine vp_callSi (va_Run.run (xrunV (As := [.int yb, .int 3]) (rest := []) ⟨hx, hb, hml, hown, hts⟩ (c_X9_box l D cI cJ cZ cB H.size aX aV aS aSv aL aLr aH yb 3 aVk aK aJ aP aQ aR tm k1 k2 k3 k4 o39_.2.1 sf lc lr vT vG vM vO vN vD vA L qi qt o39_.2.2 qp (by assumption) (by assumption) _ rfl) (cwV 2 hts gL_isBox_X9_box rfl rfl rfl (by decide +kernel) ⟨Nat.le_of_ble_eq_true rfl, Nat.le_of_ble_eq_true rfl⟩) hK hG hW.2.2 (xsubP hW hA [7, 8, 0, 1, 9, 10, 2] rfl (by decide)) (va_recv hK hW.1 (ci := 9) (q0 := 7) rfl rfl) rfl hl.1 rfl (Nat.le_of_ble_eq_true rfl) dL_isBox_454 ⟨Nat.le_of_ble_eq_true rfl, Nat.le_of_ble_eq_true rfl⟩)) (fun r41 hq => ?_)
                              rw [hq, bx_3 (at_w hc hyb.1 c3)]
                              refine lv_iload hx hb dL_isBox_457 (lv_at hl 2 rfl) ?_
                              refine lv_icmp_ne (tgt := 466) hx hb dL_isBox_459 (by decide) (fun c15 => ?_) (fun c15 => ?_)
                              · exact absurd (rfl) c15
                              · skip
                                refine lv_iconst (v := 1) hx hb dL_isBox_462 (by decide) ?_
                                refine lv_goto (tgt := 467) hx hb dL_isBox_463 (by decide) ?_
                                have hW := xW_perm (X' := [(aX, .inr (9, [.ref aV, .ref aVk, .ref aK, .ref aJ, .ref aP, .ref aQ])), (aV, .inr (8, [.ref aS, .ref aL, .ref aH, .ref aR, .int tm, .long k1, .long k2, .long k3, .long k4, .long o39_.2.1])), (aS, .inr (6, [.ref aSv])), (aSv, .inl (cI, 11, .inl sf)), (aL, .inr (2, [.ref aLr, .int lc])), (aLr, .inl (cB, 10, .inr (.inr (.inr (.inr lr))))), (aH, .inr (1, [.int vT, .long vG, .int vM, .int (bi vO), .int vN, .int (bi vD), .int vA])), (aR, .inr (4, [.ref aRd, .ref aRo, .int rc, .int rl, .int rm])), (aRd, .inl (cI, 12, .inl rd)), (aRo, .inl (cI, 12, .inl ro)), (aP, .inr (3, [.ref aPc, .int pl]))]) hW [7, 8, 0, 1, 9, 10, 2, 3, 4, 5, 6] rfl (by decide)
                                exact W.zret (v := 1) hx hb hrt rfl (fun t ht hM => ⟨⟨1, (k1, k2, o39_.2.1, lc, lr, qi, qt, o39_.2.2, qp), rfl, ⟨rfl, jj_B ho.2 (by omega)⟩, ⟨by rw [ht]; exact hW.1, hW.2.1⟩⟩, hW.2.2.F ht⟩) hW.2.2.2.2 dL_isBox_467 hlocks
                      · exact absurd c11 (by decide)
              · skip
                refine lv_aload_n hx hb dL_isBox_267 rfl (lv_at hl 8 rfl) ?_
                refine lv_iconst (v := 2) hx hb dL_isBox_268 (by decide) ?_
                refine vp_callSl (va_Run.run (xrunV (As := [.int 2]) (rest := []) ⟨hx, hb, hml, hown, hts⟩ (c_X9_account l D cI cJ cZ cB H.size aX aV aL aLr 2 aVk aK aJ aP aQ aS aH aR tm k1 k2 k3 k4 k5 lc lr L qi qt qc qp (by assumption) (by assumption) _ rfl) (cwV 1 hts gL_isBox_X9_account rfl rfl rfl (by decide +kernel) ⟨Nat.le_of_ble_eq_true rfl, Nat.le_of_ble_eq_true rfl⟩) hK hG hW.2.2 (xsubP hW hA [0, 1, 4, 5] rfl (by decide)) (va_recv hK hW.1 (ci := 9) (q0 := 0) rfl rfl) rfl hl.1 rfl (Nat.le_of_ble_eq_true rfl) dL_isBox_269 ⟨Nat.le_of_ble_eq_true rfl, Nat.le_of_ble_eq_true rfl⟩)) (fun r42 hq => ?_)
                rw [hq, acc_2]
                refine lv_lstore (lv' := [(11, .long k2), (10, .int (qp (bxa lr yb.toNatClampNeg))), (9, .int (qc (bxa lr yb.toNatClampNeg))), (8, .int 1), (7, .int yb), (6, .int yw), (5, .int u38_s0), (4, .int 0), (3, .int lc), (0, .ref aX), (1, .ref b), (2, .int a0)]) hx hb dL_isBox_272 hl (by decide) rfl (fun ls hl => ?_)
                refine lv_iload hx hb dL_isBox_274 (lv_at hl 3 rfl) ?_
                refine lv_if_eq (tgt := 288) hx hb dL_isBox_276 (by decide) (fun c8 => ?_) (fun c8 => ?_)
                · exact absurd c8 (by decide)
                · skip
                  refine lv_iload hx hb dL_isBox_279 (lv_at hl 7 rfl) ?_
                  refine lv_if_eq (tgt := 288) hx hb dL_isBox_281 (by decide) (fun c9 => ?_) (fun c9 => ?_)
                  · skip
                    refine lv_iconst (v := 0) hx hb dL_isBox_288 (by decide) ?_
                    refine lv_istore (lv' := [(13, .int 0), (11, .long k2), (10, .int (qp (bxa lr yb.toNatClampNeg))), (9, .int (qc (bxa lr yb.toNatClampNeg))), (8, .int 1), (7, .int yb), (6, .int yw), (5, .int u38_s0), (4, .int 0), (3, .int lc), (0, .ref aX), (1, .ref b), (2, .int a0)]) hx hb dL_isBox_289 hl (by decide) rfl (fun ls hl => ?_)
                    refine lv_aload_n hx hb dL_isBox_291 rfl (lv_at hl 10 rfl) ?_
                    refine lv_iload hx hb dL_isBox_292 (lv_at hl 5 rfl) ?_
                    obtain ⟨o43_, eo43_⟩ : ∃ z9, f_X9_unload yb k2 lc lr vD qc = z9 := ⟨_, rfl⟩
                    refine xPi (wr := [(aS, .inr (6, [.ref aSv])), (aSv, .inl (cI, 11, .inl sf)), (aR, .inr (4, [.ref aRd, .ref aRo, .int rc, .int rl, .int rm])), (aRd, .inl (cI, 12, .inl rd)), (aRo, .inl (cI, 12, .inl ro)), (aP, .inr (3, [.ref aPc, .int pl]))]) hW hA [0, 1, 4, 5, 6] [2, 3, 7, 8, 9, 10] rfl rfl (by decide) (by decide) (by decide) (xrunV (As := [.int yb]) (rest := []) ⟨hx, hb, hml, hown, hts⟩ (c_X9_unload l D cI cJ cZ cB H.size aX aV aL aLr aH yb aVk aK aJ aP aQ aS aR tm k1 k2 k3 k4 k5 lc lr vT vG vM vO vN vD vA L qi qt qc qp (by assumption) (by assumption) o43_ eo43_) (cwV 1 hts gL_isBox_X9_unload rfl rfl rfl (by decide +kernel) ⟨Nat.le_of_ble_eq_true rfl, Nat.le_of_ble_eq_true rfl⟩) hK hG hW.2.2 (xsubP hW hA [0, 1, 4, 5, 6] rfl (by decide)) (va_recv hK hW.1 (ci := 9) (q0 := 0) rfl rfl) rfl hl.1 rfl (Nat.le_of_ble_eq_true rfl) dL_isBox_294 ⟨Nat.le_of_ble_eq_true rfl, Nat.le_of_ble_eq_true rfl⟩) (fun r44 _ H locs hq hW => ?_)
                    rw [hq]
                    have hW : xW D A s.heap ([(aS, .inr (6, [.ref aSv])), (aSv, .inl (cI, 11, .inl sf)), (aR, .inr (4, [.ref aRd, .ref aRo, .int rc, .int rl, .int rm])), (aRd, .inl (cI, 12, .inl rd)), (aRo, .inl (cI, 12, .inl ro)), (aP, .inr (3, [.ref aPc, .int pl])), (aX, .inr (9, [.ref aV, .ref aVk, .ref aK, .ref aJ, .ref aP, .ref aQ])), (aV, .inr (8, [.ref aS, .ref aL, .ref aH, .ref aR, .int tm, .long k1, .long o43_.2.1, .long k3, .long k4, .long k5])), (aL, .inr (2, [.ref aLr, .int o43_.2.2.1])), (aLr, .inl (cB, 10, .inr (.inr (.inr (.inr o43_.2.2.2))))), (aH, .inr (1, [.int vT, .long vG, .int vM, .int (bi vO), .int vN, .int (bi vD), .int vA]))] ++ bxP L qi qt qc qp) H _ := hW
                    have ho := un_shut eo43_ (at_w hc hyb.1 c3) c1
                    have hc2 : okC o43_.2.2.1 10 := by rw [ho]; exact hc
                    have hr2 : okR L o43_.2.2.2 := by rw [ho]; exact hr
                    refine lv_iload hx hb dL_isBox_297 (lv_at hl 4 rfl) ?_
                    refine lv_if_ne (tgt := 306) hx hb dL_isBox_299 (by decide) (fun c10 => ?_) (fun c10 => ?_)
                    · skip
                      refine lv_iload hx hb dL_isBox_306 (lv_at hl 8 rfl) ?_
                      refine lv_if_eq (tgt := 316) hx hb dL_isBox_308 (by decide) (fun c11 => ?_) (fun c11 => ?_)
                      · skip
                        refine lv_bipush (v := -5) hx hb dL_isBox_316 (by decide) ?_
                        refine lv_icmp_ne (tgt := 370) hx hb dL_isBox_318 (by decide) (fun c12 => ?_) (fun c12 => ?_)
                        · exact absurd (by subst ho; rfl) c12
                        · skip
                          refine lv_aload_n hx hb dL_isBox_321 rfl (lv_at hl 10 rfl) ?_
                          refine lv_bipush (v := 12) hx hb dL_isBox_322 (by decide) ?_
                          refine vp_callSi (va_Run.run (xrunV (As := [.int 12]) (rest := []) ⟨hx, hb, hml, hown, hts⟩ (c_X9_van l D cI cJ cZ cB H.size aX aV aS aSv aL aH aR aRo aP 12 aVk aK aJ aQ tm k1 o43_.2.1 k3 k4 k5 sf aLr o43_.2.2.1 vT vG vM vO vN vD vA aRd rc rl rm ro aPc pl (by assumption) _ rfl) (cwV 1 hts gL_isBox_X9_van rfl rfl rfl (by decide +kernel) ⟨Nat.le_of_ble_eq_true rfl, Nat.le_of_ble_eq_true rfl⟩) hK hG hW.2.2 (xsubQ hW hA [6, 7, 0, 1, 8, 10, 2, 4, 5] rfl (by decide)) (va_recv hK hW.1 (ci := 9) (q0 := 6) rfl rfl) rfl hl.1 rfl (Nat.le_of_ble_eq_true rfl) dL_isBox_324 ⟨Nat.le_of_ble_eq_true rfl, Nat.le_of_ble_eq_true rfl⟩)) (fun r45 hq => ?_)
                          rw [hq, van_12]
                          refine lv_iload hx hb dL_isBox_327 (lv_at hl 0 rfl) ?_
                          refine lv_if_eq (tgt := 338) hx hb dL_isBox_329 (by decide) (fun c13 => ?_) (fun c13 => ?_)
                          · skip
                            refine lv_iload_n hx hb dL_isBox_338 rfl (lv_at hl 9 rfl) ?_
                            refine lv_icmp_ne (tgt := 370) hx hb dL_isBox_339 (by decide) (fun c14 => ?_) (fun c14 => ?_)
                            · exact absurd (by subst ho; rfl) c14
                            · skip
                              refine lv_aload_n hx hb dL_isBox_342 rfl (lv_at hl 10 rfl) ?_
                              refine lv_iconst (v := 2) hx hb dL_isBox_343 (by decide) ?_
                              refine vp_callSl (va_Run.run (xrunV (As := [.int 2]) (rest := []) ⟨hx, hb, hml, hown, hts⟩ (c_X9_account l D cI cJ cZ cB H.size aX aV aL aLr 2 aVk aK aJ aP aQ aS aH aR tm k1 o43_.2.1 k3 k4 k5 o43_.2.2.1 o43_.2.2.2 L qi qt qc qp (by assumption) (by assumption) _ rfl) (cwV 1 hts gL_isBox_X9_account rfl rfl rfl (by decide +kernel) ⟨Nat.le_of_ble_eq_true rfl, Nat.le_of_ble_eq_true rfl⟩) hK hG hW.2.2 (xsubP hW hA [6, 7, 8, 9] rfl (by decide)) (va_recv hK hW.1 (ci := 9) (q0 := 6) rfl rfl) rfl hl.1 rfl (Nat.le_of_ble_eq_true rfl) dL_isBox_344 ⟨Nat.le_of_ble_eq_true rfl, Nat.le_of_ble_eq_true rfl⟩)) (fun r46 hq => ?_)
                              rw [hq, acc_2]
                              refine lv_lload hx hb dL_isBox_347 (lv_at hl 1 rfl) ?_
                              refine lv_iload hx hb dL_isBox_349 (lv_at hl 0 rfl) ?_
                              refine lv_if_eq (tgt := 359) hx hb dL_isBox_351 (by decide) (fun c15 => ?_) (fun c15 => ?_)
                              · skip
                                refine lv_iconst (v := 0) hx hb dL_isBox_359 (by decide) ?_
                                refine lv_i2l hx hb dL_isBox_360 rfl ?_
                                refine lv_ladd hx hb dL_isBox_361 ?_
                                refine xlc_ne (tgt := 370) hx hb dL_isBox_362 dL_isBox_363 (by decide) (fun c16 => ?_) (fun c16 => ?_)
                                · exact absurd (by subst ho; exact k_0) c16
                                · skip
                                  refine lv_iconst (v := 1) hx hb dL_isBox_366 (by decide) ?_
                                  refine lv_goto (tgt := 371) hx hb dL_isBox_367 (by decide) ?_
                                  have hW := xW_perm (X' := [(aX, .inr (9, [.ref aV, .ref aVk, .ref aK, .ref aJ, .ref aP, .ref aQ])), (aV, .inr (8, [.ref aS, .ref aL, .ref aH, .ref aR, .int tm, .long k1, .long o43_.2.1, .long k3, .long k4, .long k5])), (aS, .inr (6, [.ref aSv])), (aSv, .inl (cI, 11, .inl sf)), (aL, .inr (2, [.ref aLr, .int o43_.2.2.1])), (aLr, .inl (cB, 10, .inr (.inr (.inr (.inr o43_.2.2.2))))), (aH, .inr (1, [.int vT, .long vG, .int vM, .int (bi vO), .int vN, .int (bi vD), .int vA])), (aR, .inr (4, [.ref aRd, .ref aRo, .int rc, .int rl, .int rm])), (aRd, .inl (cI, 12, .inl rd)), (aRo, .inl (cI, 12, .inl ro)), (aP, .inr (3, [.ref aPc, .int pl]))]) hW [6, 7, 0, 1, 8, 9, 10, 2, 3, 4, 5] rfl (by decide)
                                  exact W.zret (v := 1) hx hb hrt rfl (fun t ht hM => ⟨⟨1, (k1, o43_.2.1, k5, o43_.2.2.1, o43_.2.2.2, qi, qt, qc, qp), rfl, ⟨rfl, jj_B (B := B) (by subst ho; exact hJ) (by omega)⟩, ⟨by rw [ht]; exact hW.1, hW.2.1⟩⟩, hW.2.2.F ht⟩) hW.2.2.2.2 dL_isBox_371 hlocks
                              · exact absurd c15 (by decide)
                          · exact absurd c13 (by decide)
                      · exact absurd c11 (by decide)
                    · exact absurd c10 (by decide)
                  · exact absurd c9 (by decide)
            · skip
              refine lv_aload_n hx hb dL_isBox_113 rfl (lv_at hl 9 rfl) ?_
              refine lv_iload_n hx hb dL_isBox_114 rfl (lv_at hl 10 rfl) ?_
              refine lv_iconst (v := 2) hx hb dL_isBox_115 (by decide) ?_
              refine lv_iadd hx hb dL_isBox_116 ?_
              refine lv_ldc hx hb hown w3 dL_isBox_117 ?_
              refine xcell (k := a0 + 2) (n := 2000000) (rest := []) ⟨hx, hb, hml, hown, hts⟩ (cwS 3 hts gL_isBox_L_cell rfl rfl rfl (by decide +kernel) ⟨Nat.le_of_ble_eq_true rfl, Nat.le_of_ble_eq_true rfl⟩) hX hbl hbA hLn hW.2.2 (ck_2 hat) (by decide) hl.1 (Nat.le_of_ble_eq_true rfl) dL_isBox_119 ⟨Nat.le_of_ble_eq_true rfl, Nat.le_of_ble_eq_true rfl⟩ ?_
              obtain ⟨yp, eyp⟩ : ∃ z9, cellf Ln xs (a0 + 2) (2000000 : Int32) = z9 := ⟨_, rfl⟩
              rw [eyp]
              have hyp : 0 ≤ yp.toInt ∧ yp.toInt < 2000000 := cell_b (N := 2000000) (ck_2 hat) (by decide) (by decide) eyp
              refine lv_istore (lv' := [(11, .int yp), (10, .int (qp (bxa lr yb.toNatClampNeg))), (9, .int (qc (bxa lr yb.toNatClampNeg))), (8, .int 1), (7, .int yb), (6, .int yw), (5, .int u38_s0), (4, .int 0), (3, .int lc), (0, .ref aX), (1, .ref b), (2, .int a0)]) hx hb dL_isBox_122 hl (by decide) rfl (fun ls hl => ?_)
              refine lv_aload_n hx hb dL_isBox_124 rfl (lv_at hl 9 rfl) ?_
              refine lv_iconst (v := 1) hx hb dL_isBox_125 (by decide) ?_
              refine vp_callSl (va_Run.run (xrunV (As := [.int 1]) (rest := []) ⟨hx, hb, hml, hown, hts⟩ (c_X9_account l D cI cJ cZ cB H.size aX aV aL aLr 1 aVk aK aJ aP aQ aS aH aR tm k1 k2 k3 k4 k5 lc lr L qi qt qc qp (by assumption) (by assumption) _ rfl) (cwV 1 hts gL_isBox_X9_account rfl rfl rfl (by decide +kernel) ⟨Nat.le_of_ble_eq_true rfl, Nat.le_of_ble_eq_true rfl⟩) hK hG hW.2.2 (xsubP hW hA [0, 1, 4, 5] rfl (by decide)) (va_recv hK hW.1 (ci := 9) (q0 := 0) rfl rfl) rfl hl.1 rfl (Nat.le_of_ble_eq_true rfl) dL_isBox_126 ⟨Nat.le_of_ble_eq_true rfl, Nat.le_of_ble_eq_true rfl⟩)) (fun r47 hq => ?_)
              rw [hq, acc_1]
              refine lv_lstore (lv' := [(12, .long k1), (11, .int yp), (10, .int (qp (bxa lr yb.toNatClampNeg))), (9, .int (qc (bxa lr yb.toNatClampNeg))), (8, .int 1), (7, .int yb), (6, .int yw), (5, .int u38_s0), (4, .int 0), (3, .int lc), (0, .ref aX), (1, .ref b), (2, .int a0)]) hx hb dL_isBox_129 hl (by decide) rfl (fun ls hl => ?_)
              refine lv_iload_n hx hb dL_isBox_131 rfl (lv_at hl 9 rfl) ?_
              refine lv_bipush (v := 10) hx hb dL_isBox_132 (by decide) ?_
              refine lv_icmp_ge (tgt := 146) hx hb dL_isBox_134 (by decide) (fun c7 => ?_) (fun c7 => ?_)
              · skip
                refine lv_iconst (v := 0) hx hb dL_isBox_146 (by decide) ?_
                refine lv_istore (lv' := [(14, .int 0), (12, .long k1), (11, .int yp), (10, .int (qp (bxa lr yb.toNatClampNeg))), (9, .int (qc (bxa lr yb.toNatClampNeg))), (8, .int 1), (7, .int yb), (6, .int yw), (5, .int u38_s0), (4, .int 0), (3, .int lc), (0, .ref aX), (1, .ref b), (2, .int a0)]) hx hb dL_isBox_147 hl (by decide) rfl (fun ls hl => ?_)
                refine lv_aload_n hx hb dL_isBox_149 rfl (lv_at hl 11 rfl) ?_
                refine lv_iconst (v := 1) hx hb dL_isBox_150 (by decide) ?_
                refine lv_aload_n hx hb dL_isBox_151 rfl (lv_at hl 12 rfl) ?_
                refine lv_iload_n hx hb dL_isBox_152 rfl (lv_at hl 13 rfl) ?_
                refine lv_iconst (v := 3) hx hb dL_isBox_153 (by decide) ?_
                refine lv_iadd hx hb dL_isBox_154 ?_
                refine lv_bipush (v := 20) hx hb dL_isBox_155 (by decide) ?_
                refine xcell (k := a0 + 3) (n := 20) (rest := [.int 1, .ref aX]) ⟨hx, hb, hml, hown, hts⟩ (cwS 3 hts gL_isBox_L_cell rfl rfl rfl (by decide +kernel) ⟨Nat.le_of_ble_eq_true rfl, Nat.le_of_ble_eq_true rfl⟩) hX hbl hbA hLn hW.2.2 (ck_3 hat) (by decide) hl.1 (Nat.le_of_ble_eq_true rfl) dL_isBox_157 ⟨Nat.le_of_ble_eq_true rfl, Nat.le_of_ble_eq_true rfl⟩ ?_
                obtain ⟨yi, eyi⟩ : ∃ z9, cellf Ln xs (a0 + 3) (20 : Int32) = z9 := ⟨_, rfl⟩
                rw [eyi]
                have hyi : 0 ≤ yi.toInt ∧ yi.toInt < 20 := cell_b (N := 20) (ck_3 hat) (by decide) (by decide) eyi
                refine lv_iadd hx hb dL_isBox_160 ?_
                refine lv_bipush (v := 7) hx hb dL_isBox_161 (by decide) ?_
                refine lv_iload hx hb dL_isBox_163 (lv_at hl 2 rfl) ?_
                obtain ⟨o48_, eo48_⟩ : ∃ z9, f_X9_load (1 + yi) 7 yp k1 lc lr vD qi qt qc qp = z9 := ⟨_, rfl⟩
                refine xPi (wr := [(aS, .inr (6, [.ref aSv])), (aSv, .inl (cI, 11, .inl sf)), (aR, .inr (4, [.ref aRd, .ref aRo, .int rc, .int rl, .int rm])), (aRd, .inl (cI, 12, .inl rd)), (aRo, .inl (cI, 12, .inl ro)), (aP, .inr (3, [.ref aPc, .int pl]))]) hW hA [0, 1, 4, 5, 6] [2, 3, 7, 8, 9, 10] rfl rfl (by decide) (by decide) (by decide) (xrunV (As := [.int (1 + yi), .int 7, .int yp]) (rest := []) ⟨hx, hb, hml, hown, hts⟩ (c_X9_load l D cI cJ cZ cB H.size aX aV aL aLr aH (1 + yi) 7 yp aVk aK aJ aP aQ aS aR tm k1 k2 k3 k4 k5 lc lr vT vG vM vO vN vD vA L qi qt qc qp (by assumption) (by assumption) o48_ eo48_) (cwV 3 hts gL_isBox_X9_load rfl rfl rfl (by decide +kernel) ⟨Nat.le_of_ble_eq_true rfl, Nat.le_of_ble_eq_true rfl⟩) hK hG hW.2.2 (xsubP hW hA [0, 1, 4, 5, 6] rfl (by decide)) (va_recv hK hW.1 (ci := 9) (q0 := 0) rfl rfl) rfl hl.1 rfl (Nat.le_of_ble_eq_true rfl) dL_isBox_165 ⟨Nat.le_of_ble_eq_true rfl, Nat.le_of_ble_eq_true rfl⟩) (fun r49 _ H locs hq hW => ?_)
                rw [hq]
                have hW : xW D A s.heap ([(aS, .inr (6, [.ref aSv])), (aSv, .inl (cI, 11, .inl sf)), (aR, .inr (4, [.ref aRd, .ref aRo, .int rc, .int rl, .int rm])), (aRd, .inl (cI, 12, .inl rd)), (aRo, .inl (cI, 12, .inl ro)), (aP, .inr (3, [.ref aPc, .int pl])), (aX, .inr (9, [.ref aV, .ref aVk, .ref aK, .ref aJ, .ref aP, .ref aQ])), (aV, .inr (8, [.ref aS, .ref aL, .ref aH, .ref aR, .int tm, .long o48_.2.1, .long k2, .long k3, .long k4, .long k5])), (aL, .inr (2, [.ref aLr, .int o48_.2.2.1])), (aLr, .inl (cB, 10, .inr (.inr (.inr (.inr lr))))), (aH, .inr (1, [.int vT, .long vG, .int vM, .int (bi vO), .int vN, .int (bi vD), .int vA]))] ++ bxP L o48_.2.2.2.1 o48_.2.2.2.2.1 o48_.2.2.2.2.2.1 o48_.2.2.2.2.2.2) H _ := hW
                have ho := ld_full eo48_ (i_b hyi) (p_b hyp) c7
                have hc2 : okC o48_.2.2.1 10 := by rw [ho]; exact hc
                refine lv_iload_n hx hb dL_isBox_168 rfl (lv_at hl 10 rfl) ?_
                refine lv_bipush (v := 10) hx hb dL_isBox_169 (by decide) ?_
                refine lv_icmp_ne (tgt := 179) hx hb dL_isBox_171 (by decide) (fun c8 => ?_) (fun c8 => ?_)
                · exact absurd (n10_t hc c7) c8
                · skip
                  refine lv_bipush (v := -4) hx hb dL_isBox_174 (by decide) ?_
                  refine lv_goto (tgt := 190) hx hb dL_isBox_176 (by decide) ?_
                  refine lv_icmp_ne (tgt := 259) hx hb dL_isBox_190 (by decide) (fun c9 => ?_) (fun c9 => ?_)
                  · exact absurd (by subst ho; rfl) c9
                  · skip
                    refine lv_aload_n hx hb dL_isBox_193 rfl (lv_at hl 11 rfl) ?_
                    refine lv_iconst (v := 1) hx hb dL_isBox_194 (by decide) ?_
                    refine vp_callSl (va_Run.run (xrunV (As := [.int 1]) (rest := []) ⟨hx, hb, hml, hown, hts⟩ (c_X9_account l D cI cJ cZ cB H.size aX aV aL aLr 1 aVk aK aJ aP aQ aS aH aR tm o48_.2.1 k2 k3 k4 k5 o48_.2.2.1 lr L o48_.2.2.2.1 o48_.2.2.2.2.1 o48_.2.2.2.2.2.1 o48_.2.2.2.2.2.2 (by assumption) (by assumption) _ rfl) (cwV 1 hts gL_isBox_X9_account rfl rfl rfl (by decide +kernel) ⟨Nat.le_of_ble_eq_true rfl, Nat.le_of_ble_eq_true rfl⟩) hK hG hW.2.2 (xsubP hW hA [6, 7, 8, 9] rfl (by decide)) (va_recv hK hW.1 (ci := 9) (q0 := 6) rfl rfl) rfl hl.1 rfl (Nat.le_of_ble_eq_true rfl) dL_isBox_195 ⟨Nat.le_of_ble_eq_true rfl, Nat.le_of_ble_eq_true rfl⟩)) (fun r50 hq => ?_)
                    rw [hq, acc_1]
                    refine lv_lload hx hb dL_isBox_198 (lv_at hl 1 rfl) ?_
                    refine lv_iload hx hb dL_isBox_200 (lv_at hl 0 rfl) ?_
                    refine lv_if_eq (tgt := 210) hx hb dL_isBox_202 (by decide) (fun c10 => ?_) (fun c10 => ?_)
                    · skip
                      refine lv_iconst (v := 0) hx hb dL_isBox_210 (by decide) ?_
                      refine lv_i2l hx hb dL_isBox_211 rfl ?_
                      refine lv_ladd hx hb dL_isBox_212 ?_
                      refine xlc_ne (tgt := 259) hx hb dL_isBox_213 dL_isBox_214 (by decide) (fun c11 => ?_) (fun c11 => ?_)
                      · exact absurd (by subst ho; exact k_0) c11
                      · skip
                        refine lv_iload hx hb dL_isBox_217 (lv_at hl 0 rfl) ?_
                        refine lv_if_eq (tgt := 255) hx hb dL_isBox_219 (by decide) (fun c12 => ?_) (fun c12 => ?_)
                        · skip
                          refine lv_iconst (v := 1) hx hb dL_isBox_255 (by decide) ?_
                          refine lv_goto (tgt := 260) hx hb dL_isBox_256 (by decide) ?_
                          have hW := xW_perm (X' := [(aX, .inr (9, [.ref aV, .ref aVk, .ref aK, .ref aJ, .ref aP, .ref aQ])), (aV, .inr (8, [.ref aS, .ref aL, .ref aH, .ref aR, .int tm, .long o48_.2.1, .long k2, .long k3, .long k4, .long k5])), (aS, .inr (6, [.ref aSv])), (aSv, .inl (cI, 11, .inl sf)), (aL, .inr (2, [.ref aLr, .int o48_.2.2.1])), (aLr, .inl (cB, 10, .inr (.inr (.inr (.inr lr))))), (aH, .inr (1, [.int vT, .long vG, .int vM, .int (bi vO), .int vN, .int (bi vD), .int vA])), (aR, .inr (4, [.ref aRd, .ref aRo, .int rc, .int rl, .int rm])), (aRd, .inl (cI, 12, .inl rd)), (aRo, .inl (cI, 12, .inl ro)), (aP, .inr (3, [.ref aPc, .int pl]))]) hW [6, 7, 0, 1, 8, 9, 10, 2, 3, 4, 5] rfl (by decide)
                          exact W.zret (v := 1) hx hb hrt rfl (fun t ht hM => ⟨⟨1, (o48_.2.1, k2, k5, o48_.2.2.1, lr, o48_.2.2.2.1, o48_.2.2.2.2.1, o48_.2.2.2.2.2.1, o48_.2.2.2.2.2.2), rfl, ⟨rfl, jj_B (B := B) (by subst ho; exact hJ) (by omega)⟩, ⟨by rw [ht]; exact hW.1, hW.2.1⟩⟩, hW.2.2.F ht⟩) hW.2.2.2.2 dL_isBox_260 hlocks
                        · exact absurd c12 (by decide)
                    · exact absurd c10 (by decide)
              · skip
                refine lv_iload hx hb dL_isBox_137 (lv_at hl 8 rfl) ?_
                refine lv_if_eq (tgt := 146) hx hb dL_isBox_139 (by decide) (fun c8 => ?_) (fun c8 => ?_)
                · skip
                  refine lv_iconst (v := 0) hx hb dL_isBox_146 (by decide) ?_
                  refine lv_istore (lv' := [(14, .int 0), (12, .long k1), (11, .int yp), (10, .int (qp (bxa lr yb.toNatClampNeg))), (9, .int (qc (bxa lr yb.toNatClampNeg))), (8, .int 1), (7, .int yb), (6, .int yw), (5, .int u38_s0), (4, .int 0), (3, .int lc), (0, .ref aX), (1, .ref b), (2, .int a0)]) hx hb dL_isBox_147 hl (by decide) rfl (fun ls hl => ?_)
                  refine lv_aload_n hx hb dL_isBox_149 rfl (lv_at hl 11 rfl) ?_
                  refine lv_iconst (v := 1) hx hb dL_isBox_150 (by decide) ?_
                  refine lv_aload_n hx hb dL_isBox_151 rfl (lv_at hl 12 rfl) ?_
                  refine lv_iload_n hx hb dL_isBox_152 rfl (lv_at hl 13 rfl) ?_
                  refine lv_iconst (v := 3) hx hb dL_isBox_153 (by decide) ?_
                  refine lv_iadd hx hb dL_isBox_154 ?_
                  refine lv_bipush (v := 20) hx hb dL_isBox_155 (by decide) ?_
                  refine xcell (k := a0 + 3) (n := 20) (rest := [.int 1, .ref aX]) ⟨hx, hb, hml, hown, hts⟩ (cwS 3 hts gL_isBox_L_cell rfl rfl rfl (by decide +kernel) ⟨Nat.le_of_ble_eq_true rfl, Nat.le_of_ble_eq_true rfl⟩) hX hbl hbA hLn hW.2.2 (ck_3 hat) (by decide) hl.1 (Nat.le_of_ble_eq_true rfl) dL_isBox_157 ⟨Nat.le_of_ble_eq_true rfl, Nat.le_of_ble_eq_true rfl⟩ ?_
                  obtain ⟨yi, eyi⟩ : ∃ z9, cellf Ln xs (a0 + 3) (20 : Int32) = z9 := ⟨_, rfl⟩
                  rw [eyi]
                  have hyi : 0 ≤ yi.toInt ∧ yi.toInt < 20 := cell_b (N := 20) (ck_3 hat) (by decide) (by decide) eyi
                  refine lv_iadd hx hb dL_isBox_160 ?_
                  refine lv_bipush (v := 7) hx hb dL_isBox_161 (by decide) ?_
                  refine lv_iload hx hb dL_isBox_163 (lv_at hl 2 rfl) ?_
                  obtain ⟨o51_, eo51_⟩ : ∃ z9, f_X9_load (1 + yi) 7 yp k1 lc lr vD qi qt qc qp = z9 := ⟨_, rfl⟩
                  refine xPi (wr := [(aS, .inr (6, [.ref aSv])), (aSv, .inl (cI, 11, .inl sf)), (aR, .inr (4, [.ref aRd, .ref aRo, .int rc, .int rl, .int rm])), (aRd, .inl (cI, 12, .inl rd)), (aRo, .inl (cI, 12, .inl ro)), (aP, .inr (3, [.ref aPc, .int pl]))]) hW hA [0, 1, 4, 5, 6] [2, 3, 7, 8, 9, 10] rfl rfl (by decide) (by decide) (by decide) (xrunV (As := [.int (1 + yi), .int 7, .int yp]) (rest := []) ⟨hx, hb, hml, hown, hts⟩ (c_X9_load l D cI cJ cZ cB H.size aX aV aL aLr aH (1 + yi) 7 yp aVk aK aJ aP aQ aS aR tm k1 k2 k3 k4 k5 lc lr vT vG vM vO vN vD vA L qi qt qc qp (by assumption) (by assumption) o51_ eo51_) (cwV 3 hts gL_isBox_X9_load rfl rfl rfl (by decide +kernel) ⟨Nat.le_of_ble_eq_true rfl, Nat.le_of_ble_eq_true rfl⟩) hK hG hW.2.2 (xsubP hW hA [0, 1, 4, 5, 6] rfl (by decide)) (va_recv hK hW.1 (ci := 9) (q0 := 0) rfl rfl) rfl hl.1 rfl (Nat.le_of_ble_eq_true rfl) dL_isBox_165 ⟨Nat.le_of_ble_eq_true rfl, Nat.le_of_ble_eq_true rfl⟩) (fun r52 _ H locs hq hW => ?_)
                  rw [hq]
                  have hW : xW D A s.heap ([(aS, .inr (6, [.ref aSv])), (aSv, .inl (cI, 11, .inl sf)), (aR, .inr (4, [.ref aRd, .ref aRo, .int rc, .int rl, .int rm])), (aRd, .inl (cI, 12, .inl rd)), (aRo, .inl (cI, 12, .inl ro)), (aP, .inr (3, [.ref aPc, .int pl])), (aX, .inr (9, [.ref aV, .ref aVk, .ref aK, .ref aJ, .ref aP, .ref aQ])), (aV, .inr (8, [.ref aS, .ref aL, .ref aH, .ref aR, .int tm, .long o51_.2.1, .long k2, .long k3, .long k4, .long k5])), (aL, .inr (2, [.ref aLr, .int o51_.2.2.1])), (aLr, .inl (cB, 10, .inr (.inr (.inr (.inr lr))))), (aH, .inr (1, [.int vT, .long vG, .int vM, .int (bi vO), .int vN, .int (bi vD), .int vA]))] ++ bxP L o51_.2.2.2.1 o51_.2.2.2.2.1 o51_.2.2.2.2.2.1 o51_.2.2.2.2.2.2) H _ := hW
                  have ho := ld_shut eo51_ (i_b hyi) (p_b hyp) c7 c1
                  have hc2 : okC o51_.2.2.1 10 := by rw [ho]; exact hc
                  refine lv_iload_n hx hb dL_isBox_168 rfl (lv_at hl 10 rfl) ?_
                  refine lv_bipush (v := 10) hx hb dL_isBox_169 (by decide) ?_
                  refine lv_icmp_ne (tgt := 179) hx hb dL_isBox_171 (by decide) (fun c9 => ?_) (fun c9 => ?_)
                  · skip
                    refine lv_iload hx hb dL_isBox_179 (lv_at hl 9 rfl) ?_
                    refine lv_if_eq (tgt := 188) hx hb dL_isBox_181 (by decide) (fun c10 => ?_) (fun c10 => ?_)
                    · skip
                      refine lv_bipush (v := -5) hx hb dL_isBox_188 (by decide) ?_
                      refine lv_icmp_ne (tgt := 259) hx hb dL_isBox_190 (by decide) (fun c11 => ?_) (fun c11 => ?_)
                      · exact absurd (by subst ho; rfl) c11
                      · skip
                        refine lv_aload_n hx hb dL_isBox_193 rfl (lv_at hl 11 rfl) ?_
                        refine lv_iconst (v := 1) hx hb dL_isBox_194 (by decide) ?_
                        refine vp_callSl (va_Run.run (xrunV (As := [.int 1]) (rest := []) ⟨hx, hb, hml, hown, hts⟩ (c_X9_account l D cI cJ cZ cB H.size aX aV aL aLr 1 aVk aK aJ aP aQ aS aH aR tm o51_.2.1 k2 k3 k4 k5 o51_.2.2.1 lr L o51_.2.2.2.1 o51_.2.2.2.2.1 o51_.2.2.2.2.2.1 o51_.2.2.2.2.2.2 (by assumption) (by assumption) _ rfl) (cwV 1 hts gL_isBox_X9_account rfl rfl rfl (by decide +kernel) ⟨Nat.le_of_ble_eq_true rfl, Nat.le_of_ble_eq_true rfl⟩) hK hG hW.2.2 (xsubP hW hA [6, 7, 8, 9] rfl (by decide)) (va_recv hK hW.1 (ci := 9) (q0 := 6) rfl rfl) rfl hl.1 rfl (Nat.le_of_ble_eq_true rfl) dL_isBox_195 ⟨Nat.le_of_ble_eq_true rfl, Nat.le_of_ble_eq_true rfl⟩)) (fun r53 hq => ?_)
                        rw [hq, acc_1]
                        refine lv_lload hx hb dL_isBox_198 (lv_at hl 1 rfl) ?_
                        refine lv_iload hx hb dL_isBox_200 (lv_at hl 0 rfl) ?_
                        refine lv_if_eq (tgt := 210) hx hb dL_isBox_202 (by decide) (fun c12 => ?_) (fun c12 => ?_)
                        · skip
                          refine lv_iconst (v := 0) hx hb dL_isBox_210 (by decide) ?_
                          refine lv_i2l hx hb dL_isBox_211 rfl ?_
                          refine lv_ladd hx hb dL_isBox_212 ?_
                          refine xlc_ne (tgt := 259) hx hb dL_isBox_213 dL_isBox_214 (by decide) (fun c13 => ?_) (fun c13 => ?_)
                          · exact absurd (by subst ho; exact k_0) c13
                          · skip
                            refine lv_iload hx hb dL_isBox_217 (lv_at hl 0 rfl) ?_
                            refine lv_if_eq (tgt := 255) hx hb dL_isBox_219 (by decide) (fun c14 => ?_) (fun c14 => ?_)
                            · skip
                              refine lv_iconst (v := 1) hx hb dL_isBox_255 (by decide) ?_
                              refine lv_goto (tgt := 260) hx hb dL_isBox_256 (by decide) ?_
                              have hW := xW_perm (X' := [(aX, .inr (9, [.ref aV, .ref aVk, .ref aK, .ref aJ, .ref aP, .ref aQ])), (aV, .inr (8, [.ref aS, .ref aL, .ref aH, .ref aR, .int tm, .long o51_.2.1, .long k2, .long k3, .long k4, .long k5])), (aS, .inr (6, [.ref aSv])), (aSv, .inl (cI, 11, .inl sf)), (aL, .inr (2, [.ref aLr, .int o51_.2.2.1])), (aLr, .inl (cB, 10, .inr (.inr (.inr (.inr lr))))), (aH, .inr (1, [.int vT, .long vG, .int vM, .int (bi vO), .int vN, .int (bi vD), .int vA])), (aR, .inr (4, [.ref aRd, .ref aRo, .int rc, .int rl, .int rm])), (aRd, .inl (cI, 12, .inl rd)), (aRo, .inl (cI, 12, .inl ro)), (aP, .inr (3, [.ref aPc, .int pl]))]) hW [6, 7, 0, 1, 8, 9, 10, 2, 3, 4, 5] rfl (by decide)
                              exact W.zret (v := 1) hx hb hrt rfl (fun t ht hM => ⟨⟨1, (o51_.2.1, k2, k5, o51_.2.2.1, lr, o51_.2.2.2.1, o51_.2.2.2.2.1, o51_.2.2.2.2.2.1, o51_.2.2.2.2.2.2), rfl, ⟨rfl, jj_B (B := B) (by subst ho; exact hJ) (by omega)⟩, ⟨by rw [ht]; exact hW.1, hW.2.1⟩⟩, hW.2.2.F ht⟩) hW.2.2.2.2 dL_isBox_260 hlocks
                            · exact absurd c14 (by decide)
                        · exact absurd c12 (by decide)
                    · exact absurd c10 (by decide)
                  · exact absurd c9 (n10_f c7)
                · exact absurd c8 (by decide)
    refine lv_if_le (tgt := 37) hx hb dL_isBox_30 (by decide) (fun c2 => ?_) (fun c2 => ?_)
    · skip
      refine lv_iconst (v := 0) hx hb dL_isBox_37 (by decide) ?_
      exact hJ38 ((0 : Int32)) _ _ _ (by rw [if_pos c2]) hW (lv_sub hl [0, 1, 2, 3, 4] rfl)
    · skip
      refine lv_iconst (v := 1) hx hb dL_isBox_33 (by decide) ?_
      refine lv_goto (tgt := 38) hx hb dL_isBox_34 (by decide) ?_
      exact hJ38 ((1 : Int32)) _ _ _ (by rw [if_neg c2]) hW (lv_sub hl [0, 1, 2, 3, 4] rfl)
  · skip
    refine lv_iconst (v := 1) hx hb dL_isBox_17 (by decide) ?_
    refine lv_goto (tgt := 22) hx hb dL_isBox_18 (by decide) ?_
    refine lv_istore (lv' := [(4, .int 1), (3, .int lc), (0, .ref aX), (1, .ref b), (2, .int a0)]) hx hb dL_isBox_22 hl (by decide) rfl (fun ls hl => ?_)
    refine lv_aload_n hx hb dL_isBox_24 rfl (lv_at hl 2 rfl) ?_
    refine lv_bipush (v := 10) hx hb dL_isBox_25 (by decide) ?_
    refine vp_callSi (va_Run.run (xrunV (As := [.int 10]) (rest := []) ⟨hx, hb, hml, hown, hts⟩ (c_X9_van l D cI cJ cZ cB H.size aX aV aS aSv aL aH aR aRo aP 10 aVk aK aJ aQ tm k1 k2 k3 k4 k5 sf aLr lc vT vG vM vO vN vD vA aRd rc rl rm ro aPc pl (by assumption) _ rfl) (cwV 1 hts gL_isBox_X9_van rfl rfl rfl (by decide +kernel) ⟨Nat.le_of_ble_eq_true rfl, Nat.le_of_ble_eq_true rfl⟩) hK hG hW.2.2 (xsubQ hW hA [0, 1, 2, 3, 4, 6, 7, 9, 10] rfl (by decide)) (va_recv hK hW.1 (ci := 9) (q0 := 0) rfl rfl) rfl hl.1 rfl (Nat.le_of_ble_eq_true rfl) dL_isBox_27 ⟨Nat.le_of_ble_eq_true rfl, Nat.le_of_ble_eq_true rfl⟩)) (fun r54 hq => ?_)
    rw [hq, van_10]
    refine W.widen (k := 0) (n := 0) (Nat.le_of_ble_eq_true rfl) (Nat.le_of_ble_eq_true rfl) ?_
    have hJ38 : ∀ (u38_s0 : Int32) (H : Heap) (locs : List Loc) (ls : Array Slot), u38_s0 = (if rm ≤ 0 then (0 : Int32) else (1 : Int32)) → xW D A s.heap ([(aX, .inr (9, [.ref aV, .ref aVk, .ref aK, .ref aJ, .ref aP, .ref aQ])), (aV, .inr (8, [.ref aS, .ref aL, .ref aH, .ref aR, .int tm, .long k1, .long k2, .long k3, .long k4, .long k5])), (aS, .inr (6, [.ref aSv])), (aSv, .inl (cI, 11, .inl sf)), (aL, .inr (2, [.ref aLr, .int lc])), (aLr, .inl (cB, 10, .inr (.inr (.inr (.inr lr))))), (aH, .inr (1, [.int vT, .long vG, .int vM, .int (bi vO), .int vN, .int (bi vD), .int vA])), (aR, .inr (4, [.ref aRd, .ref aRo, .int rc, .int rl, .int rm])), (aRd, .inl (cI, 12, .inl rd)), (aRo, .inl (cI, 12, .inl ro)), (aP, .inr (3, [.ref aPc, .int pl]))] ++ bxP L qi qt qc qp) H locs → lv_has ls 15 [(4, .int 1), (3, .int lc), (0, .ref aX), (1, .ref b), (2, .int a0)] → W p l e ({ frames := 5, cells := 0, slots := 0, locals := 105 } : Room) s m [.ref aX, .ref b, .int a0].toArray below meth c H locs 0 0 (MQ below (va_Qi (fun r (u : Int64 × Int64 × Int64 × Int32 × (Nat → Option Nat) × (Nat → Int32) × (Nat → Int32) × (Nat → Int32) × (Nat → Int32)) => r = 1 ∧ JJ (B + 2000000) Tm L u.2.2.2.1 u.2.2.2.2.1 rc rl rm rd ro sf vT vG vM vO vN vD vA tm u.1 u.2.1 k3 k4 u.2.2.1 u.2.2.2.2.2.1 u.2.2.2.2.2.2.1 u.2.2.2.2.2.2.2.1 u.2.2.2.2.2.2.2.2) (fun u t => xB D (([(aX, .inr (9, [.ref aV, .ref aVk, .ref aK, .ref aJ, .ref aP, .ref aQ])), (aV, .inr (8, [.ref aS, .ref aL, .ref aH, .ref aR, .int tm, .long u.1, .long u.2.1, .long k3, .long k4, .long u.2.2.1])), (aS, .inr (6, [.ref aSv])), (aSv, .inl (cI, 11, .inl sf)), (aL, .inr (2, [.ref aLr, .int u.2.2.2.1])), (aLr, .inl (cB, 10, .inr (.inr (.inr (.inr u.2.2.2.2.1))))), (aH, .inr (1, [.int vT, .long vG, .int vM, .int (bi vO), .int vN, .int (bi vD), .int vA])), (aR, .inr (4, [.ref aRd, .ref aRo, .int rc, .int rl, .int rm])), (aRd, .inl (cI, 12, .inl rd)), (aRo, .inl (cI, 12, .inl ro)), (aP, .inr (3, [.ref aPc, .int pl]))] : va_W) ++ bxP L u.2.2.2.2.2.1 u.2.2.2.2.2.2.1 u.2.2.2.2.2.2.2.1 u.2.2.2.2.2.2.2.2) A t) A) [.ref aX, .ref b, .int a0].toArray s 0 0 A) (F0 m 38 ls [.int u38_s0]) := by
      intro u38_s0 H locs ls eu38_s0 hW hl
      refine lv_istore (lv' := [(5, .int u38_s0), (4, .int 1), (3, .int lc), (0, .ref aX), (1, .ref b), (2, .int a0)]) hx hb dL_isBox_38 hl (by decide) rfl (fun ls hl => ?_)
      refine lv_aload_n hx hb dL_isBox_40 rfl (lv_at hl 4 rfl) ?_
      refine lv_iload_n hx hb dL_isBox_41 rfl (lv_at hl 5 rfl) ?_
      refine lv_iconst (v := 5) hx hb dL_isBox_42 (by decide) ?_
      refine xcell (k := a0) (n := 5) (rest := []) ⟨hx, hb, hml, hown, hts⟩ (cwS 3 hts gL_isBox_L_cell rfl rfl rfl (by decide +kernel) ⟨Nat.le_of_ble_eq_true rfl, Nat.le_of_ble_eq_true rfl⟩) hX hbl hbA hLn hW.2.2 (ck_0 hat) (by decide) hl.1 (Nat.le_of_ble_eq_true rfl) dL_isBox_43 ⟨Nat.le_of_ble_eq_true rfl, Nat.le_of_ble_eq_true rfl⟩ ?_
      obtain ⟨yw, eyw⟩ : ∃ z9, cellf Ln xs a0 (5 : Int32) = z9 := ⟨_, rfl⟩
      rw [eyw]
      have hyw : 0 ≤ yw.toInt ∧ yw.toInt < 5 := cell_b (N := 5) (ck_0 hat) (by decide) (by decide) eyw
      refine lv_istore (lv' := [(6, .int yw), (5, .int u38_s0), (4, .int 1), (3, .int lc), (0, .ref aX), (1, .ref b), (2, .int a0)]) hx hb dL_isBox_46 hl (by decide) rfl (fun ls hl => ?_)
      refine lv_aload_n hx hb dL_isBox_48 rfl (lv_at hl 5 rfl) ?_
      refine lv_iload_n hx hb dL_isBox_49 rfl (lv_at hl 6 rfl) ?_
      refine lv_iconst (v := 1) hx hb dL_isBox_50 (by decide) ?_
      refine lv_iadd hx hb dL_isBox_51 ?_
      refine lv_bipush (v := 10) hx hb dL_isBox_52 (by decide) ?_
      refine xcell (k := a0 + 1) (n := 10) (rest := []) ⟨hx, hb, hml, hown, hts⟩ (cwS 3 hts gL_isBox_L_cell rfl rfl rfl (by decide +kernel) ⟨Nat.le_of_ble_eq_true rfl, Nat.le_of_ble_eq_true rfl⟩) hX hbl hbA hLn hW.2.2 (ck_1 hat) (by decide) hl.1 (Nat.le_of_ble_eq_true rfl) dL_isBox_54 ⟨Nat.le_of_ble_eq_true rfl, Nat.le_of_ble_eq_true rfl⟩ ?_
      obtain ⟨yb, eyb⟩ : ∃ z9, cellf Ln xs (a0 + 1) (10 : Int32) = z9 := ⟨_, rfl⟩
      rw [eyb]
      have hyb : 0 ≤ yb.toInt ∧ yb.toInt < 10 := cell_b (N := 10) (ck_1 hat) (by decide) (by decide) eyb
      refine lv_istore (lv' := [(7, .int yb), (6, .int yw), (5, .int u38_s0), (4, .int 1), (3, .int lc), (0, .ref aX), (1, .ref b), (2, .int a0)]) hx hb dL_isBox_57 hl (by decide) rfl (fun ls hl => ?_)
      refine lv_iload hx hb dL_isBox_59 (lv_at hl 0 rfl) ?_
      refine lv_iload_n hx hb dL_isBox_61 rfl (lv_at hl 4 rfl) ?_
      refine lv_icmp_ge (tgt := 69) hx hb dL_isBox_62 (by decide) (fun c3 => ?_) (fun c3 => ?_)
      · skip
        refine lv_iconst (v := 0) hx hb dL_isBox_69 (by decide) ?_
        refine lv_istore (lv' := [(8, .int 0), (7, .int yb), (6, .int yw), (5, .int u38_s0), (4, .int 1), (3, .int lc), (0, .ref aX), (1, .ref b), (2, .int a0)]) hx hb dL_isBox_70 hl (by decide) rfl (fun ls hl => ?_)
        refine lv_iload hx hb dL_isBox_72 (lv_at hl 0 rfl) ?_
        refine lv_if_eq (tgt := 87) hx hb dL_isBox_74 (by decide) (fun c4 => ?_) (fun c4 => ?_)
        · skip
          refine lv_iconst (v := 0) hx hb dL_isBox_87 (by decide) ?_
          refine lv_istore (lv' := [(9, .int 0), (8, .int 0), (7, .int yb), (6, .int yw), (5, .int u38_s0), (4, .int 1), (3, .int lc), (0, .ref aX), (1, .ref b), (2, .int a0)]) hx hb dL_isBox_88 hl (by decide) rfl (fun ls hl => ?_)
          refine lv_iload hx hb dL_isBox_90 (lv_at hl 1 rfl) ?_
          refine lv_if_eq (tgt := 105) hx hb dL_isBox_92 (by decide) (fun c5 => ?_) (fun c5 => ?_)
          · skip
            refine lv_iconst (v := 0) hx hb dL_isBox_105 (by decide) ?_
            refine lv_istore (lv' := [(10, .int 0), (9, .int 0), (8, .int 0), (7, .int yb), (6, .int yw), (5, .int u38_s0), (4, .int 1), (3, .int lc), (0, .ref aX), (1, .ref b), (2, .int a0)]) hx hb dL_isBox_106 hl (by decide) rfl (fun ls hl => ?_)
            refine lv_iload hx hb dL_isBox_108 (lv_at hl 4 rfl) ?_
            refine lv_if_ne (tgt := 261) hx hb dL_isBox_110 (by decide) (fun c6 => ?_) (fun c6 => ?_)
            · skip
              refine lv_iload hx hb dL_isBox_261 (lv_at hl 4 rfl) ?_
              refine lv_iconst (v := 1) hx hb dL_isBox_263 (by decide) ?_
              refine lv_icmp_ne (tgt := 372) hx hb dL_isBox_264 (by decide) (fun c7 => ?_) (fun c7 => ?_)
              · skip
                refine lv_iload hx hb dL_isBox_372 (lv_at hl 4 rfl) ?_
                refine lv_iconst (v := 2) hx hb dL_isBox_374 (by decide) ?_
                refine lv_icmp_ne (tgt := 468) hx hb dL_isBox_375 (by decide) (fun c8 => ?_) (fun c8 => ?_)
                · skip
                  refine lv_iload hx hb dL_isBox_468 (lv_at hl 4 rfl) ?_
                  refine lv_iconst (v := 3) hx hb dL_isBox_470 (by decide) ?_
                  refine lv_icmp_ne (tgt := 579) hx hb dL_isBox_471 (by decide) (fun c9 => ?_) (fun c9 => ?_)
                  · skip
                    refine lv_aload_n hx hb dL_isBox_579 rfl (lv_at hl 9 rfl) ?_
                    refine lv_iload_n hx hb dL_isBox_580 rfl (lv_at hl 10 rfl) ?_
                    refine lv_iconst (v := 2) hx hb dL_isBox_581 (by decide) ?_
                    refine lv_iadd hx hb dL_isBox_582 ?_
                    refine lv_bipush (v := 10) hx hb dL_isBox_583 (by decide) ?_
                    refine xcell (k := a0 + 2) (n := 10) (rest := []) ⟨hx, hb, hml, hown, hts⟩ (cwS 3 hts gL_isBox_L_cell rfl rfl rfl (by decide +kernel) ⟨Nat.le_of_ble_eq_true rfl, Nat.le_of_ble_eq_true rfl⟩) hX hbl hbA hLn hW.2.2 (ck_2 hat) (by decide) hl.1 (Nat.le_of_ble_eq_true rfl) dL_isBox_585 ⟨Nat.le_of_ble_eq_true rfl, Nat.le_of_ble_eq_true rfl⟩ ?_
                    obtain ⟨yt, eyt⟩ : ∃ z9, cellf Ln xs (a0 + 2) (10 : Int32) = z9 := ⟨_, rfl⟩
                    rw [eyt]
                    have hyt : 0 ≤ yt.toInt ∧ yt.toInt < 10 := cell_b (N := 10) (ck_2 hat) (by decide) (by decide) eyt
                    refine lv_istore (lv' := [(11, .int yt), (10, .int 0), (9, .int 0), (8, .int 0), (7, .int yb), (6, .int yw), (5, .int u38_s0), (4, .int 1), (3, .int lc), (0, .ref aX), (1, .ref b), (2, .int a0)]) hx hb dL_isBox_588 hl (by decide) rfl (fun ls hl => ?_)
                    refine lv_iload hx hb dL_isBox_590 (lv_at hl 3 rfl) ?_
                    refine lv_if_eq (tgt := 605) hx hb dL_isBox_592 (by decide) (fun c10 => ?_) (fun c10 => ?_)
                    · skip
                      refine lv_iconst (v := 0) hx hb dL_isBox_605 (by decide) ?_
                      refine lv_istore (lv' := [(12, .int 0), (11, .int yt), (10, .int 0), (9, .int 0), (8, .int 0), (7, .int yb), (6, .int yw), (5, .int u38_s0), (4, .int 1), (3, .int lc), (0, .ref aX), (1, .ref b), (2, .int a0)]) hx hb dL_isBox_606 hl (by decide) rfl (fun ls hl => ?_)
                      refine lv_iload hx hb dL_isBox_608 (lv_at hl 0 rfl) ?_
                      refine lv_if_eq (tgt := 623) hx hb dL_isBox_610 (by decide) (fun c11 => ?_) (fun c11 => ?_)
                      · skip
                        refine lv_iconst (v := 0) hx hb dL_isBox_623 (by decide) ?_
                        refine lv_istore (lv' := [(13, .int 0), (12, .int 0), (11, .int yt), (10, .int 0), (9, .int 0), (8, .int 0), (7, .int yb), (6, .int yw), (5, .int u38_s0), (4, .int 1), (3, .int lc), (0, .ref aX), (1, .ref b), (2, .int a0)]) hx hb dL_isBox_624 hl (by decide) rfl (fun ls hl => ?_)
                        refine lv_aload_n hx hb dL_isBox_626 rfl (lv_at hl 11 rfl) ?_
                        refine lv_iload hx hb dL_isBox_627 (lv_at hl 6 rfl) ?_
                        refine lv_iload hx hb dL_isBox_629 (lv_at hl 2 rfl) ?_
                        refine xPi (wr := [(aS, .inr (6, [.ref aSv])), (aSv, .inl (cI, 11, .inl sf)), (aH, .inr (1, [.int vT, .long vG, .int vM, .int (bi vO), .int vN, .int (bi vD), .int vA])), (aR, .inr (4, [.ref aRd, .ref aRo, .int rc, .int rl, .int rm])), (aRd, .inl (cI, 12, .inl rd)), (aRo, .inl (cI, 12, .inl ro)), (aP, .inr (3, [.ref aPc, .int pl]))]) hW hA [0, 1, 4, 5] [2, 3, 6, 7, 8, 9, 10] rfl rfl (by decide) (by decide) (by decide) (xrunV (As := [.int yb, .int yt]) (rest := []) ⟨hx, hb, hml, hown, hts⟩ (c_X9_shift l D cI cJ cZ cB H.size aX aV aL aLr yb yt aVk aK aJ aP aQ aS aH aR tm k1 k2 k3 k4 k5 lc lr L qi qt qc qp (by assumption) (by assumption) _ rfl) (cwV 2 hts gL_isBox_X9_shift rfl rfl rfl (by decide +kernel) ⟨Nat.le_of_ble_eq_true rfl, Nat.le_of_ble_eq_true rfl⟩) hK hG hW.2.2 (xsubP hW hA [0, 1, 4, 5] rfl (by decide)) (va_recv hK hW.1 (ci := 9) (q0 := 0) rfl rfl) rfl hl.1 rfl (Nat.le_of_ble_eq_true rfl) dL_isBox_631 ⟨Nat.le_of_ble_eq_true rfl, Nat.le_of_ble_eq_true rfl⟩) (fun r55 _ H locs hq hW => ?_)
                        rw [hq]
                        have hW : xW D A s.heap ([(aS, .inr (6, [.ref aSv])), (aSv, .inl (cI, 11, .inl sf)), (aH, .inr (1, [.int vT, .long vG, .int vM, .int (bi vO), .int vN, .int (bi vD), .int vA])), (aR, .inr (4, [.ref aRd, .ref aRo, .int rc, .int rl, .int rm])), (aRd, .inl (cI, 12, .inl rd)), (aRo, .inl (cI, 12, .inl ro)), (aP, .inr (3, [.ref aPc, .int pl])), (aX, .inr (9, [.ref aV, .ref aVk, .ref aK, .ref aJ, .ref aP, .ref aQ])), (aV, .inr (8, [.ref aS, .ref aL, .ref aH, .ref aR, .int tm, .long k1, .long k2, .long k3, .long k4, .long k5])), (aL, .inr (2, [.ref aLr, .int lc])), (aLr, .inl (cB, 10, .inr (.inr (.inr (.inr (f_X9_shift yb yt lc lr qc).2)))))] ++ bxP L qi qt qc qp) H _ := hW
                        have ho := sh_none (lr := lr) (qc := qc) (t := yt) hc c3
                        have hr2 : okR L (f_X9_shift yb yt lc lr qc).2 := by rw [ho]; exact hr
                        refine lv_iload hx hb dL_isBox_634 (lv_at hl 1 rfl) ?_
                        refine lv_if_eq (tgt := 644) hx hb dL_isBox_636 (by decide) (fun c12 => ?_) (fun c12 => ?_)
                        · skip
                          refine lv_iconst (v := -1) hx hb dL_isBox_644 (by decide) ?_
                          refine lv_icmp_ne (tgt := 716) hx hb dL_isBox_645 (by decide) (fun c13 => ?_) (fun c13 => ?_)
                          · exact absurd (congrArg Prod.fst ho) c13
                          · skip
                            refine lv_iload hx hb dL_isBox_648 (lv_at hl 1 rfl) ?_
                            refine lv_if_eq (tgt := 712) hx hb dL_isBox_650 (by decide) (fun c14 => ?_) (fun c14 => ?_)
                            · skip
                              refine lv_iconst (v := 1) hx hb dL_isBox_712 (by decide) ?_
                              refine lv_goto (tgt := 717) hx hb dL_isBox_713 (by decide) ?_
                              have hW := xW_perm (X' := [(aX, .inr (9, [.ref aV, .ref aVk, .ref aK, .ref aJ, .ref aP, .ref aQ])), (aV, .inr (8, [.ref aS, .ref aL, .ref aH, .ref aR, .int tm, .long k1, .long k2, .long k3, .long k4, .long k5])), (aS, .inr (6, [.ref aSv])), (aSv, .inl (cI, 11, .inl sf)), (aL, .inr (2, [.ref aLr, .int lc])), (aLr, .inl (cB, 10, .inr (.inr (.inr (.inr (f_X9_shift yb yt lc lr qc).2))))), (aH, .inr (1, [.int vT, .long vG, .int vM, .int (bi vO), .int vN, .int (bi vD), .int vA])), (aR, .inr (4, [.ref aRd, .ref aRo, .int rc, .int rl, .int rm])), (aRd, .inl (cI, 12, .inl rd)), (aRo, .inl (cI, 12, .inl ro)), (aP, .inr (3, [.ref aPc, .int pl]))]) hW [7, 8, 0, 1, 9, 10, 2, 3, 4, 5, 6] rfl (by decide)
                              exact W.zret (v := 1) hx hb hrt rfl (fun t ht hM => ⟨⟨1, (k1, k2, k5, lc, (f_X9_shift yb yt lc lr qc).2, qi, qt, qc, qp), rfl, ⟨rfl, jj_B (B := B) (by rw [ho]; exact hJ) (by omega)⟩, ⟨by rw [ht]; exact hW.1, hW.2.1⟩⟩, hW.2.2.F ht⟩) hW.2.2.2.2 dL_isBox_717 hlocks
                            · exact absurd c14 (by decide)
                        · exact absurd c12 (by decide)
                      · exact absurd c11 (by decide)
                    · exact absurd c10 (by decide)
                  · skip
                    refine lv_aload_n hx hb dL_isBox_474 rfl (lv_at hl 8 rfl) ?_
                    refine lv_iload hx hb dL_isBox_475 (lv_at hl 3 rfl) ?_
                    refine vp_callSi (va_Run.run (xrunV (As := [.int yb]) (rest := []) ⟨hx, hb, hml, hown, hts⟩ (c_X9_weigh l D cI cJ cZ cB H.size aX aV aL aLr aR yb aVk aK aJ aP aQ aS aH tm k1 k2 k3 k4 k5 lc lr aRd aRo rc rl rm L qi qt qc qp (by assumption) (by assumption) _ rfl) (cwV 1 hts gL_isBox_X9_weigh rfl rfl rfl (by decide +kernel) ⟨Nat.le_of_ble_eq_true rfl, Nat.le_of_ble_eq_true rfl⟩) hK hG hW.2.2 (xsubP hW hA [0, 1, 4, 5, 7] rfl (by decide)) (va_recv hK hW.1 (ci := 9) (q0 := 0) rfl rfl) rfl hl.1 rfl (Nat.le_of_ble_eq_true rfl) dL_isBox_477 ⟨Nat.le_of_ble_eq_true rfl, Nat.le_of_ble_eq_true rfl⟩)) (fun r56 hq => ?_)
                    rw [hq]
                    refine lv_iload hx hb dL_isBox_480 (lv_at hl 2 rfl) ?_
                    refine lv_if_ne (tgt := 489) hx hb dL_isBox_482 (by decide) (fun c10 => ?_) (fun c10 => ?_)
                    · exact absurd c10 (by decide)
                    · skip
                      refine lv_iconst (v := -1) hx hb dL_isBox_485 (by decide) ?_
                      refine lv_goto (tgt := 509) hx hb dL_isBox_486 (by decide) ?_
                      refine lv_icmp_ne (tgt := 577) hx hb dL_isBox_509 (by decide) (fun c11 => ?_) (fun c11 => ?_)
                      · exact absurd ((wg_none (qp := qp) hc c3).1) c11
                      · skip
                        refine lv_aload_n hx hb dL_isBox_512 rfl (lv_at hl 8 rfl) ?_
                        refine lv_iload hx hb dL_isBox_513 (lv_at hl 3 rfl) ?_
                        refine xPi (wr := [(aS, .inr (6, [.ref aSv])), (aSv, .inl (cI, 11, .inl sf)), (aH, .inr (1, [.int vT, .long vG, .int vM, .int (bi vO), .int vN, .int (bi vD), .int vA])), (aRd, .inl (cI, 12, .inl rd)), (aRo, .inl (cI, 12, .inl ro)), (aP, .inr (3, [.ref aPc, .int pl]))]) hW hA [0, 1, 4, 5, 7] [2, 3, 6, 8, 9, 10] rfl rfl (by decide) (by decide) (by decide) (xrunV (As := [.int yb]) (rest := []) ⟨hx, hb, hml, hown, hts⟩ (c_X9_check l D cI cJ cZ cB H.size aX aV aL aLr aR yb aVk aK aJ aP aQ aS aH tm k1 k2 k3 k4 k5 lc lr aRd aRo rc rl rm L qi qt qc qp (by assumption) (by assumption) _ rfl) (cwV 1 hts gL_isBox_X9_check rfl rfl rfl (by decide +kernel) ⟨Nat.le_of_ble_eq_true rfl, Nat.le_of_ble_eq_true rfl⟩) hK hG hW.2.2 (xsubP hW hA [0, 1, 4, 5, 7] rfl (by decide)) (va_recv hK hW.1 (ci := 9) (q0 := 0) rfl rfl) rfl hl.1 rfl (Nat.le_of_ble_eq_true rfl) dL_isBox_515 ⟨Nat.le_of_ble_eq_true rfl, Nat.le_of_ble_eq_true rfl⟩) (fun r57 _ H locs hq hW => ?_)
                        rw [hq]
                        have hW : xW D A s.heap ([(aS, .inr (6, [.ref aSv])), (aSv, .inl (cI, 11, .inl sf)), (aH, .inr (1, [.int vT, .long vG, .int vM, .int (bi vO), .int vN, .int (bi vD), .int vA])), (aRd, .inl (cI, 12, .inl rd)), (aRo, .inl (cI, 12, .inl ro)), (aP, .inr (3, [.ref aPc, .int pl])), (aX, .inr (9, [.ref aV, .ref aVk, .ref aK, .ref aJ, .ref aP, .ref aQ])), (aV, .inr (8, [.ref aS, .ref aL, .ref aH, .ref aR, .int tm, .long k1, .long k2, .long k3, .long k4, .long k5])), (aL, .inr (2, [.ref aLr, .int lc])), (aLr, .inl (cB, 10, .inr (.inr (.inr (.inr lr))))), (aR, .inr (4, [.ref aRd, .ref aRo, .int rc, .int rl, .int rm]))] ++ bxP L qi qt qc (f_X9_check yb lc lr rm qc qp).2) H _ := hW
                        refine lv_iload hx hb dL_isBox_518 (lv_at hl 2 rfl) ?_
                        refine lv_if_ne (tgt := 528) hx hb dL_isBox_520 (by decide) (fun c12 => ?_) (fun c12 => ?_)
                        · exact absurd c12 (by decide)
                        · skip
                          refine lv_ldc hx hb hown w1 dL_isBox_523 ?_
                          refine lv_goto (tgt := 543) hx hb dL_isBox_525 (by decide) ?_
                          refine lv_icmp_ne (tgt := 577) hx hb dL_isBox_543 (by decide) (fun c13 => ?_) (fun c13 => ?_)
                          · exact absurd (congrArg Prod.fst (wg_none (qt := qt) hc c3).2) c13
                          · skip
                            refine lv_iload hx hb dL_isBox_546 (lv_at hl 2 rfl) ?_
                            refine lv_if_eq (tgt := 573) hx hb dL_isBox_548 (by decide) (fun c14 => ?_) (fun c14 => ?_)
                            · skip
                              refine lv_iconst (v := 1) hx hb dL_isBox_573 (by decide) ?_
                              refine lv_goto (tgt := 578) hx hb dL_isBox_574 (by decide) ?_
                              have hW := xW_perm (X' := [(aX, .inr (9, [.ref aV, .ref aVk, .ref aK, .ref aJ, .ref aP, .ref aQ])), (aV, .inr (8, [.ref aS, .ref aL, .ref aH, .ref aR, .int tm, .long k1, .long k2, .long k3, .long k4, .long k5])), (aS, .inr (6, [.ref aSv])), (aSv, .inl (cI, 11, .inl sf)), (aL, .inr (2, [.ref aLr, .int lc])), (aLr, .inl (cB, 10, .inr (.inr (.inr (.inr lr))))), (aH, .inr (1, [.int vT, .long vG, .int vM, .int (bi vO), .int vN, .int (bi vD), .int vA])), (aR, .inr (4, [.ref aRd, .ref aRo, .int rc, .int rl, .int rm])), (aRd, .inl (cI, 12, .inl rd)), (aRo, .inl (cI, 12, .inl ro)), (aP, .inr (3, [.ref aPc, .int pl]))]) hW [6, 7, 0, 1, 8, 9, 2, 10, 3, 4, 5] rfl (by decide)
                              exact W.zret (v := 1) hx hb hrt rfl (fun t ht hM => ⟨⟨1, (k1, k2, k5, lc, lr, qi, qt, qc, (f_X9_check yb lc lr rm qc qp).2), rfl, ⟨rfl, jj_B (B := B) (by rw [(wg_none (qt := qt) hc c3).2]; exact hJ) (by omega)⟩, ⟨by rw [ht]; exact hW.1, hW.2.1⟩⟩, hW.2.2.F ht⟩) hW.2.2.2.2 dL_isBox_578 hlocks
                            · exact absurd c14 (by decide)
                · skip
                  refine lv_iconst (v := 1) hx hb dL_isBox_378 (by decide) ?_
                  refine lv_aload_n hx hb dL_isBox_379 rfl (lv_at hl 9 rfl) ?_
                  refine lv_iload_n hx hb dL_isBox_380 rfl (lv_at hl 10 rfl) ?_
                  refine lv_iconst (v := 2) hx hb dL_isBox_381 (by decide) ?_
                  refine lv_iadd hx hb dL_isBox_382 ?_
                  refine lv_ldc hx hb hown w2 dL_isBox_383 ?_
                  refine xcell (k := a0 + 2) (n := 300000) (rest := [.int 1]) ⟨hx, hb, hml, hown, hts⟩ (cwS 3 hts gL_isBox_L_cell rfl rfl rfl (by decide +kernel) ⟨Nat.le_of_ble_eq_true rfl, Nat.le_of_ble_eq_true rfl⟩) hX hbl hbA hLn hW.2.2 (ck_2 hat) (by decide) hl.1 (Nat.le_of_ble_eq_true rfl) dL_isBox_385 ⟨Nat.le_of_ble_eq_true rfl, Nat.le_of_ble_eq_true rfl⟩ ?_
                  obtain ⟨yl, eyl⟩ : ∃ z9, cellf Ln xs (a0 + 2) (300000 : Int32) = z9 := ⟨_, rfl⟩
                  rw [eyl]
                  have hyl : 0 ≤ yl.toInt ∧ yl.toInt < 300000 := cell_b (N := 300000) (ck_2 hat) (by decide) (by decide) eyl
                  refine lv_iadd hx hb dL_isBox_388 ?_
                  refine lv_istore (lv' := [(11, .int (1 + yl)), (10, .int 0), (9, .int 0), (8, .int 0), (7, .int yb), (6, .int yw), (5, .int u38_s0), (4, .int 1), (3, .int lc), (0, .ref aX), (1, .ref b), (2, .int a0)]) hx hb dL_isBox_389 hl (by decide) rfl (fun ls hl => ?_)
                  refine lv_iload hx hb dL_isBox_391 (lv_at hl 3 rfl) ?_
                  refine lv_if_eq (tgt := 407) hx hb dL_isBox_393 (by decide) (fun c9 => ?_) (fun c9 => ?_)
                  · skip
                    refine lv_iconst (v := 0) hx hb dL_isBox_407 (by decide) ?_
                    refine lv_istore (lv' := [(12, .int 0), (11, .int (1 + yl)), (10, .int 0), (9, .int 0), (8, .int 0), (7, .int yb), (6, .int yw), (5, .int u38_s0), (4, .int 1), (3, .int lc), (0, .ref aX), (1, .ref b), (2, .int a0)]) hx hb dL_isBox_408 hl (by decide) rfl (fun ls hl => ?_)
                    refine lv_aload_n hx hb dL_isBox_410 rfl (lv_at hl 10 rfl) ?_
                    refine lv_iload hx hb dL_isBox_411 (lv_at hl 5 rfl) ?_
                    refine lv_iload hx hb dL_isBox_413 (lv_at hl 1 rfl) ?_
                    obtain ⟨o58_, eo58_⟩ : ∃ z9, f_X9_spill yb (1 + yl) k5 lc lr qc = z9 := ⟨_, rfl⟩
                    refine xPi (wr := [(aS, .inr (6, [.ref aSv])), (aSv, .inl (cI, 11, .inl sf)), (aH, .inr (1, [.int vT, .long vG, .int vM, .int (bi vO), .int vN, .int (bi vD), .int vA])), (aR, .inr (4, [.ref aRd, .ref aRo, .int rc, .int rl, .int rm])), (aRd, .inl (cI, 12, .inl rd)), (aRo, .inl (cI, 12, .inl ro)), (aP, .inr (3, [.ref aPc, .int pl]))]) hW hA [0, 1, 4, 5] [2, 3, 6, 7, 8, 9, 10] rfl rfl (by decide) (by decide) (by decide) (xrunV (As := [.int yb, .int (1 + yl)]) (rest := []) ⟨hx, hb, hml, hown, hts⟩ (c_X9_spill l D cI cJ cZ cB H.size aX aV aL aLr yb (1 + yl) aVk aK aJ aP aQ aS aH aR tm k1 k2 k3 k4 k5 lc lr L qi qt qc qp (by assumption) (by assumption) o58_ eo58_) (cwV 2 hts gL_isBox_X9_spill rfl rfl rfl (by decide +kernel) ⟨Nat.le_of_ble_eq_true rfl, Nat.le_of_ble_eq_true rfl⟩) hK hG hW.2.2 (xsubP hW hA [0, 1, 4, 5] rfl (by decide)) (va_recv hK hW.1 (ci := 9) (q0 := 0) rfl rfl) rfl hl.1 rfl (Nat.le_of_ble_eq_true rfl) dL_isBox_415 ⟨Nat.le_of_ble_eq_true rfl, Nat.le_of_ble_eq_true rfl⟩) (fun r59 _ H locs hq hW => ?_)
                    rw [hq]
                    have hW : xW D A s.heap ([(aS, .inr (6, [.ref aSv])), (aSv, .inl (cI, 11, .inl sf)), (aH, .inr (1, [.int vT, .long vG, .int vM, .int (bi vO), .int vN, .int (bi vD), .int vA])), (aR, .inr (4, [.ref aRd, .ref aRo, .int rc, .int rl, .int rm])), (aRd, .inl (cI, 12, .inl rd)), (aRo, .inl (cI, 12, .inl ro)), (aP, .inr (3, [.ref aPc, .int pl])), (aX, .inr (9, [.ref aV, .ref aVk, .ref aK, .ref aJ, .ref aP, .ref aQ])), (aV, .inr (8, [.ref aS, .ref aL, .ref aH, .ref aR, .int tm, .long k1, .long k2, .long k3, .long k4, .long o58_.2.1])), (aL, .inr (2, [.ref aLr, .int lc])), (aLr, .inl (cB, 10, .inr (.inr (.inr (.inr lr)))))] ++ bxP L qi qt o58_.2.2 qp) H _ := hW
                    have ho := sp_none eo58_ hc c3
                    refine lv_iload hx hb dL_isBox_418 (lv_at hl 4 rfl) ?_
                    refine lv_if_ne (tgt := 427) hx hb dL_isBox_420 (by decide) (fun c10 => ?_) (fun c10 => ?_)
                    · exact absurd c10 (by decide)
                    · skip
                      refine lv_iconst (v := -1) hx hb dL_isBox_423 (by decide) ?_
                      refine lv_goto (tgt := 442) hx hb dL_isBox_424 (by decide) ?_
                      refine lv_icmp_ne (tgt := 466) hx hb dL_isBox_442 (by decide) (fun c11 => ?_) (fun c11 => ?_)
                      · exact absurd (by subst ho; rfl) c11
                      · skip
                        refine lv_iload hx hb dL_isBox_445 (lv_at hl 4 rfl) ?_
                        refine lv_if_eq (tgt := 462) hx hb dL_isBox_447 (by decide) (fun c12 => ?_) (fun c12 => ?_)
                        · skip
                          refine lv_iconst (v := 1) hx hb dL_isBox_462 (by decide) ?_
                          refine lv_goto (tgt := 467) hx hb dL_isBox_463 (by decide) ?_
                          have hW := xW_perm (X' := [(aX, .inr (9, [.ref aV, .ref aVk, .ref aK, .ref aJ, .ref aP, .ref aQ])), (aV, .inr (8, [.ref aS, .ref aL, .ref aH, .ref aR, .int tm, .long k1, .long k2, .long k3, .long k4, .long o58_.2.1])), (aS, .inr (6, [.ref aSv])), (aSv, .inl (cI, 11, .inl sf)), (aL, .inr (2, [.ref aLr, .int lc])), (aLr, .inl (cB, 10, .inr (.inr (.inr (.inr lr))))), (aH, .inr (1, [.int vT, .long vG, .int vM, .int (bi vO), .int vN, .int (bi vD), .int vA])), (aR, .inr (4, [.ref aRd, .ref aRo, .int rc, .int rl, .int rm])), (aRd, .inl (cI, 12, .inl rd)), (aRo, .inl (cI, 12, .inl ro)), (aP, .inr (3, [.ref aPc, .int pl]))]) hW [7, 8, 0, 1, 9, 10, 2, 3, 4, 5, 6] rfl (by decide)
                          exact W.zret (v := 1) hx hb hrt rfl (fun t ht hM => ⟨⟨1, (k1, k2, o58_.2.1, lc, lr, qi, qt, o58_.2.2, qp), rfl, ⟨rfl, jj_B (B := B) (by subst ho; exact hJ) (by omega)⟩, ⟨by rw [ht]; exact hW.1, hW.2.1⟩⟩, hW.2.2.F ht⟩) hW.2.2.2.2 dL_isBox_467 hlocks
                        · exact absurd c12 (by decide)
                  · exact absurd c9 (by decide)
              · skip
                refine lv_aload_n hx hb dL_isBox_267 rfl (lv_at hl 8 rfl) ?_
                refine lv_iconst (v := 2) hx hb dL_isBox_268 (by decide) ?_
                refine vp_callSl (va_Run.run (xrunV (As := [.int 2]) (rest := []) ⟨hx, hb, hml, hown, hts⟩ (c_X9_account l D cI cJ cZ cB H.size aX aV aL aLr 2 aVk aK aJ aP aQ aS aH aR tm k1 k2 k3 k4 k5 lc lr L qi qt qc qp (by assumption) (by assumption) _ rfl) (cwV 1 hts gL_isBox_X9_account rfl rfl rfl (by decide +kernel) ⟨Nat.le_of_ble_eq_true rfl, Nat.le_of_ble_eq_true rfl⟩) hK hG hW.2.2 (xsubP hW hA [0, 1, 4, 5] rfl (by decide)) (va_recv hK hW.1 (ci := 9) (q0 := 0) rfl rfl) rfl hl.1 rfl (Nat.le_of_ble_eq_true rfl) dL_isBox_269 ⟨Nat.le_of_ble_eq_true rfl, Nat.le_of_ble_eq_true rfl⟩)) (fun r60 hq => ?_)
                rw [hq, acc_2]
                refine lv_lstore (lv' := [(11, .long k2), (10, .int 0), (9, .int 0), (8, .int 0), (7, .int yb), (6, .int yw), (5, .int u38_s0), (4, .int 1), (3, .int lc), (0, .ref aX), (1, .ref b), (2, .int a0)]) hx hb dL_isBox_272 hl (by decide) rfl (fun ls hl => ?_)
                refine lv_iload hx hb dL_isBox_274 (lv_at hl 3 rfl) ?_
                refine lv_if_eq (tgt := 288) hx hb dL_isBox_276 (by decide) (fun c8 => ?_) (fun c8 => ?_)
                · skip
                  refine lv_iconst (v := 0) hx hb dL_isBox_288 (by decide) ?_
                  refine lv_istore (lv' := [(13, .int 0), (11, .long k2), (10, .int 0), (9, .int 0), (8, .int 0), (7, .int yb), (6, .int yw), (5, .int u38_s0), (4, .int 1), (3, .int lc), (0, .ref aX), (1, .ref b), (2, .int a0)]) hx hb dL_isBox_289 hl (by decide) rfl (fun ls hl => ?_)
                  refine lv_aload_n hx hb dL_isBox_291 rfl (lv_at hl 10 rfl) ?_
                  refine lv_iload hx hb dL_isBox_292 (lv_at hl 5 rfl) ?_
                  obtain ⟨o61_, eo61_⟩ : ∃ z9, f_X9_unload yb k2 lc lr vD qc = z9 := ⟨_, rfl⟩
                  refine xPi (wr := [(aS, .inr (6, [.ref aSv])), (aSv, .inl (cI, 11, .inl sf)), (aR, .inr (4, [.ref aRd, .ref aRo, .int rc, .int rl, .int rm])), (aRd, .inl (cI, 12, .inl rd)), (aRo, .inl (cI, 12, .inl ro)), (aP, .inr (3, [.ref aPc, .int pl]))]) hW hA [0, 1, 4, 5, 6] [2, 3, 7, 8, 9, 10] rfl rfl (by decide) (by decide) (by decide) (xrunV (As := [.int yb]) (rest := []) ⟨hx, hb, hml, hown, hts⟩ (c_X9_unload l D cI cJ cZ cB H.size aX aV aL aLr aH yb aVk aK aJ aP aQ aS aR tm k1 k2 k3 k4 k5 lc lr vT vG vM vO vN vD vA L qi qt qc qp (by assumption) (by assumption) o61_ eo61_) (cwV 1 hts gL_isBox_X9_unload rfl rfl rfl (by decide +kernel) ⟨Nat.le_of_ble_eq_true rfl, Nat.le_of_ble_eq_true rfl⟩) hK hG hW.2.2 (xsubP hW hA [0, 1, 4, 5, 6] rfl (by decide)) (va_recv hK hW.1 (ci := 9) (q0 := 0) rfl rfl) rfl hl.1 rfl (Nat.le_of_ble_eq_true rfl) dL_isBox_294 ⟨Nat.le_of_ble_eq_true rfl, Nat.le_of_ble_eq_true rfl⟩) (fun r62 _ H locs hq hW => ?_)
                  rw [hq]
                  have hW : xW D A s.heap ([(aS, .inr (6, [.ref aSv])), (aSv, .inl (cI, 11, .inl sf)), (aR, .inr (4, [.ref aRd, .ref aRo, .int rc, .int rl, .int rm])), (aRd, .inl (cI, 12, .inl rd)), (aRo, .inl (cI, 12, .inl ro)), (aP, .inr (3, [.ref aPc, .int pl])), (aX, .inr (9, [.ref aV, .ref aVk, .ref aK, .ref aJ, .ref aP, .ref aQ])), (aV, .inr (8, [.ref aS, .ref aL, .ref aH, .ref aR, .int tm, .long k1, .long o61_.2.1, .long k3, .long k4, .long k5])), (aL, .inr (2, [.ref aLr, .int o61_.2.2.1])), (aLr, .inl (cB, 10, .inr (.inr (.inr (.inr o61_.2.2.2))))), (aH, .inr (1, [.int vT, .long vG, .int vM, .int (bi vO), .int vN, .int (bi vD), .int vA]))] ++ bxP L qi qt qc qp) H _ := hW
                  have ho := un_none eo61_ hc c3
                  have hc2 : okC o61_.2.2.1 10 := by rw [ho]; exact hc
                  have hr2 : okR L o61_.2.2.2 := by rw [ho]; exact hr
                  refine lv_iload hx hb dL_isBox_297 (lv_at hl 4 rfl) ?_
                  refine lv_if_ne (tgt := 306) hx hb dL_isBox_299 (by decide) (fun c9 => ?_) (fun c9 => ?_)
                  · exact absurd c9 (by decide)
                  · skip
                    refine lv_iconst (v := -1) hx hb dL_isBox_302 (by decide) ?_
                    refine lv_goto (tgt := 318) hx hb dL_isBox_303 (by decide) ?_
                    refine lv_icmp_ne (tgt := 370) hx hb dL_isBox_318 (by decide) (fun c10 => ?_) (fun c10 => ?_)
                    · exact absurd (by subst ho; rfl) c10
                    · skip
                      refine lv_aload_n hx hb dL_isBox_321 rfl (lv_at hl 10 rfl) ?_
                      refine lv_bipush (v := 12) hx hb dL_isBox_322 (by decide) ?_
                      refine vp_callSi (va_Run.run (xrunV (As := [.int 12]) (rest := []) ⟨hx, hb, hml, hown, hts⟩ (c_X9_van l D cI cJ cZ cB H.size aX aV aS aSv aL aH aR aRo aP 12 aVk aK aJ aQ tm k1 o61_.2.1 k3 k4 k5 sf aLr o61_.2.2.1 vT vG vM vO vN vD vA aRd rc rl rm ro aPc pl (by assumption) _ rfl) (cwV 1 hts gL_isBox_X9_van rfl rfl rfl (by decide +kernel) ⟨Nat.le_of_ble_eq_true rfl, Nat.le_of_ble_eq_true rfl⟩) hK hG hW.2.2 (xsubQ hW hA [6, 7, 0, 1, 8, 10, 2, 4, 5] rfl (by decide)) (va_recv hK hW.1 (ci := 9) (q0 := 6) rfl rfl) rfl hl.1 rfl (Nat.le_of_ble_eq_true rfl) dL_isBox_324 ⟨Nat.le_of_ble_eq_true rfl, Nat.le_of_ble_eq_true rfl⟩)) (fun r63 hq => ?_)
                      rw [hq, van_12]
                      refine lv_iload hx hb dL_isBox_327 (lv_at hl 0 rfl) ?_
                      refine lv_if_eq (tgt := 338) hx hb dL_isBox_329 (by decide) (fun c11 => ?_) (fun c11 => ?_)
                      · skip
                        refine lv_iload_n hx hb dL_isBox_338 rfl (lv_at hl 9 rfl) ?_
                        refine lv_icmp_ne (tgt := 370) hx hb dL_isBox_339 (by decide) (fun c12 => ?_) (fun c12 => ?_)
                        · exact absurd (by subst ho; rfl) c12
                        · skip
                          refine lv_aload_n hx hb dL_isBox_342 rfl (lv_at hl 10 rfl) ?_
                          refine lv_iconst (v := 2) hx hb dL_isBox_343 (by decide) ?_
                          refine vp_callSl (va_Run.run (xrunV (As := [.int 2]) (rest := []) ⟨hx, hb, hml, hown, hts⟩ (c_X9_account l D cI cJ cZ cB H.size aX aV aL aLr 2 aVk aK aJ aP aQ aS aH aR tm k1 o61_.2.1 k3 k4 k5 o61_.2.2.1 o61_.2.2.2 L qi qt qc qp (by assumption) (by assumption) _ rfl) (cwV 1 hts gL_isBox_X9_account rfl rfl rfl (by decide +kernel) ⟨Nat.le_of_ble_eq_true rfl, Nat.le_of_ble_eq_true rfl⟩) hK hG hW.2.2 (xsubP hW hA [6, 7, 8, 9] rfl (by decide)) (va_recv hK hW.1 (ci := 9) (q0 := 6) rfl rfl) rfl hl.1 rfl (Nat.le_of_ble_eq_true rfl) dL_isBox_344 ⟨Nat.le_of_ble_eq_true rfl, Nat.le_of_ble_eq_true rfl⟩)) (fun r64 hq => ?_)
                          rw [hq, acc_2]
                          refine lv_lload hx hb dL_isBox_347 (lv_at hl 1 rfl) ?_
                          refine lv_iload hx hb dL_isBox_349 (lv_at hl 0 rfl) ?_
                          refine lv_if_eq (tgt := 359) hx hb dL_isBox_351 (by decide) (fun c13 => ?_) (fun c13 => ?_)
                          · skip
                            refine lv_iconst (v := 0) hx hb dL_isBox_359 (by decide) ?_
                            refine lv_i2l hx hb dL_isBox_360 rfl ?_
                            refine lv_ladd hx hb dL_isBox_361 ?_
                            refine xlc_ne (tgt := 370) hx hb dL_isBox_362 dL_isBox_363 (by decide) (fun c14 => ?_) (fun c14 => ?_)
                            · exact absurd (by subst ho; exact k_0) c14
                            · skip
                              refine lv_iconst (v := 1) hx hb dL_isBox_366 (by decide) ?_
                              refine lv_goto (tgt := 371) hx hb dL_isBox_367 (by decide) ?_
                              have hW := xW_perm (X' := [(aX, .inr (9, [.ref aV, .ref aVk, .ref aK, .ref aJ, .ref aP, .ref aQ])), (aV, .inr (8, [.ref aS, .ref aL, .ref aH, .ref aR, .int tm, .long k1, .long o61_.2.1, .long k3, .long k4, .long k5])), (aS, .inr (6, [.ref aSv])), (aSv, .inl (cI, 11, .inl sf)), (aL, .inr (2, [.ref aLr, .int o61_.2.2.1])), (aLr, .inl (cB, 10, .inr (.inr (.inr (.inr o61_.2.2.2))))), (aH, .inr (1, [.int vT, .long vG, .int vM, .int (bi vO), .int vN, .int (bi vD), .int vA])), (aR, .inr (4, [.ref aRd, .ref aRo, .int rc, .int rl, .int rm])), (aRd, .inl (cI, 12, .inl rd)), (aRo, .inl (cI, 12, .inl ro)), (aP, .inr (3, [.ref aPc, .int pl]))]) hW [6, 7, 0, 1, 8, 9, 10, 2, 3, 4, 5] rfl (by decide)
                              exact W.zret (v := 1) hx hb hrt rfl (fun t ht hM => ⟨⟨1, (k1, o61_.2.1, k5, o61_.2.2.1, o61_.2.2.2, qi, qt, qc, qp), rfl, ⟨rfl, jj_B (B := B) (by subst ho; exact hJ) (by omega)⟩, ⟨by rw [ht]; exact hW.1, hW.2.1⟩⟩, hW.2.2.F ht⟩) hW.2.2.2.2 dL_isBox_371 hlocks
                          · exact absurd c13 (by decide)
                      · exact absurd c11 (by decide)
                · exact absurd c8 (by decide)
            · skip
              refine lv_aload_n hx hb dL_isBox_113 rfl (lv_at hl 9 rfl) ?_
              refine lv_iload_n hx hb dL_isBox_114 rfl (lv_at hl 10 rfl) ?_
              refine lv_iconst (v := 2) hx hb dL_isBox_115 (by decide) ?_
              refine lv_iadd hx hb dL_isBox_116 ?_
              refine lv_ldc hx hb hown w3 dL_isBox_117 ?_
              refine xcell (k := a0 + 2) (n := 2000000) (rest := []) ⟨hx, hb, hml, hown, hts⟩ (cwS 3 hts gL_isBox_L_cell rfl rfl rfl (by decide +kernel) ⟨Nat.le_of_ble_eq_true rfl, Nat.le_of_ble_eq_true rfl⟩) hX hbl hbA hLn hW.2.2 (ck_2 hat) (by decide) hl.1 (Nat.le_of_ble_eq_true rfl) dL_isBox_119 ⟨Nat.le_of_ble_eq_true rfl, Nat.le_of_ble_eq_true rfl⟩ ?_
              obtain ⟨yp, eyp⟩ : ∃ z9, cellf Ln xs (a0 + 2) (2000000 : Int32) = z9 := ⟨_, rfl⟩
              rw [eyp]
              have hyp : 0 ≤ yp.toInt ∧ yp.toInt < 2000000 := cell_b (N := 2000000) (ck_2 hat) (by decide) (by decide) eyp
              refine lv_istore (lv' := [(11, .int yp), (10, .int 0), (9, .int 0), (8, .int 0), (7, .int yb), (6, .int yw), (5, .int u38_s0), (4, .int 1), (3, .int lc), (0, .ref aX), (1, .ref b), (2, .int a0)]) hx hb dL_isBox_122 hl (by decide) rfl (fun ls hl => ?_)
              refine lv_aload_n hx hb dL_isBox_124 rfl (lv_at hl 9 rfl) ?_
              refine lv_iconst (v := 1) hx hb dL_isBox_125 (by decide) ?_
              refine vp_callSl (va_Run.run (xrunV (As := [.int 1]) (rest := []) ⟨hx, hb, hml, hown, hts⟩ (c_X9_account l D cI cJ cZ cB H.size aX aV aL aLr 1 aVk aK aJ aP aQ aS aH aR tm k1 k2 k3 k4 k5 lc lr L qi qt qc qp (by assumption) (by assumption) _ rfl) (cwV 1 hts gL_isBox_X9_account rfl rfl rfl (by decide +kernel) ⟨Nat.le_of_ble_eq_true rfl, Nat.le_of_ble_eq_true rfl⟩) hK hG hW.2.2 (xsubP hW hA [0, 1, 4, 5] rfl (by decide)) (va_recv hK hW.1 (ci := 9) (q0 := 0) rfl rfl) rfl hl.1 rfl (Nat.le_of_ble_eq_true rfl) dL_isBox_126 ⟨Nat.le_of_ble_eq_true rfl, Nat.le_of_ble_eq_true rfl⟩)) (fun r65 hq => ?_)
              rw [hq, acc_1]
              refine lv_lstore (lv' := [(12, .long k1), (11, .int yp), (10, .int 0), (9, .int 0), (8, .int 0), (7, .int yb), (6, .int yw), (5, .int u38_s0), (4, .int 1), (3, .int lc), (0, .ref aX), (1, .ref b), (2, .int a0)]) hx hb dL_isBox_129 hl (by decide) rfl (fun ls hl => ?_)
              refine lv_iload_n hx hb dL_isBox_131 rfl (lv_at hl 9 rfl) ?_
              refine lv_bipush (v := 10) hx hb dL_isBox_132 (by decide) ?_
              refine lv_icmp_ge (tgt := 146) hx hb dL_isBox_134 (by decide) (fun c7 => ?_) (fun c7 => ?_)
              · skip
                refine lv_iconst (v := 0) hx hb dL_isBox_146 (by decide) ?_
                refine lv_istore (lv' := [(14, .int 0), (12, .long k1), (11, .int yp), (10, .int 0), (9, .int 0), (8, .int 0), (7, .int yb), (6, .int yw), (5, .int u38_s0), (4, .int 1), (3, .int lc), (0, .ref aX), (1, .ref b), (2, .int a0)]) hx hb dL_isBox_147 hl (by decide) rfl (fun ls hl => ?_)
                refine lv_aload_n hx hb dL_isBox_149 rfl (lv_at hl 11 rfl) ?_
                refine lv_iconst (v := 1) hx hb dL_isBox_150 (by decide) ?_
                refine lv_aload_n hx hb dL_isBox_151 rfl (lv_at hl 12 rfl) ?_
                refine lv_iload_n hx hb dL_isBox_152 rfl (lv_at hl 13 rfl) ?_
                refine lv_iconst (v := 3) hx hb dL_isBox_153 (by decide) ?_
                refine lv_iadd hx hb dL_isBox_154 ?_
                refine lv_bipush (v := 20) hx hb dL_isBox_155 (by decide) ?_
                refine xcell (k := a0 + 3) (n := 20) (rest := [.int 1, .ref aX]) ⟨hx, hb, hml, hown, hts⟩ (cwS 3 hts gL_isBox_L_cell rfl rfl rfl (by decide +kernel) ⟨Nat.le_of_ble_eq_true rfl, Nat.le_of_ble_eq_true rfl⟩) hX hbl hbA hLn hW.2.2 (ck_3 hat) (by decide) hl.1 (Nat.le_of_ble_eq_true rfl) dL_isBox_157 ⟨Nat.le_of_ble_eq_true rfl, Nat.le_of_ble_eq_true rfl⟩ ?_
                obtain ⟨yi, eyi⟩ : ∃ z9, cellf Ln xs (a0 + 3) (20 : Int32) = z9 := ⟨_, rfl⟩
                rw [eyi]
                have hyi : 0 ≤ yi.toInt ∧ yi.toInt < 20 := cell_b (N := 20) (ck_3 hat) (by decide) (by decide) eyi
                refine lv_iadd hx hb dL_isBox_160 ?_
                refine lv_bipush (v := 7) hx hb dL_isBox_161 (by decide) ?_
                refine lv_iload hx hb dL_isBox_163 (lv_at hl 2 rfl) ?_
                obtain ⟨o66_, eo66_⟩ : ∃ z9, f_X9_load (1 + yi) 7 yp k1 lc lr vD qi qt qc qp = z9 := ⟨_, rfl⟩
                refine xPi (wr := [(aS, .inr (6, [.ref aSv])), (aSv, .inl (cI, 11, .inl sf)), (aR, .inr (4, [.ref aRd, .ref aRo, .int rc, .int rl, .int rm])), (aRd, .inl (cI, 12, .inl rd)), (aRo, .inl (cI, 12, .inl ro)), (aP, .inr (3, [.ref aPc, .int pl]))]) hW hA [0, 1, 4, 5, 6] [2, 3, 7, 8, 9, 10] rfl rfl (by decide) (by decide) (by decide) (xrunV (As := [.int (1 + yi), .int 7, .int yp]) (rest := []) ⟨hx, hb, hml, hown, hts⟩ (c_X9_load l D cI cJ cZ cB H.size aX aV aL aLr aH (1 + yi) 7 yp aVk aK aJ aP aQ aS aR tm k1 k2 k3 k4 k5 lc lr vT vG vM vO vN vD vA L qi qt qc qp (by assumption) (by assumption) o66_ eo66_) (cwV 3 hts gL_isBox_X9_load rfl rfl rfl (by decide +kernel) ⟨Nat.le_of_ble_eq_true rfl, Nat.le_of_ble_eq_true rfl⟩) hK hG hW.2.2 (xsubP hW hA [0, 1, 4, 5, 6] rfl (by decide)) (va_recv hK hW.1 (ci := 9) (q0 := 0) rfl rfl) rfl hl.1 rfl (Nat.le_of_ble_eq_true rfl) dL_isBox_165 ⟨Nat.le_of_ble_eq_true rfl, Nat.le_of_ble_eq_true rfl⟩) (fun r67 _ H locs hq hW => ?_)
                rw [hq]
                have hW : xW D A s.heap ([(aS, .inr (6, [.ref aSv])), (aSv, .inl (cI, 11, .inl sf)), (aR, .inr (4, [.ref aRd, .ref aRo, .int rc, .int rl, .int rm])), (aRd, .inl (cI, 12, .inl rd)), (aRo, .inl (cI, 12, .inl ro)), (aP, .inr (3, [.ref aPc, .int pl])), (aX, .inr (9, [.ref aV, .ref aVk, .ref aK, .ref aJ, .ref aP, .ref aQ])), (aV, .inr (8, [.ref aS, .ref aL, .ref aH, .ref aR, .int tm, .long o66_.2.1, .long k2, .long k3, .long k4, .long k5])), (aL, .inr (2, [.ref aLr, .int o66_.2.2.1])), (aLr, .inl (cB, 10, .inr (.inr (.inr (.inr lr))))), (aH, .inr (1, [.int vT, .long vG, .int vM, .int (bi vO), .int vN, .int (bi vD), .int vA]))] ++ bxP L o66_.2.2.2.1 o66_.2.2.2.2.1 o66_.2.2.2.2.2.1 o66_.2.2.2.2.2.2) H _ := hW
                have ho := ld_full eo66_ (i_b hyi) (p_b hyp) c7
                have hc2 : okC o66_.2.2.1 10 := by rw [ho]; exact hc
                refine lv_iload_n hx hb dL_isBox_168 rfl (lv_at hl 10 rfl) ?_
                refine lv_bipush (v := 10) hx hb dL_isBox_169 (by decide) ?_
                refine lv_icmp_ne (tgt := 179) hx hb dL_isBox_171 (by decide) (fun c8 => ?_) (fun c8 => ?_)
                · exact absurd (n10_t hc c7) c8
                · skip
                  refine lv_bipush (v := -4) hx hb dL_isBox_174 (by decide) ?_
                  refine lv_goto (tgt := 190) hx hb dL_isBox_176 (by decide) ?_
                  refine lv_icmp_ne (tgt := 259) hx hb dL_isBox_190 (by decide) (fun c9 => ?_) (fun c9 => ?_)
                  · exact absurd (by subst ho; rfl) c9
                  · skip
                    refine lv_aload_n hx hb dL_isBox_193 rfl (lv_at hl 11 rfl) ?_
                    refine lv_iconst (v := 1) hx hb dL_isBox_194 (by decide) ?_
                    refine vp_callSl (va_Run.run (xrunV (As := [.int 1]) (rest := []) ⟨hx, hb, hml, hown, hts⟩ (c_X9_account l D cI cJ cZ cB H.size aX aV aL aLr 1 aVk aK aJ aP aQ aS aH aR tm o66_.2.1 k2 k3 k4 k5 o66_.2.2.1 lr L o66_.2.2.2.1 o66_.2.2.2.2.1 o66_.2.2.2.2.2.1 o66_.2.2.2.2.2.2 (by assumption) (by assumption) _ rfl) (cwV 1 hts gL_isBox_X9_account rfl rfl rfl (by decide +kernel) ⟨Nat.le_of_ble_eq_true rfl, Nat.le_of_ble_eq_true rfl⟩) hK hG hW.2.2 (xsubP hW hA [6, 7, 8, 9] rfl (by decide)) (va_recv hK hW.1 (ci := 9) (q0 := 6) rfl rfl) rfl hl.1 rfl (Nat.le_of_ble_eq_true rfl) dL_isBox_195 ⟨Nat.le_of_ble_eq_true rfl, Nat.le_of_ble_eq_true rfl⟩)) (fun r68 hq => ?_)
                    rw [hq, acc_1]
                    refine lv_lload hx hb dL_isBox_198 (lv_at hl 1 rfl) ?_
                    refine lv_iload hx hb dL_isBox_200 (lv_at hl 0 rfl) ?_
                    refine lv_if_eq (tgt := 210) hx hb dL_isBox_202 (by decide) (fun c10 => ?_) (fun c10 => ?_)
                    · skip
                      refine lv_iconst (v := 0) hx hb dL_isBox_210 (by decide) ?_
                      refine lv_i2l hx hb dL_isBox_211 rfl ?_
                      refine lv_ladd hx hb dL_isBox_212 ?_
                      refine xlc_ne (tgt := 259) hx hb dL_isBox_213 dL_isBox_214 (by decide) (fun c11 => ?_) (fun c11 => ?_)
                      · exact absurd (by subst ho; exact k_0) c11
                      · skip
                        refine lv_iload hx hb dL_isBox_217 (lv_at hl 0 rfl) ?_
                        refine lv_if_eq (tgt := 255) hx hb dL_isBox_219 (by decide) (fun c12 => ?_) (fun c12 => ?_)
                        · skip
                          refine lv_iconst (v := 1) hx hb dL_isBox_255 (by decide) ?_
                          refine lv_goto (tgt := 260) hx hb dL_isBox_256 (by decide) ?_
                          have hW := xW_perm (X' := [(aX, .inr (9, [.ref aV, .ref aVk, .ref aK, .ref aJ, .ref aP, .ref aQ])), (aV, .inr (8, [.ref aS, .ref aL, .ref aH, .ref aR, .int tm, .long o66_.2.1, .long k2, .long k3, .long k4, .long k5])), (aS, .inr (6, [.ref aSv])), (aSv, .inl (cI, 11, .inl sf)), (aL, .inr (2, [.ref aLr, .int o66_.2.2.1])), (aLr, .inl (cB, 10, .inr (.inr (.inr (.inr lr))))), (aH, .inr (1, [.int vT, .long vG, .int vM, .int (bi vO), .int vN, .int (bi vD), .int vA])), (aR, .inr (4, [.ref aRd, .ref aRo, .int rc, .int rl, .int rm])), (aRd, .inl (cI, 12, .inl rd)), (aRo, .inl (cI, 12, .inl ro)), (aP, .inr (3, [.ref aPc, .int pl]))]) hW [6, 7, 0, 1, 8, 9, 10, 2, 3, 4, 5] rfl (by decide)
                          exact W.zret (v := 1) hx hb hrt rfl (fun t ht hM => ⟨⟨1, (o66_.2.1, k2, k5, o66_.2.2.1, lr, o66_.2.2.2.1, o66_.2.2.2.2.1, o66_.2.2.2.2.2.1, o66_.2.2.2.2.2.2), rfl, ⟨rfl, jj_B (B := B) (by subst ho; exact hJ) (by omega)⟩, ⟨by rw [ht]; exact hW.1, hW.2.1⟩⟩, hW.2.2.F ht⟩) hW.2.2.2.2 dL_isBox_260 hlocks
                        · exact absurd c12 (by decide)
                    · exact absurd c10 (by decide)
              · skip
                refine lv_iload hx hb dL_isBox_137 (lv_at hl 8 rfl) ?_
                refine lv_if_eq (tgt := 146) hx hb dL_isBox_139 (by decide) (fun c8 => ?_) (fun c8 => ?_)
                · exact absurd c8 (by decide)
                · skip
                  refine lv_iconst (v := 1) hx hb dL_isBox_142 (by decide) ?_
                  refine lv_goto (tgt := 147) hx hb dL_isBox_143 (by decide) ?_
                  refine lv_istore (lv' := [(14, .int 1), (12, .long k1), (11, .int yp), (10, .int 0), (9, .int 0), (8, .int 0), (7, .int yb), (6, .int yw), (5, .int u38_s0), (4, .int 1), (3, .int lc), (0, .ref aX), (1, .ref b), (2, .int a0)]) hx hb dL_isBox_147 hl (by decide) rfl (fun ls hl => ?_)
                  refine lv_aload_n hx hb dL_isBox_149 rfl (lv_at hl 11 rfl) ?_
                  refine lv_iconst (v := 1) hx hb dL_isBox_150 (by decide) ?_
                  refine lv_aload_n hx hb dL_isBox_151 rfl (lv_at hl 12 rfl) ?_
                  refine lv_iload_n hx hb dL_isBox_152 rfl (lv_at hl 13 rfl) ?_
                  refine lv_iconst (v := 3) hx hb dL_isBox_153 (by decide) ?_
                  refine lv_iadd hx hb dL_isBox_154 ?_
                  refine lv_bipush (v := 20) hx hb dL_isBox_155 (by decide) ?_
                  refine xcell (k := a0 + 3) (n := 20) (rest := [.int 1, .ref aX]) ⟨hx, hb, hml, hown, hts⟩ (cwS 3 hts gL_isBox_L_cell rfl rfl rfl (by decide +kernel) ⟨Nat.le_of_ble_eq_true rfl, Nat.le_of_ble_eq_true rfl⟩) hX hbl hbA hLn hW.2.2 (ck_3 hat) (by decide) hl.1 (Nat.le_of_ble_eq_true rfl) dL_isBox_157 ⟨Nat.le_of_ble_eq_true rfl, Nat.le_of_ble_eq_true rfl⟩ ?_
                  obtain ⟨yi, eyi⟩ : ∃ z9, cellf Ln xs (a0 + 3) (20 : Int32) = z9 := ⟨_, rfl⟩
                  rw [eyi]
                  have hyi : 0 ≤ yi.toInt ∧ yi.toInt < 20 := cell_b (N := 20) (ck_3 hat) (by decide) (by decide) eyi
                  refine lv_iadd hx hb dL_isBox_160 ?_
                  refine lv_bipush (v := 7) hx hb dL_isBox_161 (by decide) ?_
                  refine lv_iload hx hb dL_isBox_163 (lv_at hl 2 rfl) ?_
                  obtain ⟨o69_, eo69_⟩ : ∃ z9, f_X9_load (1 + yi) 7 yp k1 lc lr vD qi qt qc qp = z9 := ⟨_, rfl⟩
                  refine xPi (wr := [(aS, .inr (6, [.ref aSv])), (aSv, .inl (cI, 11, .inl sf)), (aR, .inr (4, [.ref aRd, .ref aRo, .int rc, .int rl, .int rm])), (aRd, .inl (cI, 12, .inl rd)), (aRo, .inl (cI, 12, .inl ro)), (aP, .inr (3, [.ref aPc, .int pl]))]) hW hA [0, 1, 4, 5, 6] [2, 3, 7, 8, 9, 10] rfl rfl (by decide) (by decide) (by decide) (xrunV (As := [.int (1 + yi), .int 7, .int yp]) (rest := []) ⟨hx, hb, hml, hown, hts⟩ (c_X9_load l D cI cJ cZ cB H.size aX aV aL aLr aH (1 + yi) 7 yp aVk aK aJ aP aQ aS aR tm k1 k2 k3 k4 k5 lc lr vT vG vM vO vN vD vA L qi qt qc qp (by assumption) (by assumption) o69_ eo69_) (cwV 3 hts gL_isBox_X9_load rfl rfl rfl (by decide +kernel) ⟨Nat.le_of_ble_eq_true rfl, Nat.le_of_ble_eq_true rfl⟩) hK hG hW.2.2 (xsubP hW hA [0, 1, 4, 5, 6] rfl (by decide)) (va_recv hK hW.1 (ci := 9) (q0 := 0) rfl rfl) rfl hl.1 rfl (Nat.le_of_ble_eq_true rfl) dL_isBox_165 ⟨Nat.le_of_ble_eq_true rfl, Nat.le_of_ble_eq_true rfl⟩) (fun r70 _ H locs hq hW => ?_)
                  rw [hq]
                  have hW : xW D A s.heap ([(aS, .inr (6, [.ref aSv])), (aSv, .inl (cI, 11, .inl sf)), (aR, .inr (4, [.ref aRd, .ref aRo, .int rc, .int rl, .int rm])), (aRd, .inl (cI, 12, .inl rd)), (aRo, .inl (cI, 12, .inl ro)), (aP, .inr (3, [.ref aPc, .int pl])), (aX, .inr (9, [.ref aV, .ref aVk, .ref aK, .ref aJ, .ref aP, .ref aQ])), (aV, .inr (8, [.ref aS, .ref aL, .ref aH, .ref aR, .int tm, .long o69_.2.1, .long k2, .long k3, .long k4, .long k5])), (aL, .inr (2, [.ref aLr, .int o69_.2.2.1])), (aLr, .inl (cB, 10, .inr (.inr (.inr (.inr lr))))), (aH, .inr (1, [.int vT, .long vG, .int vM, .int (bi vO), .int vN, .int (bi vD), .int vA]))] ++ bxP L o69_.2.2.2.1 o69_.2.2.2.2.1 o69_.2.2.2.2.2.1 o69_.2.2.2.2.2.2) H _ := hW
                  have ho := ld_ok hJ hB eo69_ (i_b hyi) (by decide) (p_b hyp) c7 (vD_1 c1)
                  have hc2 := j_c ho.2.2.2.2.2.2.2
                  refine lv_iload_n hx hb dL_isBox_168 rfl (lv_at hl 10 rfl) ?_
                  refine lv_bipush (v := 10) hx hb dL_isBox_169 (by decide) ?_
                  refine lv_icmp_ne (tgt := 179) hx hb dL_isBox_171 (by decide) (fun c9 => ?_) (fun c9 => ?_)
                  · skip
                    refine lv_iload hx hb dL_isBox_179 (lv_at hl 9 rfl) ?_
                    refine lv_if_eq (tgt := 188) hx hb dL_isBox_181 (by decide) (fun c10 => ?_) (fun c10 => ?_)
                    · exact absurd c10 (by decide)
                    · skip
                      refine lv_iload_n hx hb dL_isBox_184 rfl (lv_at hl 10 rfl) ?_
                      refine lv_goto (tgt := 190) hx hb dL_isBox_185 (by decide) ?_
                      refine lv_icmp_ne (tgt := 259) hx hb dL_isBox_190 (by decide) (fun c11 => ?_) (fun c11 => ?_)
                      · exact absurd (ho.1) c11
                      · skip
                        refine lv_aload_n hx hb dL_isBox_193 rfl (lv_at hl 11 rfl) ?_
                        refine lv_iconst (v := 1) hx hb dL_isBox_194 (by decide) ?_
                        refine vp_callSl (va_Run.run (xrunV (As := [.int 1]) (rest := []) ⟨hx, hb, hml, hown, hts⟩ (c_X9_account l D cI cJ cZ cB H.size aX aV aL aLr 1 aVk aK aJ aP aQ aS aH aR tm o69_.2.1 k2 k3 k4 k5 o69_.2.2.1 lr L o69_.2.2.2.1 o69_.2.2.2.2.1 o69_.2.2.2.2.2.1 o69_.2.2.2.2.2.2 (by assumption) (by assumption) _ rfl) (cwV 1 hts gL_isBox_X9_account rfl rfl rfl (by decide +kernel) ⟨Nat.le_of_ble_eq_true rfl, Nat.le_of_ble_eq_true rfl⟩) hK hG hW.2.2 (xsubP hW hA [6, 7, 8, 9] rfl (by decide)) (va_recv hK hW.1 (ci := 9) (q0 := 6) rfl rfl) rfl hl.1 rfl (Nat.le_of_ble_eq_true rfl) dL_isBox_195 ⟨Nat.le_of_ble_eq_true rfl, Nat.le_of_ble_eq_true rfl⟩)) (fun r71 hq => ?_)
                        rw [hq, acc_1]
                        refine lv_lload hx hb dL_isBox_198 (lv_at hl 1 rfl) ?_
                        refine lv_iload hx hb dL_isBox_200 (lv_at hl 0 rfl) ?_
                        refine lv_if_eq (tgt := 210) hx hb dL_isBox_202 (by decide) (fun c12 => ?_) (fun c12 => ?_)
                        · exact absurd c12 (by decide)
                        · skip
                          refine lv_iload hx hb dL_isBox_205 (lv_at hl 2 rfl) ?_
                          refine lv_goto (tgt := 211) hx hb dL_isBox_207 (by decide) ?_
                          refine lv_i2l hx hb dL_isBox_211 rfl ?_
                          refine lv_ladd hx hb dL_isBox_212 ?_
                          refine xlc_ne (tgt := 259) hx hb dL_isBox_213 dL_isBox_214 (by decide) (fun c13 => ?_) (fun c13 => ?_)
                          · exact absurd (ho.2.1) c13
                          · skip
                            refine lv_iload hx hb dL_isBox_217 (lv_at hl 0 rfl) ?_
                            refine lv_if_eq (tgt := 255) hx hb dL_isBox_219 (by decide) (fun c14 => ?_) (fun c14 => ?_)
                            · exact absurd c14 (by decide)
                            · skip
                              refine lv_aload_n hx hb dL_isBox_222 rfl (lv_at hl 11 rfl) ?_
                              refine lv_iload_n hx hb dL_isBox_223 rfl (lv_at hl 10 rfl) ?_
                              refine lv_iconst (v := 2) hx hb dL_isBox_224 (by decide) ?_
                              refine vp_callSi (va_Run.run (xrunV (As := [.int lc, .int 2]) (rest := []) ⟨hx, hb, hml, hown, hts⟩ (c_X9_box l D cI cJ cZ cB H.size aX aV aS aSv aL aLr aH lc 2 aVk aK aJ aP aQ aR tm o69_.2.1 k2 k3 k4 k5 sf o69_.2.2.1 lr vT vG vM vO vN vD vA L o69_.2.2.2.1 o69_.2.2.2.2.1 o69_.2.2.2.2.2.1 o69_.2.2.2.2.2.2 (by assumption) (by assumption) _ rfl) (cwV 2 hts gL_isBox_X9_box rfl rfl rfl (by decide +kernel) ⟨Nat.le_of_ble_eq_true rfl, Nat.le_of_ble_eq_true rfl⟩) hK hG hW.2.2 (xsubP hW hA [6, 7, 0, 1, 8, 9, 10] rfl (by decide)) (va_recv hK hW.1 (ci := 9) (q0 := 6) rfl rfl) rfl hl.1 rfl (Nat.le_of_ble_eq_true rfl) dL_isBox_225 ⟨Nat.le_of_ble_eq_true rfl, Nat.le_of_ble_eq_true rfl⟩)) (fun r72 hq => ?_)
                              rw [hq, bx_2 (ho.2.2.2.1)]
                              refine lv_iload hx hb dL_isBox_228 (lv_at hl 2 rfl) ?_
                              refine lv_icmp_ne (tgt := 259) hx hb dL_isBox_230 (by decide) (fun c15 => ?_) (fun c15 => ?_)
                              · exact absurd (ho.2.2.2.2.1) c15
                              · skip
                                refine lv_aload_n hx hb dL_isBox_233 rfl (lv_at hl 11 rfl) ?_
                                refine lv_iload_n hx hb dL_isBox_234 rfl (lv_at hl 10 rfl) ?_
                                refine lv_iconst (v := 3) hx hb dL_isBox_235 (by decide) ?_
                                refine vp_callSi (va_Run.run (xrunV (As := [.int lc, .int 3]) (rest := []) ⟨hx, hb, hml, hown, hts⟩ (c_X9_box l D cI cJ cZ cB H.size aX aV aS aSv aL aLr aH lc 3 aVk aK aJ aP aQ aR tm o69_.2.1 k2 k3 k4 k5 sf o69_.2.2.1 lr vT vG vM vO vN vD vA L o69_.2.2.2.1 o69_.2.2.2.2.1 o69_.2.2.2.2.2.1 o69_.2.2.2.2.2.2 (by assumption) (by assumption) _ rfl) (cwV 2 hts gL_isBox_X9_box rfl rfl rfl (by decide +kernel) ⟨Nat.le_of_ble_eq_true rfl, Nat.le_of_ble_eq_true rfl⟩) hK hG hW.2.2 (xsubP hW hA [6, 7, 0, 1, 8, 9, 10] rfl (by decide)) (va_recv hK hW.1 (ci := 9) (q0 := 6) rfl rfl) rfl hl.1 rfl (Nat.le_of_ble_eq_true rfl) dL_isBox_236 ⟨Nat.le_of_ble_eq_true rfl, Nat.le_of_ble_eq_true rfl⟩)) (fun r73 hq => ?_)
                                rw [hq, bx_3 (ho.2.2.2.1)]
                                refine lv_iload hx hb dL_isBox_239 (lv_at hl 2 rfl) ?_
                                refine lv_icmp_ne (tgt := 259) hx hb dL_isBox_241 (by decide) (fun c16 => ?_) (fun c16 => ?_)
                                · exact absurd (ho.2.2.2.2.2.1) c16
                                · skip
                                  refine lv_aload_n hx hb dL_isBox_244 rfl (lv_at hl 11 rfl) ?_
                                  refine lv_iload_n hx hb dL_isBox_245 rfl (lv_at hl 10 rfl) ?_
                                  refine lv_iconst (v := 1) hx hb dL_isBox_246 (by decide) ?_
                                  refine vp_callSi (va_Run.run (xrunV (As := [.int lc, .int 1]) (rest := []) ⟨hx, hb, hml, hown, hts⟩ (c_X9_box l D cI cJ cZ cB H.size aX aV aS aSv aL aLr aH lc 1 aVk aK aJ aP aQ aR tm o69_.2.1 k2 k3 k4 k5 sf o69_.2.2.1 lr vT vG vM vO vN vD vA L o69_.2.2.2.1 o69_.2.2.2.2.1 o69_.2.2.2.2.2.1 o69_.2.2.2.2.2.2 (by assumption) (by assumption) _ rfl) (cwV 2 hts gL_isBox_X9_box rfl rfl rfl (by decide +kernel) ⟨Nat.le_of_ble_eq_true rfl, Nat.le_of_ble_eq_true rfl⟩) hK hG hW.2.2 (xsubP hW hA [6, 7, 0, 1, 8, 9, 10] rfl (by decide)) (va_recv hK hW.1 (ci := 9) (q0 := 6) rfl rfl) rfl hl.1 rfl (Nat.le_of_ble_eq_true rfl) dL_isBox_247 ⟨Nat.le_of_ble_eq_true rfl, Nat.le_of_ble_eq_true rfl⟩)) (fun r74 hq => ?_)
                                  rw [hq, bx_1 (ho.2.2.2.1)]
                                  refine lv_bipush (v := 7) hx hb dL_isBox_250 (by decide) ?_
                                  refine lv_icmp_ne (tgt := 259) hx hb dL_isBox_252 (by decide) (fun c17 => ?_) (fun c17 => ?_)
                                  · exact absurd (ho.2.2.2.2.2.2.1) c17
                                  · skip
                                    refine lv_iconst (v := 1) hx hb dL_isBox_255 (by decide) ?_
                                    refine lv_goto (tgt := 260) hx hb dL_isBox_256 (by decide) ?_
                                    have hW := xW_perm (X' := [(aX, .inr (9, [.ref aV, .ref aVk, .ref aK, .ref aJ, .ref aP, .ref aQ])), (aV, .inr (8, [.ref aS, .ref aL, .ref aH, .ref aR, .int tm, .long o69_.2.1, .long k2, .long k3, .long k4, .long k5])), (aS, .inr (6, [.ref aSv])), (aSv, .inl (cI, 11, .inl sf)), (aL, .inr (2, [.ref aLr, .int o69_.2.2.1])), (aLr, .inl (cB, 10, .inr (.inr (.inr (.inr lr))))), (aH, .inr (1, [.int vT, .long vG, .int vM, .int (bi vO), .int vN, .int (bi vD), .int vA])), (aR, .inr (4, [.ref aRd, .ref aRo, .int rc, .int rl, .int rm])), (aRd, .inl (cI, 12, .inl rd)), (aRo, .inl (cI, 12, .inl ro)), (aP, .inr (3, [.ref aPc, .int pl]))]) hW [6, 7, 0, 1, 8, 9, 10, 2, 3, 4, 5] rfl (by decide)
                                    exact W.zret (v := 1) hx hb hrt rfl (fun t ht hM => ⟨⟨1, (o69_.2.1, k2, k5, o69_.2.2.1, lr, o69_.2.2.2.1, o69_.2.2.2.2.1, o69_.2.2.2.2.2.1, o69_.2.2.2.2.2.2), rfl, ⟨rfl, jj_B ho.2.2.2.2.2.2.2 (by omega)⟩, ⟨by rw [ht]; exact hW.1, hW.2.1⟩⟩, hW.2.2.F ht⟩) hW.2.2.2.2 dL_isBox_260 hlocks
                  · exact absurd c9 (n10_f c7)
          · exact absurd c5 (by decide)
        · exact absurd c4 (by decide)
      · skip
        refine lv_iconst (v := 1) hx hb dL_isBox_65 (by decide) ?_
        refine lv_goto (tgt := 70) hx hb dL_isBox_66 (by decide) ?_
        refine lv_istore (lv' := [(8, .int 1), (7, .int yb), (6, .int yw), (5, .int u38_s0), (4, .int 1), (3, .int lc), (0, .ref aX), (1, .ref b), (2, .int a0)]) hx hb dL_isBox_70 hl (by decide) rfl (fun ls hl => ?_)
        refine lv_iload hx hb dL_isBox_72 (lv_at hl 0 rfl) ?_
        refine lv_if_eq (tgt := 87) hx hb dL_isBox_74 (by decide) (fun c4 => ?_) (fun c4 => ?_)
        · exact absurd c4 (by decide)
        · skip
          refine lv_aload_n hx hb dL_isBox_77 rfl (lv_at hl 6 rfl) ?_
          refine lv_iload hx hb dL_isBox_78 (lv_at hl 1 rfl) ?_
          refine lv_iconst (v := 2) hx hb dL_isBox_80 (by decide) ?_
          refine vp_callSi (va_Run.run (xrunV (As := [.int yb, .int 2]) (rest := []) ⟨hx, hb, hml, hown, hts⟩ (c_X9_box l D cI cJ cZ cB H.size aX aV aS aSv aL aLr aH yb 2 aVk aK aJ aP aQ aR tm k1 k2 k3 k4 k5 sf lc lr vT vG vM vO vN vD vA L qi qt qc qp (by assumption) (by assumption) _ rfl) (cwV 2 hts gL_isBox_X9_box rfl rfl rfl (by decide +kernel) ⟨Nat.le_of_ble_eq_true rfl, Nat.le_of_ble_eq_true rfl⟩) hK hG hW.2.2 (xsubP hW hA [0, 1, 2, 3, 4, 5, 6] rfl (by decide)) (va_recv hK hW.1 (ci := 9) (q0 := 0) rfl rfl) rfl hl.1 rfl (Nat.le_of_ble_eq_true rfl) dL_isBox_81 ⟨Nat.le_of_ble_eq_true rfl, Nat.le_of_ble_eq_true rfl⟩)) (fun r75 hq => ?_)
          rw [hq, bx_2 (at_w hc hyb.1 c3)]
          refine lv_goto (tgt := 88) hx hb dL_isBox_84 (by decide) ?_
          refine lv_istore (lv' := [(9, .int (qc (bxa lr yb.toNatClampNeg))), (8, .int 1), (7, .int yb), (6, .int yw), (5, .int u38_s0), (4, .int 1), (3, .int lc), (0, .ref aX), (1, .ref b), (2, .int a0)]) hx hb dL_isBox_88 hl (by decide) rfl (fun ls hl => ?_)
          refine lv_iload hx hb dL_isBox_90 (lv_at hl 1 rfl) ?_
          refine lv_if_eq (tgt := 105) hx hb dL_isBox_92 (by decide) (fun c5 => ?_) (fun c5 => ?_)
          · exact absurd c5 (by decide)
          · skip
            refine lv_aload_n hx hb dL_isBox_95 rfl (lv_at hl 7 rfl) ?_
            refine lv_iload hx hb dL_isBox_96 (lv_at hl 2 rfl) ?_
            refine lv_iconst (v := 3) hx hb dL_isBox_98 (by decide) ?_
            refine vp_callSi (va_Run.run (xrunV (As := [.int yb, .int 3]) (rest := []) ⟨hx, hb, hml, hown, hts⟩ (c_X9_box l D cI cJ cZ cB H.size aX aV aS aSv aL aLr aH yb 3 aVk aK aJ aP aQ aR tm k1 k2 k3 k4 k5 sf lc lr vT vG vM vO vN vD vA L qi qt qc qp (by assumption) (by assumption) _ rfl) (cwV 2 hts gL_isBox_X9_box rfl rfl rfl (by decide +kernel) ⟨Nat.le_of_ble_eq_true rfl, Nat.le_of_ble_eq_true rfl⟩) hK hG hW.2.2 (xsubP hW hA [0, 1, 2, 3, 4, 5, 6] rfl (by decide)) (va_recv hK hW.1 (ci := 9) (q0 := 0) rfl rfl) rfl hl.1 rfl (Nat.le_of_ble_eq_true rfl) dL_isBox_99 ⟨Nat.le_of_ble_eq_true rfl, Nat.le_of_ble_eq_true rfl⟩)) (fun r76 hq => ?_)
            rw [hq, bx_3 (at_w hc hyb.1 c3)]
            refine lv_goto (tgt := 106) hx hb dL_isBox_102 (by decide) ?_
            refine lv_istore (lv' := [(10, .int (qp (bxa lr yb.toNatClampNeg))), (9, .int (qc (bxa lr yb.toNatClampNeg))), (8, .int 1), (7, .int yb), (6, .int yw), (5, .int u38_s0), (4, .int 1), (3, .int lc), (0, .ref aX), (1, .ref b), (2, .int a0)]) hx hb dL_isBox_106 hl (by decide) rfl (fun ls hl => ?_)
            refine lv_iload hx hb dL_isBox_108 (lv_at hl 4 rfl) ?_
            refine lv_if_ne (tgt := 261) hx hb dL_isBox_110 (by decide) (fun c6 => ?_) (fun c6 => ?_)
            · skip
              refine lv_iload hx hb dL_isBox_261 (lv_at hl 4 rfl) ?_
              refine lv_iconst (v := 1) hx hb dL_isBox_263 (by decide) ?_
              refine lv_icmp_ne (tgt := 372) hx hb dL_isBox_264 (by decide) (fun c7 => ?_) (fun c7 => ?_)
              · skip
                refine lv_iload hx hb dL_isBox_372 (lv_at hl 4 rfl) ?_
                refine lv_iconst (v := 2) hx hb dL_isBox_374 (by decide) ?_
                refine lv_icmp_ne (tgt := 468) hx hb dL_isBox_375 (by decide) (fun c8 => ?_) (fun c8 => ?_)
                · skip
                  refine lv_iload hx hb dL_isBox_468 (lv_at hl 4 rfl) ?_
                  refine lv_iconst (v := 3) hx hb dL_isBox_470 (by decide) ?_
                  refine lv_icmp_ne (tgt := 579) hx hb dL_isBox_471 (by decide) (fun c9 => ?_) (fun c9 => ?_)
                  · skip
                    refine lv_aload_n hx hb dL_isBox_579 rfl (lv_at hl 9 rfl) ?_
                    refine lv_iload_n hx hb dL_isBox_580 rfl (lv_at hl 10 rfl) ?_
                    refine lv_iconst (v := 2) hx hb dL_isBox_581 (by decide) ?_
                    refine lv_iadd hx hb dL_isBox_582 ?_
                    refine lv_bipush (v := 10) hx hb dL_isBox_583 (by decide) ?_
                    refine xcell (k := a0 + 2) (n := 10) (rest := []) ⟨hx, hb, hml, hown, hts⟩ (cwS 3 hts gL_isBox_L_cell rfl rfl rfl (by decide +kernel) ⟨Nat.le_of_ble_eq_true rfl, Nat.le_of_ble_eq_true rfl⟩) hX hbl hbA hLn hW.2.2 (ck_2 hat) (by decide) hl.1 (Nat.le_of_ble_eq_true rfl) dL_isBox_585 ⟨Nat.le_of_ble_eq_true rfl, Nat.le_of_ble_eq_true rfl⟩ ?_
                    obtain ⟨yt, eyt⟩ : ∃ z9, cellf Ln xs (a0 + 2) (10 : Int32) = z9 := ⟨_, rfl⟩
                    rw [eyt]
                    have hyt : 0 ≤ yt.toInt ∧ yt.toInt < 10 := cell_b (N := 10) (ck_2 hat) (by decide) (by decide) eyt
                    refine lv_istore (lv' := [(11, .int yt), (10, .int (qp (bxa lr yb.toNatClampNeg))), (9, .int (qc (bxa lr yb.toNatClampNeg))), (8, .int 1), (7, .int yb), (6, .int yw), (5, .int u38_s0), (4, .int 1), (3, .int lc), (0, .ref aX), (1, .ref b), (2, .int a0)]) hx hb dL_isBox_588 hl (by decide) rfl (fun ls hl => ?_)
                    refine lv_iload hx hb dL_isBox_590 (lv_at hl 3 rfl) ?_
                    refine lv_if_eq (tgt := 605) hx hb dL_isBox_592 (by decide) (fun c10 => ?_) (fun c10 => ?_)
                    · exact absurd c10 (by decide)
                    · skip
                      refine lv_iload hx hb dL_isBox_595 (lv_at hl 0 rfl) ?_
                      refine lv_iload_n hx hb dL_isBox_597 rfl (lv_at hl 8 rfl) ?_
                      refine lv_icmp_ge (tgt := 605) hx hb dL_isBox_598 (by decide) (fun c11 => ?_) (fun c11 => ?_)
                      · skip
                        refine lv_iconst (v := 0) hx hb dL_isBox_605 (by decide) ?_
                        refine lv_istore (lv' := [(12, .int 0), (11, .int yt), (10, .int (qp (bxa lr yb.toNatClampNeg))), (9, .int (qc (bxa lr yb.toNatClampNeg))), (8, .int 1), (7, .int yb), (6, .int yw), (5, .int u38_s0), (4, .int 1), (3, .int lc), (0, .ref aX), (1, .ref b), (2, .int a0)]) hx hb dL_isBox_606 hl (by decide) rfl (fun ls hl => ?_)
                        refine lv_iload hx hb dL_isBox_608 (lv_at hl 0 rfl) ?_
                        refine lv_if_eq (tgt := 623) hx hb dL_isBox_610 (by decide) (fun c12 => ?_) (fun c12 => ?_)
                        · skip
                          refine lv_iconst (v := 0) hx hb dL_isBox_623 (by decide) ?_
                          refine lv_istore (lv' := [(13, .int 0), (12, .int 0), (11, .int yt), (10, .int (qp (bxa lr yb.toNatClampNeg))), (9, .int (qc (bxa lr yb.toNatClampNeg))), (8, .int 1), (7, .int yb), (6, .int yw), (5, .int u38_s0), (4, .int 1), (3, .int lc), (0, .ref aX), (1, .ref b), (2, .int a0)]) hx hb dL_isBox_624 hl (by decide) rfl (fun ls hl => ?_)
                          refine lv_aload_n hx hb dL_isBox_626 rfl (lv_at hl 11 rfl) ?_
                          refine lv_iload hx hb dL_isBox_627 (lv_at hl 6 rfl) ?_
                          refine lv_iload hx hb dL_isBox_629 (lv_at hl 2 rfl) ?_
                          refine xPi (wr := [(aS, .inr (6, [.ref aSv])), (aSv, .inl (cI, 11, .inl sf)), (aH, .inr (1, [.int vT, .long vG, .int vM, .int (bi vO), .int vN, .int (bi vD), .int vA])), (aR, .inr (4, [.ref aRd, .ref aRo, .int rc, .int rl, .int rm])), (aRd, .inl (cI, 12, .inl rd)), (aRo, .inl (cI, 12, .inl ro)), (aP, .inr (3, [.ref aPc, .int pl]))]) hW hA [0, 1, 4, 5] [2, 3, 6, 7, 8, 9, 10] rfl rfl (by decide) (by decide) (by decide) (xrunV (As := [.int yb, .int yt]) (rest := []) ⟨hx, hb, hml, hown, hts⟩ (c_X9_shift l D cI cJ cZ cB H.size aX aV aL aLr yb yt aVk aK aJ aP aQ aS aH aR tm k1 k2 k3 k4 k5 lc lr L qi qt qc qp (by assumption) (by assumption) _ rfl) (cwV 2 hts gL_isBox_X9_shift rfl rfl rfl (by decide +kernel) ⟨Nat.le_of_ble_eq_true rfl, Nat.le_of_ble_eq_true rfl⟩) hK hG hW.2.2 (xsubP hW hA [0, 1, 4, 5] rfl (by decide)) (va_recv hK hW.1 (ci := 9) (q0 := 0) rfl rfl) rfl hl.1 rfl (Nat.le_of_ble_eq_true rfl) dL_isBox_631 ⟨Nat.le_of_ble_eq_true rfl, Nat.le_of_ble_eq_true rfl⟩) (fun r77 _ H locs hq hW => ?_)
                          rw [hq]
                          have hW : xW D A s.heap ([(aS, .inr (6, [.ref aSv])), (aSv, .inl (cI, 11, .inl sf)), (aH, .inr (1, [.int vT, .long vG, .int vM, .int (bi vO), .int vN, .int (bi vD), .int vA])), (aR, .inr (4, [.ref aRd, .ref aRo, .int rc, .int rl, .int rm])), (aRd, .inl (cI, 12, .inl rd)), (aRo, .inl (cI, 12, .inl ro)), (aP, .inr (3, [.ref aPc, .int pl])), (aX, .inr (9, [.ref aV, .ref aVk, .ref aK, .ref aJ, .ref aP, .ref aQ])), (aV, .inr (8, [.ref aS, .ref aL, .ref aH, .ref aR, .int tm, .long k1, .long k2, .long k3, .long k4, .long k5])), (aL, .inr (2, [.ref aLr, .int lc])), (aLr, .inl (cB, 10, .inr (.inr (.inr (.inr (f_X9_shift yb yt lc lr qc).2)))))] ++ bxP L qi qt qc qp) H _ := hW
                          have ho := sh_to (lr := lr) (qc := qc) hc (at_w hc hyb.1 c3) c11
                          have hr2 : okR L (f_X9_shift yb yt lc lr qc).2 := by rw [ho]; exact hr
                          refine lv_iload hx hb dL_isBox_634 (lv_at hl 1 rfl) ?_
                          refine lv_if_eq (tgt := 644) hx hb dL_isBox_636 (by decide) (fun c13 => ?_) (fun c13 => ?_)
                          · skip
                            refine lv_iconst (v := -1) hx hb dL_isBox_644 (by decide) ?_
                            refine lv_icmp_ne (tgt := 716) hx hb dL_isBox_645 (by decide) (fun c14 => ?_) (fun c14 => ?_)
                            · exact absurd (congrArg Prod.fst ho) c14
                            · skip
                              refine lv_iload hx hb dL_isBox_648 (lv_at hl 1 rfl) ?_
                              refine lv_if_eq (tgt := 712) hx hb dL_isBox_650 (by decide) (fun c15 => ?_) (fun c15 => ?_)
                              · skip
                                refine lv_iconst (v := 1) hx hb dL_isBox_712 (by decide) ?_
                                refine lv_goto (tgt := 717) hx hb dL_isBox_713 (by decide) ?_
                                have hW := xW_perm (X' := [(aX, .inr (9, [.ref aV, .ref aVk, .ref aK, .ref aJ, .ref aP, .ref aQ])), (aV, .inr (8, [.ref aS, .ref aL, .ref aH, .ref aR, .int tm, .long k1, .long k2, .long k3, .long k4, .long k5])), (aS, .inr (6, [.ref aSv])), (aSv, .inl (cI, 11, .inl sf)), (aL, .inr (2, [.ref aLr, .int lc])), (aLr, .inl (cB, 10, .inr (.inr (.inr (.inr (f_X9_shift yb yt lc lr qc).2))))), (aH, .inr (1, [.int vT, .long vG, .int vM, .int (bi vO), .int vN, .int (bi vD), .int vA])), (aR, .inr (4, [.ref aRd, .ref aRo, .int rc, .int rl, .int rm])), (aRd, .inl (cI, 12, .inl rd)), (aRo, .inl (cI, 12, .inl ro)), (aP, .inr (3, [.ref aPc, .int pl]))]) hW [7, 8, 0, 1, 9, 10, 2, 3, 4, 5, 6] rfl (by decide)
                                exact W.zret (v := 1) hx hb hrt rfl (fun t ht hM => ⟨⟨1, (k1, k2, k5, lc, (f_X9_shift yb yt lc lr qc).2, qi, qt, qc, qp), rfl, ⟨rfl, jj_B (B := B) (by rw [ho]; exact hJ) (by omega)⟩, ⟨by rw [ht]; exact hW.1, hW.2.1⟩⟩, hW.2.2.F ht⟩) hW.2.2.2.2 dL_isBox_717 hlocks
                              · exact absurd c15 (by decide)
                          · exact absurd c13 (by decide)
                        · exact absurd c12 (by decide)
                      · skip
                        refine lv_iconst (v := 1) hx hb dL_isBox_601 (by decide) ?_
                        refine lv_goto (tgt := 606) hx hb dL_isBox_602 (by decide) ?_
                        refine lv_istore (lv' := [(12, .int 1), (11, .int yt), (10, .int (qp (bxa lr yb.toNatClampNeg))), (9, .int (qc (bxa lr yb.toNatClampNeg))), (8, .int 1), (7, .int yb), (6, .int yw), (5, .int u38_s0), (4, .int 1), (3, .int lc), (0, .ref aX), (1, .ref b), (2, .int a0)]) hx hb dL_isBox_606 hl (by decide) rfl (fun ls hl => ?_)
                        refine lv_iload hx hb dL_isBox_608 (lv_at hl 0 rfl) ?_
                        refine lv_if_eq (tgt := 623) hx hb dL_isBox_610 (by decide) (fun c12 => ?_) (fun c12 => ?_)
                        · exact absurd c12 (by decide)
                        · skip
                          refine lv_aload_n hx hb dL_isBox_613 rfl (lv_at hl 10 rfl) ?_
                          refine lv_iload hx hb dL_isBox_614 (lv_at hl 1 rfl) ?_
                          refine lv_iconst (v := 2) hx hb dL_isBox_616 (by decide) ?_
                          refine vp_callSi (va_Run.run (xrunV (As := [.int yt, .int 2]) (rest := []) ⟨hx, hb, hml, hown, hts⟩ (c_X9_box l D cI cJ cZ cB H.size aX aV aS aSv aL aLr aH yt 2 aVk aK aJ aP aQ aR tm k1 k2 k3 k4 k5 sf lc lr vT vG vM vO vN vD vA L qi qt qc qp (by assumption) (by assumption) _ rfl) (cwV 2 hts gL_isBox_X9_box rfl rfl rfl (by decide +kernel) ⟨Nat.le_of_ble_eq_true rfl, Nat.le_of_ble_eq_true rfl⟩) hK hG hW.2.2 (xsubP hW hA [0, 1, 2, 3, 4, 5, 6] rfl (by decide)) (va_recv hK hW.1 (ci := 9) (q0 := 0) rfl rfl) rfl hl.1 rfl (Nat.le_of_ble_eq_true rfl) dL_isBox_617 ⟨Nat.le_of_ble_eq_true rfl, Nat.le_of_ble_eq_true rfl⟩)) (fun r78 hq => ?_)
                          rw [hq, bx_2 (at_w hc hyt.1 c11)]
                          refine lv_goto (tgt := 624) hx hb dL_isBox_620 (by decide) ?_
                          refine lv_istore (lv' := [(13, .int (qc (bxa lr yt.toNatClampNeg))), (12, .int 1), (11, .int yt), (10, .int (qp (bxa lr yb.toNatClampNeg))), (9, .int (qc (bxa lr yb.toNatClampNeg))), (8, .int 1), (7, .int yb), (6, .int yw), (5, .int u38_s0), (4, .int 1), (3, .int lc), (0, .ref aX), (1, .ref b), (2, .int a0)]) hx hb dL_isBox_624 hl (by decide) rfl (fun ls hl => ?_)
                          refine lv_aload_n hx hb dL_isBox_626 rfl (lv_at hl 11 rfl) ?_
                          refine lv_iload hx hb dL_isBox_627 (lv_at hl 6 rfl) ?_
                          refine lv_iload hx hb dL_isBox_629 (lv_at hl 2 rfl) ?_
                          refine xPi (wr := [(aS, .inr (6, [.ref aSv])), (aSv, .inl (cI, 11, .inl sf)), (aH, .inr (1, [.int vT, .long vG, .int vM, .int (bi vO), .int vN, .int (bi vD), .int vA])), (aR, .inr (4, [.ref aRd, .ref aRo, .int rc, .int rl, .int rm])), (aRd, .inl (cI, 12, .inl rd)), (aRo, .inl (cI, 12, .inl ro)), (aP, .inr (3, [.ref aPc, .int pl]))]) hW hA [0, 1, 4, 5] [2, 3, 6, 7, 8, 9, 10] rfl rfl (by decide) (by decide) (by decide) (xrunV (As := [.int yb, .int yt]) (rest := []) ⟨hx, hb, hml, hown, hts⟩ (c_X9_shift l D cI cJ cZ cB H.size aX aV aL aLr yb yt aVk aK aJ aP aQ aS aH aR tm k1 k2 k3 k4 k5 lc lr L qi qt qc qp (by assumption) (by assumption) _ rfl) (cwV 2 hts gL_isBox_X9_shift rfl rfl rfl (by decide +kernel) ⟨Nat.le_of_ble_eq_true rfl, Nat.le_of_ble_eq_true rfl⟩) hK hG hW.2.2 (xsubP hW hA [0, 1, 4, 5] rfl (by decide)) (va_recv hK hW.1 (ci := 9) (q0 := 0) rfl rfl) rfl hl.1 rfl (Nat.le_of_ble_eq_true rfl) dL_isBox_631 ⟨Nat.le_of_ble_eq_true rfl, Nat.le_of_ble_eq_true rfl⟩) (fun r79 _ H locs hq hW => ?_)
                          rw [hq]
                          have hW : xW D A s.heap ([(aS, .inr (6, [.ref aSv])), (aSv, .inl (cI, 11, .inl sf)), (aH, .inr (1, [.int vT, .long vG, .int vM, .int (bi vO), .int vN, .int (bi vD), .int vA])), (aR, .inr (4, [.ref aRd, .ref aRo, .int rc, .int rl, .int rm])), (aRd, .inl (cI, 12, .inl rd)), (aRo, .inl (cI, 12, .inl ro)), (aP, .inr (3, [.ref aPc, .int pl])), (aX, .inr (9, [.ref aV, .ref aVk, .ref aK, .ref aJ, .ref aP, .ref aQ])), (aV, .inr (8, [.ref aS, .ref aL, .ref aH, .ref aR, .int tm, .long k1, .long k2, .long k3, .long k4, .long k5])), (aL, .inr (2, [.ref aLr, .int lc])), (aLr, .inl (cB, 10, .inr (.inr (.inr (.inr (f_X9_shift yb yt lc lr qc).2)))))] ++ bxP L qi qt qc qp) H _ := hW
                          have ho := sh_ok hJ (at_w hc hyb.1 c3) (at_w hc hyt.1 c11)
                          have hr2 := j_r ho.2.2.2.2
                          refine lv_iload hx hb dL_isBox_634 (lv_at hl 1 rfl) ?_
                          refine lv_if_eq (tgt := 644) hx hb dL_isBox_636 (by decide) (fun c13 => ?_) (fun c13 => ?_)
                          · exact absurd c13 (by decide)
                          · skip
                            refine lv_iload hx hb dL_isBox_639 (lv_at hl 4 rfl) ?_
                            refine lv_goto (tgt := 645) hx hb dL_isBox_641 (by decide) ?_
                            refine lv_icmp_ne (tgt := 716) hx hb dL_isBox_645 (by decide) (fun c14 => ?_) (fun c14 => ?_)
                            · exact absurd (ho.1) c14
                            · skip
                              refine lv_iload hx hb dL_isBox_648 (lv_at hl 1 rfl) ?_
                              refine lv_if_eq (tgt := 712) hx hb dL_isBox_650 (by decide) (fun c15 => ?_) (fun c15 => ?_)
                              · exact absurd c15 (by decide)
                              · skip
                                refine lv_aload_n hx hb dL_isBox_653 rfl (lv_at hl 11 rfl) ?_
                                refine lv_iload hx hb dL_isBox_654 (lv_at hl 2 rfl) ?_
                                refine lv_iconst (v := 2) hx hb dL_isBox_656 (by decide) ?_
                                refine vp_callSi (va_Run.run (xrunV (As := [.int yt, .int 2]) (rest := []) ⟨hx, hb, hml, hown, hts⟩ (c_X9_box l D cI cJ cZ cB H.size aX aV aS aSv aL aLr aH yt 2 aVk aK aJ aP aQ aR tm k1 k2 k3 k4 k5 sf lc (f_X9_shift yb yt lc lr qc).2 vT vG vM vO vN vD vA L qi qt qc qp (by assumption) (by assumption) _ rfl) (cwV 2 hts gL_isBox_X9_box rfl rfl rfl (by decide +kernel) ⟨Nat.le_of_ble_eq_true rfl, Nat.le_of_ble_eq_true rfl⟩) hK hG hW.2.2 (xsubP hW hA [7, 8, 0, 1, 9, 10, 2] rfl (by decide)) (va_recv hK hW.1 (ci := 9) (q0 := 7) rfl rfl) rfl hl.1 rfl (Nat.le_of_ble_eq_true rfl) dL_isBox_657 ⟨Nat.le_of_ble_eq_true rfl, Nat.le_of_ble_eq_true rfl⟩)) (fun r80 hq => ?_)
                                rw [hq, bx_2 (at_w hc hyt.1 c11)]
                                refine lv_iload hx hb dL_isBox_660 (lv_at hl 4 rfl) ?_
                                refine lv_icmp_ne (tgt := 716) hx hb dL_isBox_662 (by decide) (fun c16 => ?_) (fun c16 => ?_)
                                · exact absurd (congrArg qc ho.2.1) c16
                                · skip
                                  refine lv_aload_n hx hb dL_isBox_665 rfl (lv_at hl 11 rfl) ?_
                                  refine lv_iload hx hb dL_isBox_666 (lv_at hl 2 rfl) ?_
                                  refine lv_iconst (v := 3) hx hb dL_isBox_668 (by decide) ?_
                                  refine vp_callSi (va_Run.run (xrunV (As := [.int yt, .int 3]) (rest := []) ⟨hx, hb, hml, hown, hts⟩ (c_X9_box l D cI cJ cZ cB H.size aX aV aS aSv aL aLr aH yt 3 aVk aK aJ aP aQ aR tm k1 k2 k3 k4 k5 sf lc (f_X9_shift yb yt lc lr qc).2 vT vG vM vO vN vD vA L qi qt qc qp (by assumption) (by assumption) _ rfl) (cwV 2 hts gL_isBox_X9_box rfl rfl rfl (by decide +kernel) ⟨Nat.le_of_ble_eq_true rfl, Nat.le_of_ble_eq_true rfl⟩) hK hG hW.2.2 (xsubP hW hA [7, 8, 0, 1, 9, 10, 2] rfl (by decide)) (va_recv hK hW.1 (ci := 9) (q0 := 7) rfl rfl) rfl hl.1 rfl (Nat.le_of_ble_eq_true rfl) dL_isBox_669 ⟨Nat.le_of_ble_eq_true rfl, Nat.le_of_ble_eq_true rfl⟩)) (fun r81 hq => ?_)
                                  rw [hq, bx_3 (at_w hc hyt.1 c11)]
                                  refine lv_iload hx hb dL_isBox_672 (lv_at hl 3 rfl) ?_
                                  refine lv_icmp_ne (tgt := 716) hx hb dL_isBox_674 (by decide) (fun c17 => ?_) (fun c17 => ?_)
                                  · exact absurd (congrArg qp ho.2.1) c17
                                  · skip
                                    refine lv_iload hx hb dL_isBox_677 (lv_at hl 6 rfl) ?_
                                    refine lv_iload hx hb dL_isBox_679 (lv_at hl 2 rfl) ?_
                                    refine lv_icmp_eq (tgt := 712) hx hb dL_isBox_681 (by decide) (fun c18 => ?_) (fun c18 => ?_)
                                    · skip
                                      refine lv_iconst (v := 1) hx hb dL_isBox_712 (by decide) ?_
                                      refine lv_goto (tgt := 717) hx hb dL_isBox_713 (by decide) ?_
                                      have hW := xW_perm (X' := [(aX, .inr (9, [.ref aV, .ref aVk, .ref aK, .ref aJ, .ref aP, .ref aQ])), (aV, .inr (8, [.ref aS, .ref aL, .ref aH, .ref aR, .int tm, .long k1, .long k2, .long k3, .long k4, .long k5])), (aS, .inr (6, [.ref aSv])), (aSv, .inl (cI, 11, .inl sf)), (aL, .inr (2, [.ref aLr, .int lc])), (aLr, .inl (cB, 10, .inr (.inr (.inr (.inr (f_X9_shift yb yt lc lr qc).2))))), (aH, .inr (1, [.int vT, .long vG, .int vM, .int (bi vO), .int vN, .int (bi vD), .int vA])), (aR, .inr (4, [.ref aRd, .ref aRo, .int rc, .int rl, .int rm])), (aRd, .inl (cI, 12, .inl rd)), (aRo, .inl (cI, 12, .inl ro)), (aP, .inr (3, [.ref aPc, .int pl]))]) hW [7, 8, 0, 1, 9, 10, 2, 3, 4, 5, 6] rfl (by decide)
                                      exact W.zret (v := 1) hx hb hrt rfl (fun t ht hM => ⟨⟨1, (k1, k2, k5, lc, (f_X9_shift yb yt lc lr qc).2, qi, qt, qc, qp), rfl, ⟨rfl, jj_B ho.2.2.2.2 (by omega)⟩, ⟨by rw [ht]; exact hW.1, hW.2.1⟩⟩, hW.2.2.F ht⟩) hW.2.2.2.2 dL_isBox_717 hlocks
                                    · skip
                                      refine lv_aload_n hx hb dL_isBox_684 rfl (lv_at hl 11 rfl) ?_
                                      refine lv_iload hx hb dL_isBox_685 (lv_at hl 6 rfl) ?_
                                      refine lv_iload hx hb dL_isBox_687 (lv_at hl 2 rfl) ?_
                                      refine lv_icmp_ge (tgt := 699) hx hb dL_isBox_689 (by decide) (fun c19 => ?_) (fun c19 => ?_)
                                      · skip
                                        refine lv_iload hx hb dL_isBox_699 (lv_at hl 2 rfl) ?_
                                        refine lv_iconst (v := 1) hx hb dL_isBox_701 (by decide) ?_
                                        refine lv_iadd hx hb dL_isBox_702 ?_
                                        refine lv_iconst (v := 2) hx hb dL_isBox_703 (by decide) ?_
                                        refine vp_callSi (va_Run.run (xrunV (As := [.int (yt + 1), .int 2]) (rest := []) ⟨hx, hb, hml, hown, hts⟩ (c_X9_box l D cI cJ cZ cB H.size aX aV aS aSv aL aLr aH (yt + 1) 2 aVk aK aJ aP aQ aR tm k1 k2 k3 k4 k5 sf lc (f_X9_shift yb yt lc lr qc).2 vT vG vM vO vN vD vA L qi qt qc qp (by assumption) (by assumption) _ rfl) (cwV 2 hts gL_isBox_X9_box rfl rfl rfl (by decide +kernel) ⟨Nat.le_of_ble_eq_true rfl, Nat.le_of_ble_eq_true rfl⟩) hK hG hW.2.2 (xsubP hW hA [7, 8, 0, 1, 9, 10, 2] rfl (by decide)) (va_recv hK hW.1 (ci := 9) (q0 := 7) rfl rfl) rfl hl.1 rfl (Nat.le_of_ble_eq_true rfl) dL_isBox_704 ⟨Nat.le_of_ble_eq_true rfl, Nat.le_of_ble_eq_true rfl⟩)) (fun r82 hq => ?_)
                                        rw [hq, bx_2 ((ho.2.2.2.1 (sh_lt c18 c19)).2)]
                                        refine lv_iload hx hb dL_isBox_707 (lv_at hl 0 rfl) ?_
                                        refine lv_icmp_ne (tgt := 716) hx hb dL_isBox_709 (by decide) (fun c20 => ?_) (fun c20 => ?_)
                                        · exact absurd (congrArg qc (ho.2.2.2.1 (sh_lt c18 c19)).1) c20
                                        · skip
                                          refine lv_iconst (v := 1) hx hb dL_isBox_712 (by decide) ?_
                                          refine lv_goto (tgt := 717) hx hb dL_isBox_713 (by decide) ?_
                                          have hW := xW_perm (X' := [(aX, .inr (9, [.ref aV, .ref aVk, .ref aK, .ref aJ, .ref aP, .ref aQ])), (aV, .inr (8, [.ref aS, .ref aL, .ref aH, .ref aR, .int tm, .long k1, .long k2, .long k3, .long k4, .long k5])), (aS, .inr (6, [.ref aSv])), (aSv, .inl (cI, 11, .inl sf)), (aL, .inr (2, [.ref aLr, .int lc])), (aLr, .inl (cB, 10, .inr (.inr (.inr (.inr (f_X9_shift yb yt lc lr qc).2))))), (aH, .inr (1, [.int vT, .long vG, .int vM, .int (bi vO), .int vN, .int (bi vD), .int vA])), (aR, .inr (4, [.ref aRd, .ref aRo, .int rc, .int rl, .int rm])), (aRd, .inl (cI, 12, .inl rd)), (aRo, .inl (cI, 12, .inl ro)), (aP, .inr (3, [.ref aPc, .int pl]))]) hW [7, 8, 0, 1, 9, 10, 2, 3, 4, 5, 6] rfl (by decide)
                                          exact W.zret (v := 1) hx hb hrt rfl (fun t ht hM => ⟨⟨1, (k1, k2, k5, lc, (f_X9_shift yb yt lc lr qc).2, qi, qt, qc, qp), rfl, ⟨rfl, jj_B ho.2.2.2.2 (by omega)⟩, ⟨by rw [ht]; exact hW.1, hW.2.1⟩⟩, hW.2.2.F ht⟩) hW.2.2.2.2 dL_isBox_717 hlocks
                                      · skip
                                        refine lv_iload hx hb dL_isBox_692 (lv_at hl 2 rfl) ?_
                                        refine lv_iconst (v := 1) hx hb dL_isBox_694 (by decide) ?_
                                        refine lv_isub hx hb dL_isBox_695 ?_
                                        refine lv_goto (tgt := 703) hx hb dL_isBox_696 (by decide) ?_
                                        refine lv_iconst (v := 2) hx hb dL_isBox_703 (by decide) ?_
                                        refine vp_callSi (va_Run.run (xrunV (As := [.int (yt - 1), .int 2]) (rest := []) ⟨hx, hb, hml, hown, hts⟩ (c_X9_box l D cI cJ cZ cB H.size aX aV aS aSv aL aLr aH (yt - 1) 2 aVk aK aJ aP aQ aR tm k1 k2 k3 k4 k5 sf lc (f_X9_shift yb yt lc lr qc).2 vT vG vM vO vN vD vA L qi qt qc qp (by assumption) (by assumption) _ rfl) (cwV 2 hts gL_isBox_X9_box rfl rfl rfl (by decide +kernel) ⟨Nat.le_of_ble_eq_true rfl, Nat.le_of_ble_eq_true rfl⟩) hK hG hW.2.2 (xsubP hW hA [7, 8, 0, 1, 9, 10, 2] rfl (by decide)) (va_recv hK hW.1 (ci := 9) (q0 := 7) rfl rfl) rfl hl.1 rfl (Nat.le_of_ble_eq_true rfl) dL_isBox_704 ⟨Nat.le_of_ble_eq_true rfl, Nat.le_of_ble_eq_true rfl⟩)) (fun r83 hq => ?_)
                                        rw [hq, bx_2 ((ho.2.2.1 (xnle.mp c19)).2)]
                                        refine lv_iload hx hb dL_isBox_707 (lv_at hl 0 rfl) ?_
                                        refine lv_icmp_ne (tgt := 716) hx hb dL_isBox_709 (by decide) (fun c20 => ?_) (fun c20 => ?_)
                                        · exact absurd (congrArg qc (ho.2.2.1 (xnle.mp c19)).1) c20
                                        · skip
                                          refine lv_iconst (v := 1) hx hb dL_isBox_712 (by decide) ?_
                                          refine lv_goto (tgt := 717) hx hb dL_isBox_713 (by decide) ?_
                                          have hW := xW_perm (X' := [(aX, .inr (9, [.ref aV, .ref aVk, .ref aK, .ref aJ, .ref aP, .ref aQ])), (aV, .inr (8, [.ref aS, .ref aL, .ref aH, .ref aR, .int tm, .long k1, .long k2, .long k3, .long k4, .long k5])), (aS, .inr (6, [.ref aSv])), (aSv, .inl (cI, 11, .inl sf)), (aL, .inr (2, [.ref aLr, .int lc])), (aLr, .inl (cB, 10, .inr (.inr (.inr (.inr (f_X9_shift yb yt lc lr qc).2))))), (aH, .inr (1, [.int vT, .long vG, .int vM, .int (bi vO), .int vN, .int (bi vD), .int vA])), (aR, .inr (4, [.ref aRd, .ref aRo, .int rc, .int rl, .int rm])), (aRd, .inl (cI, 12, .inl rd)), (aRo, .inl (cI, 12, .inl ro)), (aP, .inr (3, [.ref aPc, .int pl]))]) hW [7, 8, 0, 1, 9, 10, 2, 3, 4, 5, 6] rfl (by decide)
                                          exact W.zret (v := 1) hx hb hrt rfl (fun t ht hM => ⟨⟨1, (k1, k2, k5, lc, (f_X9_shift yb yt lc lr qc).2, qi, qt, qc, qp), rfl, ⟨rfl, jj_B ho.2.2.2.2 (by omega)⟩, ⟨by rw [ht]; exact hW.1, hW.2.1⟩⟩, hW.2.2.F ht⟩) hW.2.2.2.2 dL_isBox_717 hlocks
                  · skip
                    refine lv_aload_n hx hb dL_isBox_474 rfl (lv_at hl 8 rfl) ?_
                    refine lv_iload hx hb dL_isBox_475 (lv_at hl 3 rfl) ?_
                    refine vp_callSi (va_Run.run (xrunV (As := [.int yb]) (rest := []) ⟨hx, hb, hml, hown, hts⟩ (c_X9_weigh l D cI cJ cZ cB H.size aX aV aL aLr aR yb aVk aK aJ aP aQ aS aH tm k1 k2 k3 k4 k5 lc lr aRd aRo rc rl rm L qi qt qc qp (by assumption) (by assumption) _ rfl) (cwV 1 hts gL_isBox_X9_weigh rfl rfl rfl (by decide +kernel) ⟨Nat.le_of_ble_eq_true rfl, Nat.le_of_ble_eq_true rfl⟩) hK hG hW.2.2 (xsubP hW hA [0, 1, 4, 5, 7] rfl (by decide)) (va_recv hK hW.1 (ci := 9) (q0 := 0) rfl rfl) rfl hl.1 rfl (Nat.le_of_ble_eq_true rfl) dL_isBox_477 ⟨Nat.le_of_ble_eq_true rfl, Nat.le_of_ble_eq_true rfl⟩)) (fun r84 hq => ?_)
                    rw [hq]
                    refine lv_iload hx hb dL_isBox_480 (lv_at hl 2 rfl) ?_
                    refine lv_if_ne (tgt := 489) hx hb dL_isBox_482 (by decide) (fun c10 => ?_) (fun c10 => ?_)
                    · skip
                      refine lv_iload hx hb dL_isBox_489 (lv_at hl 5 rfl) ?_
                      refine lv_if_eq (tgt := 499) hx hb dL_isBox_491 (by decide) (fun c11 => ?_) (fun c11 => ?_)
                      · skip
                        refine lv_aload_n hx hb dL_isBox_499 rfl (lv_at hl 8 rfl) ?_
                        refine lv_iload hx hb dL_isBox_500 (lv_at hl 3 rfl) ?_
                        refine lv_iconst (v := 1) hx hb dL_isBox_502 (by decide) ?_
                        refine vp_callSi (va_Run.run (xrunV (As := [.int yb, .int 1]) (rest := [.int (f_X9_weigh yb lc lr rm qt qc)]) ⟨hx, hb, hml, hown, hts⟩ (c_X9_box l D cI cJ cZ cB H.size aX aV aS aSv aL aLr aH yb 1 aVk aK aJ aP aQ aR tm k1 k2 k3 k4 k5 sf lc lr vT vG vM vO vN vD vA L qi qt qc qp (by assumption) (by assumption) _ rfl) (cwV 2 hts gL_isBox_X9_box rfl rfl rfl (by decide +kernel) ⟨Nat.le_of_ble_eq_true rfl, Nat.le_of_ble_eq_true rfl⟩) hK hG hW.2.2 (xsubP hW hA [0, 1, 2, 3, 4, 5, 6] rfl (by decide)) (va_recv hK hW.1 (ci := 9) (q0 := 0) rfl rfl) rfl hl.1 rfl (Nat.le_of_ble_eq_true rfl) dL_isBox_503 ⟨Nat.le_of_ble_eq_true rfl, Nat.le_of_ble_eq_true rfl⟩)) (fun r85 hq => ?_)
                        rw [hq, bx_1 (at_w hc hyb.1 c3)]
                        refine lv_iload hx hb dL_isBox_506 (lv_at hl 1 rfl) ?_
                        refine lv_iadd hx hb dL_isBox_508 ?_
                        refine lv_icmp_ne (tgt := 577) hx hb dL_isBox_509 (by decide) (fun c12 => ?_) (fun c12 => ?_)
                        · exact absurd ((wg_ok hJ (at_w hc hyb.1 c3) (aw_0 eu38_s0 c11)).1) c12
                        · skip
                          refine lv_aload_n hx hb dL_isBox_512 rfl (lv_at hl 8 rfl) ?_
                          refine lv_iload hx hb dL_isBox_513 (lv_at hl 3 rfl) ?_
                          refine xPi (wr := [(aS, .inr (6, [.ref aSv])), (aSv, .inl (cI, 11, .inl sf)), (aH, .inr (1, [.int vT, .long vG, .int vM, .int (bi vO), .int vN, .int (bi vD), .int vA])), (aRd, .inl (cI, 12, .inl rd)), (aRo, .inl (cI, 12, .inl ro)), (aP, .inr (3, [.ref aPc, .int pl]))]) hW hA [0, 1, 4, 5, 7] [2, 3, 6, 8, 9, 10] rfl rfl (by decide) (by decide) (by decide) (xrunV (As := [.int yb]) (rest := []) ⟨hx, hb, hml, hown, hts⟩ (c_X9_check l D cI cJ cZ cB H.size aX aV aL aLr aR yb aVk aK aJ aP aQ aS aH tm k1 k2 k3 k4 k5 lc lr aRd aRo rc rl rm L qi qt qc qp (by assumption) (by assumption) _ rfl) (cwV 1 hts gL_isBox_X9_check rfl rfl rfl (by decide +kernel) ⟨Nat.le_of_ble_eq_true rfl, Nat.le_of_ble_eq_true rfl⟩) hK hG hW.2.2 (xsubP hW hA [0, 1, 4, 5, 7] rfl (by decide)) (va_recv hK hW.1 (ci := 9) (q0 := 0) rfl rfl) rfl hl.1 rfl (Nat.le_of_ble_eq_true rfl) dL_isBox_515 ⟨Nat.le_of_ble_eq_true rfl, Nat.le_of_ble_eq_true rfl⟩) (fun r86 _ H locs hq hW => ?_)
                          rw [hq]
                          have hW : xW D A s.heap ([(aS, .inr (6, [.ref aSv])), (aSv, .inl (cI, 11, .inl sf)), (aH, .inr (1, [.int vT, .long vG, .int vM, .int (bi vO), .int vN, .int (bi vD), .int vA])), (aRd, .inl (cI, 12, .inl rd)), (aRo, .inl (cI, 12, .inl ro)), (aP, .inr (3, [.ref aPc, .int pl])), (aX, .inr (9, [.ref aV, .ref aVk, .ref aK, .ref aJ, .ref aP, .ref aQ])), (aV, .inr (8, [.ref aS, .ref aL, .ref aH, .ref aR, .int tm, .long k1, .long k2, .long k3, .long k4, .long k5])), (aL, .inr (2, [.ref aLr, .int lc])), (aLr, .inl (cB, 10, .inr (.inr (.inr (.inr lr))))), (aR, .inr (4, [.ref aRd, .ref aRo, .int rc, .int rl, .int rm]))] ++ bxP L qi qt qc (f_X9_check yb lc lr rm qc qp).2) H _ := hW
                          refine lv_iload hx hb dL_isBox_518 (lv_at hl 2 rfl) ?_
                          refine lv_if_ne (tgt := 528) hx hb dL_isBox_520 (by decide) (fun c13 => ?_) (fun c13 => ?_)
                          · skip
                            refine lv_iload hx hb dL_isBox_528 (lv_at hl 5 rfl) ?_
                            refine lv_if_eq (tgt := 538) hx hb dL_isBox_530 (by decide) (fun c14 => ?_) (fun c14 => ?_)
                            · skip
                              refine lv_iload hx hb dL_isBox_538 (lv_at hl 0 rfl) ?_
                              refine lv_iload hx hb dL_isBox_540 (lv_at hl 1 rfl) ?_
                              refine lv_isub hx hb dL_isBox_542 ?_
                              refine lv_icmp_ne (tgt := 577) hx hb dL_isBox_543 (by decide) (fun c15 => ?_) (fun c15 => ?_)
                              · exact absurd ((wg_ok hJ (at_w hc hyb.1 c3) (aw_0 eu38_s0 c11)).2.1) c15
                              · skip
                                refine lv_iload hx hb dL_isBox_546 (lv_at hl 2 rfl) ?_
                                refine lv_if_eq (tgt := 573) hx hb dL_isBox_548 (by decide) (fun c16 => ?_) (fun c16 => ?_)
                                · exact absurd c16 (by decide)
                                · skip
                                  refine lv_aload_n hx hb dL_isBox_551 rfl (lv_at hl 8 rfl) ?_
                                  refine lv_iload hx hb dL_isBox_552 (lv_at hl 3 rfl) ?_
                                  refine lv_iconst (v := 3) hx hb dL_isBox_554 (by decide) ?_
                                  refine vp_callSi (va_Run.run (xrunV (As := [.int yb, .int 3]) (rest := []) ⟨hx, hb, hml, hown, hts⟩ (c_X9_box l D cI cJ cZ cB H.size aX aV aS aSv aL aLr aH yb 3 aVk aK aJ aP aQ aR tm k1 k2 k3 k4 k5 sf lc lr vT vG vM vO vN vD vA L qi qt qc (f_X9_check yb lc lr rm qc qp).2 (by assumption) (by assumption) _ rfl) (cwV 2 hts gL_isBox_X9_box rfl rfl rfl (by decide +kernel) ⟨Nat.le_of_ble_eq_true rfl, Nat.le_of_ble_eq_true rfl⟩) hK hG hW.2.2 (xsubP hW hA [6, 7, 0, 1, 8, 9, 2] rfl (by decide)) (va_recv hK hW.1 (ci := 9) (q0 := 6) rfl rfl) rfl hl.1 rfl (Nat.le_of_ble_eq_true rfl) dL_isBox_555 ⟨Nat.le_of_ble_eq_true rfl, Nat.le_of_ble_eq_true rfl⟩)) (fun r87 hq => ?_)
                                  rw [hq, bx_3 (at_w hc hyb.1 c3)]
                                  refine lv_iload hx hb dL_isBox_558 (lv_at hl 5 rfl) ?_
                                  refine lv_if_eq (tgt := 568) hx hb dL_isBox_560 (by decide) (fun c17 => ?_) (fun c17 => ?_)
                                  · skip
                                    refine lv_iload hx hb dL_isBox_568 (lv_at hl 1 rfl) ?_
                                    refine lv_icmp_ne (tgt := 577) hx hb dL_isBox_570 (by decide) (fun c18 => ?_) (fun c18 => ?_)
                                    · exact absurd ((wg_ok hJ (at_w hc hyb.1 c3) (aw_0 eu38_s0 c11)).2.2.1) c18
                                    · skip
                                      refine lv_iconst (v := 1) hx hb dL_isBox_573 (by decide) ?_
                                      refine lv_goto (tgt := 578) hx hb dL_isBox_574 (by decide) ?_
                                      have hW := xW_perm (X' := [(aX, .inr (9, [.ref aV, .ref aVk, .ref aK, .ref aJ, .ref aP, .ref aQ])), (aV, .inr (8, [.ref aS, .ref aL, .ref aH, .ref aR, .int tm, .long k1, .long k2, .long k3, .long k4, .long k5])), (aS, .inr (6, [.ref aSv])), (aSv, .inl (cI, 11, .inl sf)), (aL, .inr (2, [.ref aLr, .int lc])), (aLr, .inl (cB, 10, .inr (.inr (.inr (.inr lr))))), (aH, .inr (1, [.int vT, .long vG, .int vM, .int (bi vO), .int vN, .int (bi vD), .int vA])), (aR, .inr (4, [.ref aRd, .ref aRo, .int rc, .int rl, .int rm])), (aRd, .inl (cI, 12, .inl rd)), (aRo, .inl (cI, 12, .inl ro)), (aP, .inr (3, [.ref aPc, .int pl]))]) hW [6, 7, 0, 1, 8, 9, 2, 10, 3, 4, 5] rfl (by decide)
                                      exact W.zret (v := 1) hx hb hrt rfl (fun t ht hM => ⟨⟨1, (k1, k2, k5, lc, lr, qi, qt, qc, (f_X9_check yb lc lr rm qc qp).2), rfl, ⟨rfl, jj_B (wg_ok hJ (at_w hc hyb.1 c3) (aw_0 eu38_s0 c11)).2.2.2 (by omega)⟩, ⟨by rw [ht]; exact hW.1, hW.2.1⟩⟩, hW.2.2.F ht⟩) hW.2.2.2.2 dL_isBox_578 hlocks
                                  · exact absurd c11 c17
                            · exact absurd c11 c14
                          · exact absurd c13 (by decide)
                      · skip
                        refine lv_bipush (v := -5) hx hb dL_isBox_494 (by decide) ?_
                        refine lv_goto (tgt := 509) hx hb dL_isBox_496 (by decide) ?_
                        refine lv_icmp_ne (tgt := 577) hx hb dL_isBox_509 (by decide) (fun c12 => ?_) (fun c12 => ?_)
                        · exact absurd ((wg_away (qp := qp) (at_w hc hyb.1 c3) (aw_1 eu38_s0 c11)).1) c12
                        · skip
                          refine lv_aload_n hx hb dL_isBox_512 rfl (lv_at hl 8 rfl) ?_
                          refine lv_iload hx hb dL_isBox_513 (lv_at hl 3 rfl) ?_
                          refine xPi (wr := [(aS, .inr (6, [.ref aSv])), (aSv, .inl (cI, 11, .inl sf)), (aH, .inr (1, [.int vT, .long vG, .int vM, .int (bi vO), .int vN, .int (bi vD), .int vA])), (aRd, .inl (cI, 12, .inl rd)), (aRo, .inl (cI, 12, .inl ro)), (aP, .inr (3, [.ref aPc, .int pl]))]) hW hA [0, 1, 4, 5, 7] [2, 3, 6, 8, 9, 10] rfl rfl (by decide) (by decide) (by decide) (xrunV (As := [.int yb]) (rest := []) ⟨hx, hb, hml, hown, hts⟩ (c_X9_check l D cI cJ cZ cB H.size aX aV aL aLr aR yb aVk aK aJ aP aQ aS aH tm k1 k2 k3 k4 k5 lc lr aRd aRo rc rl rm L qi qt qc qp (by assumption) (by assumption) _ rfl) (cwV 1 hts gL_isBox_X9_check rfl rfl rfl (by decide +kernel) ⟨Nat.le_of_ble_eq_true rfl, Nat.le_of_ble_eq_true rfl⟩) hK hG hW.2.2 (xsubP hW hA [0, 1, 4, 5, 7] rfl (by decide)) (va_recv hK hW.1 (ci := 9) (q0 := 0) rfl rfl) rfl hl.1 rfl (Nat.le_of_ble_eq_true rfl) dL_isBox_515 ⟨Nat.le_of_ble_eq_true rfl, Nat.le_of_ble_eq_true rfl⟩) (fun r88 _ H locs hq hW => ?_)
                          rw [hq]
                          have hW : xW D A s.heap ([(aS, .inr (6, [.ref aSv])), (aSv, .inl (cI, 11, .inl sf)), (aH, .inr (1, [.int vT, .long vG, .int vM, .int (bi vO), .int vN, .int (bi vD), .int vA])), (aRd, .inl (cI, 12, .inl rd)), (aRo, .inl (cI, 12, .inl ro)), (aP, .inr (3, [.ref aPc, .int pl])), (aX, .inr (9, [.ref aV, .ref aVk, .ref aK, .ref aJ, .ref aP, .ref aQ])), (aV, .inr (8, [.ref aS, .ref aL, .ref aH, .ref aR, .int tm, .long k1, .long k2, .long k3, .long k4, .long k5])), (aL, .inr (2, [.ref aLr, .int lc])), (aLr, .inl (cB, 10, .inr (.inr (.inr (.inr lr))))), (aR, .inr (4, [.ref aRd, .ref aRo, .int rc, .int rl, .int rm]))] ++ bxP L qi qt qc (f_X9_check yb lc lr rm qc qp).2) H _ := hW
                          refine lv_iload hx hb dL_isBox_518 (lv_at hl 2 rfl) ?_
                          refine lv_if_ne (tgt := 528) hx hb dL_isBox_520 (by decide) (fun c13 => ?_) (fun c13 => ?_)
                          · skip
                            refine lv_iload hx hb dL_isBox_528 (lv_at hl 5 rfl) ?_
                            refine lv_if_eq (tgt := 538) hx hb dL_isBox_530 (by decide) (fun c14 => ?_) (fun c14 => ?_)
                            · exact absurd c14 c11
                            · skip
                              refine lv_ldc hx hb hown w4 dL_isBox_533 ?_
                              refine lv_goto (tgt := 543) hx hb dL_isBox_535 (by decide) ?_
                              refine lv_icmp_ne (tgt := 577) hx hb dL_isBox_543 (by decide) (fun c15 => ?_) (fun c15 => ?_)
                              · exact absurd (congrArg Prod.fst (wg_away (qt := qt) (at_w hc hyb.1 c3) (aw_1 eu38_s0 c11)).2) c15
                              · skip
                                refine lv_iload hx hb dL_isBox_546 (lv_at hl 2 rfl) ?_
                                refine lv_if_eq (tgt := 573) hx hb dL_isBox_548 (by decide) (fun c16 => ?_) (fun c16 => ?_)
                                · exact absurd c16 (by decide)
                                · skip
                                  refine lv_aload_n hx hb dL_isBox_551 rfl (lv_at hl 8 rfl) ?_
                                  refine lv_iload hx hb dL_isBox_552 (lv_at hl 3 rfl) ?_
                                  refine lv_iconst (v := 3) hx hb dL_isBox_554 (by decide) ?_
                                  refine vp_callSi (va_Run.run (xrunV (As := [.int yb, .int 3]) (rest := []) ⟨hx, hb, hml, hown, hts⟩ (c_X9_box l D cI cJ cZ cB H.size aX aV aS aSv aL aLr aH yb 3 aVk aK aJ aP aQ aR tm k1 k2 k3 k4 k5 sf lc lr vT vG vM vO vN vD vA L qi qt qc (f_X9_check yb lc lr rm qc qp).2 (by assumption) (by assumption) _ rfl) (cwV 2 hts gL_isBox_X9_box rfl rfl rfl (by decide +kernel) ⟨Nat.le_of_ble_eq_true rfl, Nat.le_of_ble_eq_true rfl⟩) hK hG hW.2.2 (xsubP hW hA [6, 7, 0, 1, 8, 9, 2] rfl (by decide)) (va_recv hK hW.1 (ci := 9) (q0 := 6) rfl rfl) rfl hl.1 rfl (Nat.le_of_ble_eq_true rfl) dL_isBox_555 ⟨Nat.le_of_ble_eq_true rfl, Nat.le_of_ble_eq_true rfl⟩)) (fun r89 hq => ?_)
                                  rw [hq, bx_3 (at_w hc hyb.1 c3)]
                                  refine lv_iload hx hb dL_isBox_558 (lv_at hl 5 rfl) ?_
                                  refine lv_if_eq (tgt := 568) hx hb dL_isBox_560 (by decide) (fun c17 => ?_) (fun c17 => ?_)
                                  · exact absurd c17 c11
                                  · skip
                                    refine lv_iload hx hb dL_isBox_563 (lv_at hl 0 rfl) ?_
                                    refine lv_goto (tgt := 570) hx hb dL_isBox_565 (by decide) ?_
                                    refine lv_icmp_ne (tgt := 577) hx hb dL_isBox_570 (by decide) (fun c18 => ?_) (fun c18 => ?_)
                                    · exact absurd (congrFun (congrArg Prod.snd (wg_away (qt := qt) (at_w hc hyb.1 c3) (aw_1 eu38_s0 c11)).2) _) c18
                                    · skip
                                      refine lv_iconst (v := 1) hx hb dL_isBox_573 (by decide) ?_
                                      refine lv_goto (tgt := 578) hx hb dL_isBox_574 (by decide) ?_
                                      have hW := xW_perm (X' := [(aX, .inr (9, [.ref aV, .ref aVk, .ref aK, .ref aJ, .ref aP, .ref aQ])), (aV, .inr (8, [.ref aS, .ref aL, .ref aH, .ref aR, .int tm, .long k1, .long k2, .long k3, .long k4, .long k5])), (aS, .inr (6, [.ref aSv])), (aSv, .inl (cI, 11, .inl sf)), (aL, .inr (2, [.ref aLr, .int lc])), (aLr, .inl (cB, 10, .inr (.inr (.inr (.inr lr))))), (aH, .inr (1, [.int vT, .long vG, .int vM, .int (bi vO), .int vN, .int (bi vD), .int vA])), (aR, .inr (4, [.ref aRd, .ref aRo, .int rc, .int rl, .int rm])), (aRd, .inl (cI, 12, .inl rd)), (aRo, .inl (cI, 12, .inl ro)), (aP, .inr (3, [.ref aPc, .int pl]))]) hW [6, 7, 0, 1, 8, 9, 2, 10, 3, 4, 5] rfl (by decide)
                                      exact W.zret (v := 1) hx hb hrt rfl (fun t ht hM => ⟨⟨1, (k1, k2, k5, lc, lr, qi, qt, qc, (f_X9_check yb lc lr rm qc qp).2), rfl, ⟨rfl, jj_B (B := B) (by rw [(wg_away (qt := qt) (at_w hc hyb.1 c3) (aw_1 eu38_s0 c11)).2]; exact hJ) (by omega)⟩, ⟨by rw [ht]; exact hW.1, hW.2.1⟩⟩, hW.2.2.F ht⟩) hW.2.2.2.2 dL_isBox_578 hlocks
                          · exact absurd c13 (by decide)
                    · exact absurd c10 (by decide)
                · skip
                  refine lv_iconst (v := 1) hx hb dL_isBox_378 (by decide) ?_
                  refine lv_aload_n hx hb dL_isBox_379 rfl (lv_at hl 9 rfl) ?_
                  refine lv_iload_n hx hb dL_isBox_380 rfl (lv_at hl 10 rfl) ?_
                  refine lv_iconst (v := 2) hx hb dL_isBox_381 (by decide) ?_
                  refine lv_iadd hx hb dL_isBox_382 ?_
                  refine lv_ldc hx hb hown w2 dL_isBox_383 ?_
                  refine xcell (k := a0 + 2) (n := 300000) (rest := [.int 1]) ⟨hx, hb, hml, hown, hts⟩ (cwS 3 hts gL_isBox_L_cell rfl rfl rfl (by decide +kernel) ⟨Nat.le_of_ble_eq_true rfl, Nat.le_of_ble_eq_true rfl⟩) hX hbl hbA hLn hW.2.2 (ck_2 hat) (by decide) hl.1 (Nat.le_of_ble_eq_true rfl) dL_isBox_385 ⟨Nat.le_of_ble_eq_true rfl, Nat.le_of_ble_eq_true rfl⟩ ?_
                  obtain ⟨yl, eyl⟩ : ∃ z9, cellf Ln xs (a0 + 2) (300000 : Int32) = z9 := ⟨_, rfl⟩
                  rw [eyl]
                  have hyl : 0 ≤ yl.toInt ∧ yl.toInt < 300000 := cell_b (N := 300000) (ck_2 hat) (by decide) (by decide) eyl
                  refine lv_iadd hx hb dL_isBox_388 ?_
                  refine lv_istore (lv' := [(11, .int (1 + yl)), (10, .int (qp (bxa lr yb.toNatClampNeg))), (9, .int (qc (bxa lr yb.toNatClampNeg))), (8, .int 1), (7, .int yb), (6, .int yw), (5, .int u38_s0), (4, .int 1), (3, .int lc), (0, .ref aX), (1, .ref b), (2, .int a0)]) hx hb dL_isBox_389 hl (by decide) rfl (fun ls hl => ?_)
                  refine lv_iload hx hb dL_isBox_391 (lv_at hl 3 rfl) ?_
                  refine lv_if_eq (tgt := 407) hx hb dL_isBox_393 (by decide) (fun c9 => ?_) (fun c9 => ?_)
                  · exact absurd c9 (by decide)
                  · skip
                    refine lv_iload hx hb dL_isBox_396 (lv_at hl 0 rfl) ?_
                    refine lv_iload hx hb dL_isBox_398 (lv_at hl 2 rfl) ?_
                    refine lv_icmp_gt (tgt := 407) hx hb dL_isBox_400 (by decide) (fun c10 => ?_) (fun c10 => ?_)
                    · skip
                      refine lv_iconst (v := 0) hx hb dL_isBox_407 (by decide) ?_
                      refine lv_istore (lv' := [(12, .int 0), (11, .int (1 + yl)), (10, .int (qp (bxa lr yb.toNatClampNeg))), (9, .int (qc (bxa lr yb.toNatClampNeg))), (8, .int 1), (7, .int yb), (6, .int yw), (5, .int u38_s0), (4, .int 1), (3, .int lc), (0, .ref aX), (1, .ref b), (2, .int a0)]) hx hb dL_isBox_408 hl (by decide) rfl (fun ls hl => ?_)
                      refine lv_aload_n hx hb dL_isBox_410 rfl (lv_at hl 10 rfl) ?_
                      refine lv_iload hx hb dL_isBox_411 (lv_at hl 5 rfl) ?_
                      refine lv_iload hx hb dL_isBox_413 (lv_at hl 1 rfl) ?_
                      obtain ⟨o90_, eo90_⟩ : ∃ z9, f_X9_spill yb (1 + yl) k5 lc lr qc = z9 := ⟨_, rfl⟩
                      refine xPi (wr := [(aS, .inr (6, [.ref aSv])), (aSv, .inl (cI, 11, .inl sf)), (aH, .inr (1, [.int vT, .long vG, .int vM, .int (bi vO), .int vN, .int (bi vD), .int vA])), (aR, .inr (4, [.ref aRd, .ref aRo, .int rc, .int rl, .int rm])), (aRd, .inl (cI, 12, .inl rd)), (aRo, .inl (cI, 12, .inl ro)), (aP, .inr (3, [.ref aPc, .int pl]))]) hW hA [0, 1, 4, 5] [2, 3, 6, 7, 8, 9, 10] rfl rfl (by decide) (by decide) (by decide) (xrunV (As := [.int yb, .int (1 + yl)]) (rest := []) ⟨hx, hb, hml, hown, hts⟩ (c_X9_spill l D cI cJ cZ cB H.size aX aV aL aLr yb (1 + yl) aVk aK aJ aP aQ aS aH aR tm k1 k2 k3 k4 k5 lc lr L qi qt qc qp (by assumption) (by assumption) o90_ eo90_) (cwV 2 hts gL_isBox_X9_spill rfl rfl rfl (by decide +kernel) ⟨Nat.le_of_ble_eq_true rfl, Nat.le_of_ble_eq_true rfl⟩) hK hG hW.2.2 (xsubP hW hA [0, 1, 4, 5] rfl (by decide)) (va_recv hK hW.1 (ci := 9) (q0 := 0) rfl rfl) rfl hl.1 rfl (Nat.le_of_ble_eq_true rfl) dL_isBox_415 ⟨Nat.le_of_ble_eq_true rfl, Nat.le_of_ble_eq_true rfl⟩) (fun r91 _ H locs hq hW => ?_)
                      rw [hq]
                      have hW : xW D A s.heap ([(aS, .inr (6, [.ref aSv])), (aSv, .inl (cI, 11, .inl sf)), (aH, .inr (1, [.int vT, .long vG, .int vM, .int (bi vO), .int vN, .int (bi vD), .int vA])), (aR, .inr (4, [.ref aRd, .ref aRo, .int rc, .int rl, .int rm])), (aRd, .inl (cI, 12, .inl rd)), (aRo, .inl (cI, 12, .inl ro)), (aP, .inr (3, [.ref aPc, .int pl])), (aX, .inr (9, [.ref aV, .ref aVk, .ref aK, .ref aJ, .ref aP, .ref aQ])), (aV, .inr (8, [.ref aS, .ref aL, .ref aH, .ref aR, .int tm, .long k1, .long k2, .long k3, .long k4, .long o90_.2.1])), (aL, .inr (2, [.ref aLr, .int lc])), (aLr, .inl (cB, 10, .inr (.inr (.inr (.inr lr)))))] ++ bxP L qi qt o90_.2.2 qp) H _ := hW
                      have ho := sp_less eo90_ (at_w hc hyb.1 c3) (a_b hyl) c10
                      refine lv_iload hx hb dL_isBox_418 (lv_at hl 4 rfl) ?_
                      refine lv_if_ne (tgt := 427) hx hb dL_isBox_420 (by decide) (fun c11 => ?_) (fun c11 => ?_)
                      · skip
                        refine lv_iload hx hb dL_isBox_427 (lv_at hl 0 rfl) ?_
                        refine lv_if_eq (tgt := 440) hx hb dL_isBox_429 (by decide) (fun c12 => ?_) (fun c12 => ?_)
                        · skip
                          refine lv_bipush (v := -2) hx hb dL_isBox_440 (by decide) ?_
                          refine lv_icmp_ne (tgt := 466) hx hb dL_isBox_442 (by decide) (fun c13 => ?_) (fun c13 => ?_)
                          · exact absurd (by subst ho; rfl) c13
                          · skip
                            refine lv_iload hx hb dL_isBox_445 (lv_at hl 4 rfl) ?_
                            refine lv_if_eq (tgt := 462) hx hb dL_isBox_447 (by decide) (fun c14 => ?_) (fun c14 => ?_)
                            · exact absurd c14 (by decide)
                            · skip
                              refine lv_aload_n hx hb dL_isBox_450 rfl (lv_at hl 10 rfl) ?_
                              refine lv_iload hx hb dL_isBox_451 (lv_at hl 5 rfl) ?_
                              refine lv_iconst (v := 3) hx hb dL_isBox_453 (by decide) ?_
                              refine vp_callSi (va_Run.run (xrunV (As := [.int yb, .int 3]) (rest := []) ⟨hx, hb, hml, hown, hts⟩ (c_X9_box l D cI cJ cZ cB H.size aX aV aS aSv aL aLr aH yb 3 aVk aK aJ aP aQ aR tm k1 k2 k3 k4 o90_.2.1 sf lc lr vT vG vM vO vN vD vA L qi qt o90_.2.2 qp (by assumption) (by assumption) _ rfl) (cwV 2 hts gL_isBox_X9_box rfl rfl rfl (by decide +kernel) ⟨Nat.le_of_ble_eq_true rfl, Nat.le_of_ble_eq_true rfl⟩) hK hG hW.2.2 (xsubP hW hA [7, 8, 0, 1, 9, 10, 2] rfl (by decide)) (va_recv hK hW.1 (ci := 9) (q0 := 7) rfl rfl) rfl hl.1 rfl (Nat.le_of_ble_eq_true rfl) dL_isBox_454 ⟨Nat.le_of_ble_eq_true rfl, Nat.le_of_ble_eq_true rfl⟩)) (fun r92 hq => ?_)
                              rw [hq, bx_3 (at_w hc hyb.1 c3)]
                              refine lv_iload hx hb dL_isBox_457 (lv_at hl 2 rfl) ?_
                              refine lv_icmp_ne (tgt := 466) hx hb dL_isBox_459 (by decide) (fun c15 => ?_) (fun c15 => ?_)
                              · exact absurd (rfl) c15
                              · skip
                                refine lv_iconst (v := 1) hx hb dL_isBox_462 (by decide) ?_
                                refine lv_goto (tgt := 467) hx hb dL_isBox_463 (by decide) ?_
                                have hW := xW_perm (X' := [(aX, .inr (9, [.ref aV, .ref aVk, .ref aK, .ref aJ, .ref aP, .ref aQ])), (aV, .inr (8, [.ref aS, .ref aL, .ref aH, .ref aR, .int tm, .long k1, .long k2, .long k3, .long k4, .long o90_.2.1])), (aS, .inr (6, [.ref aSv])), (aSv, .inl (cI, 11, .inl sf)), (aL, .inr (2, [.ref aLr, .int lc])), (aLr, .inl (cB, 10, .inr (.inr (.inr (.inr lr))))), (aH, .inr (1, [.int vT, .long vG, .int vM, .int (bi vO), .int vN, .int (bi vD), .int vA])), (aR, .inr (4, [.ref aRd, .ref aRo, .int rc, .int rl, .int rm])), (aRd, .inl (cI, 12, .inl rd)), (aRo, .inl (cI, 12, .inl ro)), (aP, .inr (3, [.ref aPc, .int pl]))]) hW [7, 8, 0, 1, 9, 10, 2, 3, 4, 5, 6] rfl (by decide)
                                exact W.zret (v := 1) hx hb hrt rfl (fun t ht hM => ⟨⟨1, (k1, k2, o90_.2.1, lc, lr, qi, qt, o90_.2.2, qp), rfl, ⟨rfl, jj_B (B := B) (by subst ho; exact hJ) (by omega)⟩, ⟨by rw [ht]; exact hW.1, hW.2.1⟩⟩, hW.2.2.F ht⟩) hW.2.2.2.2 dL_isBox_467 hlocks
                        · exact absurd c12 (by decide)
                      · exact absurd c11 (by decide)
                    · skip
                      refine lv_iconst (v := 1) hx hb dL_isBox_403 (by decide) ?_
                      refine lv_goto (tgt := 408) hx hb dL_isBox_404 (by decide) ?_
                      refine lv_istore (lv' := [(12, .int 1), (11, .int (1 + yl)), (10, .int (qp (bxa lr yb.toNatClampNeg))), (9, .int (qc (bxa lr yb.toNatClampNeg))), (8, .int 1), (7, .int yb), (6, .int yw), (5, .int u38_s0), (4, .int 1), (3, .int lc), (0, .ref aX), (1, .ref b), (2, .int a0)]) hx hb dL_isBox_408 hl (by decide) rfl (fun ls hl => ?_)
                      refine lv_aload_n hx hb dL_isBox_410 rfl (lv_at hl 10 rfl) ?_
                      refine lv_iload hx hb dL_isBox_411 (lv_at hl 5 rfl) ?_
                      refine lv_iload hx hb dL_isBox_413 (lv_at hl 1 rfl) ?_
                      obtain ⟨o93_, eo93_⟩ : ∃ z9, f_X9_spill yb (1 + yl) k5 lc lr qc = z9 := ⟨_, rfl⟩
                      refine xPi (wr := [(aS, .inr (6, [.ref aSv])), (aSv, .inl (cI, 11, .inl sf)), (aH, .inr (1, [.int vT, .long vG, .int vM, .int (bi vO), .int vN, .int (bi vD), .int vA])), (aR, .inr (4, [.ref aRd, .ref aRo, .int rc, .int rl, .int rm])), (aRd, .inl (cI, 12, .inl rd)), (aRo, .inl (cI, 12, .inl ro)), (aP, .inr (3, [.ref aPc, .int pl]))]) hW hA [0, 1, 4, 5] [2, 3, 6, 7, 8, 9, 10] rfl rfl (by decide) (by decide) (by decide) (xrunV (As := [.int yb, .int (1 + yl)]) (rest := []) ⟨hx, hb, hml, hown, hts⟩ (c_X9_spill l D cI cJ cZ cB H.size aX aV aL aLr yb (1 + yl) aVk aK aJ aP aQ aS aH aR tm k1 k2 k3 k4 k5 lc lr L qi qt qc qp (by assumption) (by assumption) o93_ eo93_) (cwV 2 hts gL_isBox_X9_spill rfl rfl rfl (by decide +kernel) ⟨Nat.le_of_ble_eq_true rfl, Nat.le_of_ble_eq_true rfl⟩) hK hG hW.2.2 (xsubP hW hA [0, 1, 4, 5] rfl (by decide)) (va_recv hK hW.1 (ci := 9) (q0 := 0) rfl rfl) rfl hl.1 rfl (Nat.le_of_ble_eq_true rfl) dL_isBox_415 ⟨Nat.le_of_ble_eq_true rfl, Nat.le_of_ble_eq_true rfl⟩) (fun r94 _ H locs hq hW => ?_)
                      rw [hq]
                      have hW : xW D A s.heap ([(aS, .inr (6, [.ref aSv])), (aSv, .inl (cI, 11, .inl sf)), (aH, .inr (1, [.int vT, .long vG, .int vM, .int (bi vO), .int vN, .int (bi vD), .int vA])), (aR, .inr (4, [.ref aRd, .ref aRo, .int rc, .int rl, .int rm])), (aRd, .inl (cI, 12, .inl rd)), (aRo, .inl (cI, 12, .inl ro)), (aP, .inr (3, [.ref aPc, .int pl])), (aX, .inr (9, [.ref aV, .ref aVk, .ref aK, .ref aJ, .ref aP, .ref aQ])), (aV, .inr (8, [.ref aS, .ref aL, .ref aH, .ref aR, .int tm, .long k1, .long k2, .long k3, .long k4, .long o93_.2.1])), (aL, .inr (2, [.ref aLr, .int lc])), (aLr, .inl (cB, 10, .inr (.inr (.inr (.inr lr)))))] ++ bxP L qi qt o93_.2.2 qp) H _ := hW
                      have ho := sp_ok hJ hB eo93_ (at_w hc hyb.1 c3) (a_b hyl) c10
                      refine lv_iload hx hb dL_isBox_418 (lv_at hl 4 rfl) ?_
                      refine lv_if_ne (tgt := 427) hx hb dL_isBox_420 (by decide) (fun c11 => ?_) (fun c11 => ?_)
                      · skip
                        refine lv_iload hx hb dL_isBox_427 (lv_at hl 0 rfl) ?_
                        refine lv_if_eq (tgt := 440) hx hb dL_isBox_429 (by decide) (fun c12 => ?_) (fun c12 => ?_)
                        · exact absurd c12 (by decide)
                        · skip
                          refine lv_iload hx hb dL_isBox_432 (lv_at hl 3 rfl) ?_
                          refine lv_iload hx hb dL_isBox_434 (lv_at hl 1 rfl) ?_
                          refine lv_isub hx hb dL_isBox_436 ?_
                          refine lv_goto (tgt := 442) hx hb dL_isBox_437 (by decide) ?_
                          refine lv_icmp_ne (tgt := 466) hx hb dL_isBox_442 (by decide) (fun c13 => ?_) (fun c13 => ?_)
                          · exact absurd (ho.1) c13
                          · skip
                            refine lv_iload hx hb dL_isBox_445 (lv_at hl 4 rfl) ?_
                            refine lv_if_eq (tgt := 462) hx hb dL_isBox_447 (by decide) (fun c14 => ?_) (fun c14 => ?_)
                            · exact absurd c14 (by decide)
                            · skip
                              refine lv_aload_n hx hb dL_isBox_450 rfl (lv_at hl 10 rfl) ?_
                              refine lv_iload hx hb dL_isBox_451 (lv_at hl 5 rfl) ?_
                              refine lv_iconst (v := 3) hx hb dL_isBox_453 (by decide) ?_
                              refine vp_callSi (va_Run.run (xrunV (As := [.int yb, .int 3]) (rest := []) ⟨hx, hb, hml, hown, hts⟩ (c_X9_box l D cI cJ cZ cB H.size aX aV aS aSv aL aLr aH yb 3 aVk aK aJ aP aQ aR tm k1 k2 k3 k4 o93_.2.1 sf lc lr vT vG vM vO vN vD vA L qi qt o93_.2.2 qp (by assumption) (by assumption) _ rfl) (cwV 2 hts gL_isBox_X9_box rfl rfl rfl (by decide +kernel) ⟨Nat.le_of_ble_eq_true rfl, Nat.le_of_ble_eq_true rfl⟩) hK hG hW.2.2 (xsubP hW hA [7, 8, 0, 1, 9, 10, 2] rfl (by decide)) (va_recv hK hW.1 (ci := 9) (q0 := 7) rfl rfl) rfl hl.1 rfl (Nat.le_of_ble_eq_true rfl) dL_isBox_454 ⟨Nat.le_of_ble_eq_true rfl, Nat.le_of_ble_eq_true rfl⟩)) (fun r95 hq => ?_)
                              rw [hq, bx_3 (at_w hc hyb.1 c3)]
                              refine lv_iload hx hb dL_isBox_457 (lv_at hl 2 rfl) ?_
                              refine lv_icmp_ne (tgt := 466) hx hb dL_isBox_459 (by decide) (fun c15 => ?_) (fun c15 => ?_)
                              · exact absurd (rfl) c15
                              · skip
                                refine lv_iconst (v := 1) hx hb dL_isBox_462 (by decide) ?_
                                refine lv_goto (tgt := 467) hx hb dL_isBox_463 (by decide) ?_
                                have hW := xW_perm (X' := [(aX, .inr (9, [.ref aV, .ref aVk, .ref aK, .ref aJ, .ref aP, .ref aQ])), (aV, .inr (8, [.ref aS, .ref aL, .ref aH, .ref aR, .int tm, .long k1, .long k2, .long k3, .long k4, .long o93_.2.1])), (aS, .inr (6, [.ref aSv])), (aSv, .inl (cI, 11, .inl sf)), (aL, .inr (2, [.ref aLr, .int lc])), (aLr, .inl (cB, 10, .inr (.inr (.inr (.inr lr))))), (aH, .inr (1, [.int vT, .long vG, .int vM, .int (bi vO), .int vN, .int (bi vD), .int vA])), (aR, .inr (4, [.ref aRd, .ref aRo, .int rc, .int rl, .int rm])), (aRd, .inl (cI, 12, .inl rd)), (aRo, .inl (cI, 12, .inl ro)), (aP, .inr (3, [.ref aPc, .int pl]))]) hW [7, 8, 0, 1, 9, 10, 2, 3, 4, 5, 6] rfl (by decide)
                                exact W.zret (v := 1) hx hb hrt rfl (fun t ht hM => ⟨⟨1, (k1, k2, o93_.2.1, lc, lr, qi, qt, o93_.2.2, qp), rfl, ⟨rfl, jj_B ho.2 (by omega)⟩, ⟨by rw [ht]; exact hW.1, hW.2.1⟩⟩, hW.2.2.F ht⟩) hW.2.2.2.2 dL_isBox_467 hlocks
                      · exact absurd c11 (by decide)
              · skip
                refine lv_aload_n hx hb dL_isBox_267 rfl (lv_at hl 8 rfl) ?_
                refine lv_iconst (v := 2) hx hb dL_isBox_268 (by decide) ?_
                refine vp_callSl (va_Run.run (xrunV (As := [.int 2]) (rest := []) ⟨hx, hb, hml, hown, hts⟩ (c_X9_account l D cI cJ cZ cB H.size aX aV aL aLr 2 aVk aK aJ aP aQ aS aH aR tm k1 k2 k3 k4 k5 lc lr L qi qt qc qp (by assumption) (by assumption) _ rfl) (cwV 1 hts gL_isBox_X9_account rfl rfl rfl (by decide +kernel) ⟨Nat.le_of_ble_eq_true rfl, Nat.le_of_ble_eq_true rfl⟩) hK hG hW.2.2 (xsubP hW hA [0, 1, 4, 5] rfl (by decide)) (va_recv hK hW.1 (ci := 9) (q0 := 0) rfl rfl) rfl hl.1 rfl (Nat.le_of_ble_eq_true rfl) dL_isBox_269 ⟨Nat.le_of_ble_eq_true rfl, Nat.le_of_ble_eq_true rfl⟩)) (fun r96 hq => ?_)
                rw [hq, acc_2]
                refine lv_lstore (lv' := [(11, .long k2), (10, .int (qp (bxa lr yb.toNatClampNeg))), (9, .int (qc (bxa lr yb.toNatClampNeg))), (8, .int 1), (7, .int yb), (6, .int yw), (5, .int u38_s0), (4, .int 1), (3, .int lc), (0, .ref aX), (1, .ref b), (2, .int a0)]) hx hb dL_isBox_272 hl (by decide) rfl (fun ls hl => ?_)
                refine lv_iload hx hb dL_isBox_274 (lv_at hl 3 rfl) ?_
                refine lv_if_eq (tgt := 288) hx hb dL_isBox_276 (by decide) (fun c8 => ?_) (fun c8 => ?_)
                · exact absurd c8 (by decide)
                · skip
                  refine lv_iload hx hb dL_isBox_279 (lv_at hl 7 rfl) ?_
                  refine lv_if_eq (tgt := 288) hx hb dL_isBox_281 (by decide) (fun c9 => ?_) (fun c9 => ?_)
                  · exact absurd c9 (by decide)
                  · skip
                    refine lv_iconst (v := 1) hx hb dL_isBox_284 (by decide) ?_
                    refine lv_goto (tgt := 289) hx hb dL_isBox_285 (by decide) ?_
                    refine lv_istore (lv' := [(13, .int 1), (11, .long k2), (10, .int (qp (bxa lr yb.toNatClampNeg))), (9, .int (qc (bxa lr yb.toNatClampNeg))), (8, .int 1), (7, .int yb), (6, .int yw), (5, .int u38_s0), (4, .int 1), (3, .int lc), (0, .ref aX), (1, .ref b), (2, .int a0)]) hx hb dL_isBox_289 hl (by decide) rfl (fun ls hl => ?_)
                    refine lv_aload_n hx hb dL_isBox_291 rfl (lv_at hl 10 rfl) ?_
                    refine lv_iload hx hb dL_isBox_292 (lv_at hl 5 rfl) ?_
                    obtain ⟨o97_, eo97_⟩ : ∃ z9, f_X9_unload yb k2 lc lr vD qc = z9 := ⟨_, rfl⟩
                    refine xPi (wr := [(aS, .inr (6, [.ref aSv])), (aSv, .inl (cI, 11, .inl sf)), (aR, .inr (4, [.ref aRd, .ref aRo, .int rc, .int rl, .int rm])), (aRd, .inl (cI, 12, .inl rd)), (aRo, .inl (cI, 12, .inl ro)), (aP, .inr (3, [.ref aPc, .int pl]))]) hW hA [0, 1, 4, 5, 6] [2, 3, 7, 8, 9, 10] rfl rfl (by decide) (by decide) (by decide) (xrunV (As := [.int yb]) (rest := []) ⟨hx, hb, hml, hown, hts⟩ (c_X9_unload l D cI cJ cZ cB H.size aX aV aL aLr aH yb aVk aK aJ aP aQ aS aR tm k1 k2 k3 k4 k5 lc lr vT vG vM vO vN vD vA L qi qt qc qp (by assumption) (by assumption) o97_ eo97_) (cwV 1 hts gL_isBox_X9_unload rfl rfl rfl (by decide +kernel) ⟨Nat.le_of_ble_eq_true rfl, Nat.le_of_ble_eq_true rfl⟩) hK hG hW.2.2 (xsubP hW hA [0, 1, 4, 5, 6] rfl (by decide)) (va_recv hK hW.1 (ci := 9) (q0 := 0) rfl rfl) rfl hl.1 rfl (Nat.le_of_ble_eq_true rfl) dL_isBox_294 ⟨Nat.le_of_ble_eq_true rfl, Nat.le_of_ble_eq_true rfl⟩) (fun r98 _ H locs hq hW => ?_)
                    rw [hq]
                    have hW : xW D A s.heap ([(aS, .inr (6, [.ref aSv])), (aSv, .inl (cI, 11, .inl sf)), (aR, .inr (4, [.ref aRd, .ref aRo, .int rc, .int rl, .int rm])), (aRd, .inl (cI, 12, .inl rd)), (aRo, .inl (cI, 12, .inl ro)), (aP, .inr (3, [.ref aPc, .int pl])), (aX, .inr (9, [.ref aV, .ref aVk, .ref aK, .ref aJ, .ref aP, .ref aQ])), (aV, .inr (8, [.ref aS, .ref aL, .ref aH, .ref aR, .int tm, .long k1, .long o97_.2.1, .long k3, .long k4, .long k5])), (aL, .inr (2, [.ref aLr, .int o97_.2.2.1])), (aLr, .inl (cB, 10, .inr (.inr (.inr (.inr o97_.2.2.2))))), (aH, .inr (1, [.int vT, .long vG, .int vM, .int (bi vO), .int vN, .int (bi vD), .int vA]))] ++ bxP L qi qt qc qp) H _ := hW
                    have ho := un_ok hJ hB eo97_ (at_w hc hyb.1 c3) c1
                    have hc2 := j_c ho.2.2.2
                    have hr2 := j_r ho.2.2.2
                    refine lv_iload hx hb dL_isBox_297 (lv_at hl 4 rfl) ?_
                    refine lv_if_ne (tgt := 306) hx hb dL_isBox_299 (by decide) (fun c10 => ?_) (fun c10 => ?_)
                    · skip
                      refine lv_iload hx hb dL_isBox_306 (lv_at hl 8 rfl) ?_
                      refine lv_if_eq (tgt := 316) hx hb dL_isBox_308 (by decide) (fun c11 => ?_) (fun c11 => ?_)
                      · exact absurd c11 (by decide)
                      · skip
                        refine lv_iload hx hb dL_isBox_311 (lv_at hl 3 rfl) ?_
                        refine lv_goto (tgt := 318) hx hb dL_isBox_313 (by decide) ?_
                        refine lv_icmp_ne (tgt := 370) hx hb dL_isBox_318 (by decide) (fun c12 => ?_) (fun c12 => ?_)
                        · exact absurd (ho.1) c12
                        · skip
                          refine lv_aload_n hx hb dL_isBox_321 rfl (lv_at hl 10 rfl) ?_
                          refine lv_bipush (v := 12) hx hb dL_isBox_322 (by decide) ?_
                          refine vp_callSi (va_Run.run (xrunV (As := [.int 12]) (rest := []) ⟨hx, hb, hml, hown, hts⟩ (c_X9_van l D cI cJ cZ cB H.size aX aV aS aSv aL aH aR aRo aP 12 aVk aK aJ aQ tm k1 o97_.2.1 k3 k4 k5 sf aLr o97_.2.2.1 vT vG vM vO vN vD vA aRd rc rl rm ro aPc pl (by assumption) _ rfl) (cwV 1 hts gL_isBox_X9_van rfl rfl rfl (by decide +kernel) ⟨Nat.le_of_ble_eq_true rfl, Nat.le_of_ble_eq_true rfl⟩) hK hG hW.2.2 (xsubQ hW hA [6, 7, 0, 1, 8, 10, 2, 4, 5] rfl (by decide)) (va_recv hK hW.1 (ci := 9) (q0 := 6) rfl rfl) rfl hl.1 rfl (Nat.le_of_ble_eq_true rfl) dL_isBox_324 ⟨Nat.le_of_ble_eq_true rfl, Nat.le_of_ble_eq_true rfl⟩)) (fun r99 hq => ?_)
                          rw [hq, van_12]
                          refine lv_iload hx hb dL_isBox_327 (lv_at hl 0 rfl) ?_
                          refine lv_if_eq (tgt := 338) hx hb dL_isBox_329 (by decide) (fun c13 => ?_) (fun c13 => ?_)
                          · exact absurd c13 (by decide)
                          · skip
                            refine lv_iload_n hx hb dL_isBox_332 rfl (lv_at hl 9 rfl) ?_
                            refine lv_iconst (v := 1) hx hb dL_isBox_333 (by decide) ?_
                            refine lv_isub hx hb dL_isBox_334 ?_
                            refine lv_goto (tgt := 339) hx hb dL_isBox_335 (by decide) ?_
                            refine lv_icmp_ne (tgt := 370) hx hb dL_isBox_339 (by decide) (fun c14 => ?_) (fun c14 => ?_)
                            · exact absurd (ho.2.2.1) c14
                            · skip
                              refine lv_aload_n hx hb dL_isBox_342 rfl (lv_at hl 10 rfl) ?_
                              refine lv_iconst (v := 2) hx hb dL_isBox_343 (by decide) ?_
                              refine vp_callSl (va_Run.run (xrunV (As := [.int 2]) (rest := []) ⟨hx, hb, hml, hown, hts⟩ (c_X9_account l D cI cJ cZ cB H.size aX aV aL aLr 2 aVk aK aJ aP aQ aS aH aR tm k1 o97_.2.1 k3 k4 k5 o97_.2.2.1 o97_.2.2.2 L qi qt qc qp (by assumption) (by assumption) _ rfl) (cwV 1 hts gL_isBox_X9_account rfl rfl rfl (by decide +kernel) ⟨Nat.le_of_ble_eq_true rfl, Nat.le_of_ble_eq_true rfl⟩) hK hG hW.2.2 (xsubP hW hA [6, 7, 8, 9] rfl (by decide)) (va_recv hK hW.1 (ci := 9) (q0 := 6) rfl rfl) rfl hl.1 rfl (Nat.le_of_ble_eq_true rfl) dL_isBox_344 ⟨Nat.le_of_ble_eq_true rfl, Nat.le_of_ble_eq_true rfl⟩)) (fun r100 hq => ?_)
                              rw [hq, acc_2]
                              refine lv_lload hx hb dL_isBox_347 (lv_at hl 1 rfl) ?_
                              refine lv_iload hx hb dL_isBox_349 (lv_at hl 0 rfl) ?_
                              refine lv_if_eq (tgt := 359) hx hb dL_isBox_351 (by decide) (fun c15 => ?_) (fun c15 => ?_)
                              · exact absurd c15 (by decide)
                              · skip
                                refine lv_iload hx hb dL_isBox_354 (lv_at hl 3 rfl) ?_
                                refine lv_goto (tgt := 360) hx hb dL_isBox_356 (by decide) ?_
                                refine lv_i2l hx hb dL_isBox_360 rfl ?_
                                refine lv_ladd hx hb dL_isBox_361 ?_
                                refine xlc_ne (tgt := 370) hx hb dL_isBox_362 dL_isBox_363 (by decide) (fun c16 => ?_) (fun c16 => ?_)
                                · exact absurd (ho.2.1) c16
                                · skip
                                  refine lv_iconst (v := 1) hx hb dL_isBox_366 (by decide) ?_
                                  refine lv_goto (tgt := 371) hx hb dL_isBox_367 (by decide) ?_
                                  have hW := xW_perm (X' := [(aX, .inr (9, [.ref aV, .ref aVk, .ref aK, .ref aJ, .ref aP, .ref aQ])), (aV, .inr (8, [.ref aS, .ref aL, .ref aH, .ref aR, .int tm, .long k1, .long o97_.2.1, .long k3, .long k4, .long k5])), (aS, .inr (6, [.ref aSv])), (aSv, .inl (cI, 11, .inl sf)), (aL, .inr (2, [.ref aLr, .int o97_.2.2.1])), (aLr, .inl (cB, 10, .inr (.inr (.inr (.inr o97_.2.2.2))))), (aH, .inr (1, [.int vT, .long vG, .int vM, .int (bi vO), .int vN, .int (bi vD), .int vA])), (aR, .inr (4, [.ref aRd, .ref aRo, .int rc, .int rl, .int rm])), (aRd, .inl (cI, 12, .inl rd)), (aRo, .inl (cI, 12, .inl ro)), (aP, .inr (3, [.ref aPc, .int pl]))]) hW [6, 7, 0, 1, 8, 9, 10, 2, 3, 4, 5] rfl (by decide)
                                  exact W.zret (v := 1) hx hb hrt rfl (fun t ht hM => ⟨⟨1, (k1, o97_.2.1, k5, o97_.2.2.1, o97_.2.2.2, qi, qt, qc, qp), rfl, ⟨rfl, jj_B ho.2.2.2 (by omega)⟩, ⟨by rw [ht]; exact hW.1, hW.2.1⟩⟩, hW.2.2.F ht⟩) hW.2.2.2.2 dL_isBox_371 hlocks
                    · exact absurd c10 (by decide)
            · skip
              refine lv_aload_n hx hb dL_isBox_113 rfl (lv_at hl 9 rfl) ?_
              refine lv_iload_n hx hb dL_isBox_114 rfl (lv_at hl 10 rfl) ?_
              refine lv_iconst (v := 2) hx hb dL_isBox_115 (by decide) ?_
              refine lv_iadd hx hb dL_isBox_116 ?_
              refine lv_ldc hx hb hown w3 dL_isBox_117 ?_
              refine xcell (k := a0 + 2) (n := 2000000) (rest := []) ⟨hx, hb, hml, hown, hts⟩ (cwS 3 hts gL_isBox_L_cell rfl rfl rfl (by decide +kernel) ⟨Nat.le_of_ble_eq_true rfl, Nat.le_of_ble_eq_true rfl⟩) hX hbl hbA hLn hW.2.2 (ck_2 hat) (by decide) hl.1 (Nat.le_of_ble_eq_true rfl) dL_isBox_119 ⟨Nat.le_of_ble_eq_true rfl, Nat.le_of_ble_eq_true rfl⟩ ?_
              obtain ⟨yp, eyp⟩ : ∃ z9, cellf Ln xs (a0 + 2) (2000000 : Int32) = z9 := ⟨_, rfl⟩
              rw [eyp]
              have hyp : 0 ≤ yp.toInt ∧ yp.toInt < 2000000 := cell_b (N := 2000000) (ck_2 hat) (by decide) (by decide) eyp
              refine lv_istore (lv' := [(11, .int yp), (10, .int (qp (bxa lr yb.toNatClampNeg))), (9, .int (qc (bxa lr yb.toNatClampNeg))), (8, .int 1), (7, .int yb), (6, .int yw), (5, .int u38_s0), (4, .int 1), (3, .int lc), (0, .ref aX), (1, .ref b), (2, .int a0)]) hx hb dL_isBox_122 hl (by decide) rfl (fun ls hl => ?_)
              refine lv_aload_n hx hb dL_isBox_124 rfl (lv_at hl 9 rfl) ?_
              refine lv_iconst (v := 1) hx hb dL_isBox_125 (by decide) ?_
              refine vp_callSl (va_Run.run (xrunV (As := [.int 1]) (rest := []) ⟨hx, hb, hml, hown, hts⟩ (c_X9_account l D cI cJ cZ cB H.size aX aV aL aLr 1 aVk aK aJ aP aQ aS aH aR tm k1 k2 k3 k4 k5 lc lr L qi qt qc qp (by assumption) (by assumption) _ rfl) (cwV 1 hts gL_isBox_X9_account rfl rfl rfl (by decide +kernel) ⟨Nat.le_of_ble_eq_true rfl, Nat.le_of_ble_eq_true rfl⟩) hK hG hW.2.2 (xsubP hW hA [0, 1, 4, 5] rfl (by decide)) (va_recv hK hW.1 (ci := 9) (q0 := 0) rfl rfl) rfl hl.1 rfl (Nat.le_of_ble_eq_true rfl) dL_isBox_126 ⟨Nat.le_of_ble_eq_true rfl, Nat.le_of_ble_eq_true rfl⟩)) (fun r101 hq => ?_)
              rw [hq, acc_1]
              refine lv_lstore (lv' := [(12, .long k1), (11, .int yp), (10, .int (qp (bxa lr yb.toNatClampNeg))), (9, .int (qc (bxa lr yb.toNatClampNeg))), (8, .int 1), (7, .int yb), (6, .int yw), (5, .int u38_s0), (4, .int 1), (3, .int lc), (0, .ref aX), (1, .ref b), (2, .int a0)]) hx hb dL_isBox_129 hl (by decide) rfl (fun ls hl => ?_)
              refine lv_iload_n hx hb dL_isBox_131 rfl (lv_at hl 9 rfl) ?_
              refine lv_bipush (v := 10) hx hb dL_isBox_132 (by decide) ?_
              refine lv_icmp_ge (tgt := 146) hx hb dL_isBox_134 (by decide) (fun c7 => ?_) (fun c7 => ?_)
              · skip
                refine lv_iconst (v := 0) hx hb dL_isBox_146 (by decide) ?_
                refine lv_istore (lv' := [(14, .int 0), (12, .long k1), (11, .int yp), (10, .int (qp (bxa lr yb.toNatClampNeg))), (9, .int (qc (bxa lr yb.toNatClampNeg))), (8, .int 1), (7, .int yb), (6, .int yw), (5, .int u38_s0), (4, .int 1), (3, .int lc), (0, .ref aX), (1, .ref b), (2, .int a0)]) hx hb dL_isBox_147 hl (by decide) rfl (fun ls hl => ?_)
                refine lv_aload_n hx hb dL_isBox_149 rfl (lv_at hl 11 rfl) ?_
                refine lv_iconst (v := 1) hx hb dL_isBox_150 (by decide) ?_
                refine lv_aload_n hx hb dL_isBox_151 rfl (lv_at hl 12 rfl) ?_
                refine lv_iload_n hx hb dL_isBox_152 rfl (lv_at hl 13 rfl) ?_
                refine lv_iconst (v := 3) hx hb dL_isBox_153 (by decide) ?_
                refine lv_iadd hx hb dL_isBox_154 ?_
                refine lv_bipush (v := 20) hx hb dL_isBox_155 (by decide) ?_
                refine xcell (k := a0 + 3) (n := 20) (rest := [.int 1, .ref aX]) ⟨hx, hb, hml, hown, hts⟩ (cwS 3 hts gL_isBox_L_cell rfl rfl rfl (by decide +kernel) ⟨Nat.le_of_ble_eq_true rfl, Nat.le_of_ble_eq_true rfl⟩) hX hbl hbA hLn hW.2.2 (ck_3 hat) (by decide) hl.1 (Nat.le_of_ble_eq_true rfl) dL_isBox_157 ⟨Nat.le_of_ble_eq_true rfl, Nat.le_of_ble_eq_true rfl⟩ ?_
                obtain ⟨yi, eyi⟩ : ∃ z9, cellf Ln xs (a0 + 3) (20 : Int32) = z9 := ⟨_, rfl⟩
                rw [eyi]
                have hyi : 0 ≤ yi.toInt ∧ yi.toInt < 20 := cell_b (N := 20) (ck_3 hat) (by decide) (by decide) eyi
                refine lv_iadd hx hb dL_isBox_160 ?_
                refine lv_bipush (v := 7) hx hb dL_isBox_161 (by decide) ?_
                refine lv_iload hx hb dL_isBox_163 (lv_at hl 2 rfl) ?_
                obtain ⟨o102_, eo102_⟩ : ∃ z9, f_X9_load (1 + yi) 7 yp k1 lc lr vD qi qt qc qp = z9 := ⟨_, rfl⟩
                refine xPi (wr := [(aS, .inr (6, [.ref aSv])), (aSv, .inl (cI, 11, .inl sf)), (aR, .inr (4, [.ref aRd, .ref aRo, .int rc, .int rl, .int rm])), (aRd, .inl (cI, 12, .inl rd)), (aRo, .inl (cI, 12, .inl ro)), (aP, .inr (3, [.ref aPc, .int pl]))]) hW hA [0, 1, 4, 5, 6] [2, 3, 7, 8, 9, 10] rfl rfl (by decide) (by decide) (by decide) (xrunV (As := [.int (1 + yi), .int 7, .int yp]) (rest := []) ⟨hx, hb, hml, hown, hts⟩ (c_X9_load l D cI cJ cZ cB H.size aX aV aL aLr aH (1 + yi) 7 yp aVk aK aJ aP aQ aS aR tm k1 k2 k3 k4 k5 lc lr vT vG vM vO vN vD vA L qi qt qc qp (by assumption) (by assumption) o102_ eo102_) (cwV 3 hts gL_isBox_X9_load rfl rfl rfl (by decide +kernel) ⟨Nat.le_of_ble_eq_true rfl, Nat.le_of_ble_eq_true rfl⟩) hK hG hW.2.2 (xsubP hW hA [0, 1, 4, 5, 6] rfl (by decide)) (va_recv hK hW.1 (ci := 9) (q0 := 0) rfl rfl) rfl hl.1 rfl (Nat.le_of_ble_eq_true rfl) dL_isBox_165 ⟨Nat.le_of_ble_eq_true rfl, Nat.le_of_ble_eq_true rfl⟩) (fun r103 _ H locs hq hW => ?_)
                rw [hq]
                have hW : xW D A s.heap ([(aS, .inr (6, [.ref aSv])), (aSv, .inl (cI, 11, .inl sf)), (aR, .inr (4, [.ref aRd, .ref aRo, .int rc, .int rl, .int rm])), (aRd, .inl (cI, 12, .inl rd)), (aRo, .inl (cI, 12, .inl ro)), (aP, .inr (3, [.ref aPc, .int pl])), (aX, .inr (9, [.ref aV, .ref aVk, .ref aK, .ref aJ, .ref aP, .ref aQ])), (aV, .inr (8, [.ref aS, .ref aL, .ref aH, .ref aR, .int tm, .long o102_.2.1, .long k2, .long k3, .long k4, .long k5])), (aL, .inr (2, [.ref aLr, .int o102_.2.2.1])), (aLr, .inl (cB, 10, .inr (.inr (.inr (.inr lr))))), (aH, .inr (1, [.int vT, .long vG, .int vM, .int (bi vO), .int vN, .int (bi vD), .int vA]))] ++ bxP L o102_.2.2.2.1 o102_.2.2.2.2.1 o102_.2.2.2.2.2.1 o102_.2.2.2.2.2.2) H _ := hW
                have ho := ld_full eo102_ (i_b hyi) (p_b hyp) c7
                have hc2 : okC o102_.2.2.1 10 := by rw [ho]; exact hc
                refine lv_iload_n hx hb dL_isBox_168 rfl (lv_at hl 10 rfl) ?_
                refine lv_bipush (v := 10) hx hb dL_isBox_169 (by decide) ?_
                refine lv_icmp_ne (tgt := 179) hx hb dL_isBox_171 (by decide) (fun c8 => ?_) (fun c8 => ?_)
                · exact absurd (n10_t hc c7) c8
                · skip
                  refine lv_bipush (v := -4) hx hb dL_isBox_174 (by decide) ?_
                  refine lv_goto (tgt := 190) hx hb dL_isBox_176 (by decide) ?_
                  refine lv_icmp_ne (tgt := 259) hx hb dL_isBox_190 (by decide) (fun c9 => ?_) (fun c9 => ?_)
                  · exact absurd (by subst ho; rfl) c9
                  · skip
                    refine lv_aload_n hx hb dL_isBox_193 rfl (lv_at hl 11 rfl) ?_
                    refine lv_iconst (v := 1) hx hb dL_isBox_194 (by decide) ?_
                    refine vp_callSl (va_Run.run (xrunV (As := [.int 1]) (rest := []) ⟨hx, hb, hml, hown, hts⟩ (c_X9_account l D cI cJ cZ cB H.size aX aV aL aLr 1 aVk aK aJ aP aQ aS aH aR tm o102_.2.1 k2 k3 k4 k5 o102_.2.2.1 lr L o102_.2.2.2.1 o102_.2.2.2.2.1 o102_.2.2.2.2.2.1 o102_.2.2.2.2.2.2 (by assumption) (by assumption) _ rfl) (cwV 1 hts gL_isBox_X9_account rfl rfl rfl (by decide +kernel) ⟨Nat.le_of_ble_eq_true rfl, Nat.le_of_ble_eq_true rfl⟩) hK hG hW.2.2 (xsubP hW hA [6, 7, 8, 9] rfl (by decide)) (va_recv hK hW.1 (ci := 9) (q0 := 6) rfl rfl) rfl hl.1 rfl (Nat.le_of_ble_eq_true rfl) dL_isBox_195 ⟨Nat.le_of_ble_eq_true rfl, Nat.le_of_ble_eq_true rfl⟩)) (fun r104 hq => ?_)
                    rw [hq, acc_1]
                    refine lv_lload hx hb dL_isBox_198 (lv_at hl 1 rfl) ?_
                    refine lv_iload hx hb dL_isBox_200 (lv_at hl 0 rfl) ?_
                    refine lv_if_eq (tgt := 210) hx hb dL_isBox_202 (by decide) (fun c10 => ?_) (fun c10 => ?_)
                    · skip
                      refine lv_iconst (v := 0) hx hb dL_isBox_210 (by decide) ?_
                      refine lv_i2l hx hb dL_isBox_211 rfl ?_
                      refine lv_ladd hx hb dL_isBox_212 ?_
                      refine xlc_ne (tgt := 259) hx hb dL_isBox_213 dL_isBox_214 (by decide) (fun c11 => ?_) (fun c11 => ?_)
                      · exact absurd (by subst ho; exact k_0) c11
                      · skip
                        refine lv_iload hx hb dL_isBox_217 (lv_at hl 0 rfl) ?_
                        refine lv_if_eq (tgt := 255) hx hb dL_isBox_219 (by decide) (fun c12 => ?_) (fun c12 => ?_)
                        · skip
                          refine lv_iconst (v := 1) hx hb dL_isBox_255 (by decide) ?_
                          refine lv_goto (tgt := 260) hx hb dL_isBox_256 (by decide) ?_
                          have hW := xW_perm (X' := [(aX, .inr (9, [.ref aV, .ref aVk, .ref aK, .ref aJ, .ref aP, .ref aQ])), (aV, .inr (8, [.ref aS, .ref aL, .ref aH, .ref aR, .int tm, .long o102_.2.1, .long k2, .long k3, .long k4, .long k5])), (aS, .inr (6, [.ref aSv])), (aSv, .inl (cI, 11, .inl sf)), (aL, .inr (2, [.ref aLr, .int o102_.2.2.1])), (aLr, .inl (cB, 10, .inr (.inr (.inr (.inr lr))))), (aH, .inr (1, [.int vT, .long vG, .int vM, .int (bi vO), .int vN, .int (bi vD), .int vA])), (aR, .inr (4, [.ref aRd, .ref aRo, .int rc, .int rl, .int rm])), (aRd, .inl (cI, 12, .inl rd)), (aRo, .inl (cI, 12, .inl ro)), (aP, .inr (3, [.ref aPc, .int pl]))]) hW [6, 7, 0, 1, 8, 9, 10, 2, 3, 4, 5] rfl (by decide)
                          exact W.zret (v := 1) hx hb hrt rfl (fun t ht hM => ⟨⟨1, (o102_.2.1, k2, k5, o102_.2.2.1, lr, o102_.2.2.2.1, o102_.2.2.2.2.1, o102_.2.2.2.2.2.1, o102_.2.2.2.2.2.2), rfl, ⟨rfl, jj_B (B := B) (by subst ho; exact hJ) (by omega)⟩, ⟨by rw [ht]; exact hW.1, hW.2.1⟩⟩, hW.2.2.F ht⟩) hW.2.2.2.2 dL_isBox_260 hlocks
                        · exact absurd c12 (by decide)
                    · exact absurd c10 (by decide)
              · skip
                refine lv_iload hx hb dL_isBox_137 (lv_at hl 8 rfl) ?_
                refine lv_if_eq (tgt := 146) hx hb dL_isBox_139 (by decide) (fun c8 => ?_) (fun c8 => ?_)
                · exact absurd c8 (by decide)
                · skip
                  refine lv_iconst (v := 1) hx hb dL_isBox_142 (by decide) ?_
                  refine lv_goto (tgt := 147) hx hb dL_isBox_143 (by decide) ?_
                  refine lv_istore (lv' := [(14, .int 1), (12, .long k1), (11, .int yp), (10, .int (qp (bxa lr yb.toNatClampNeg))), (9, .int (qc (bxa lr yb.toNatClampNeg))), (8, .int 1), (7, .int yb), (6, .int yw), (5, .int u38_s0), (4, .int 1), (3, .int lc), (0, .ref aX), (1, .ref b), (2, .int a0)]) hx hb dL_isBox_147 hl (by decide) rfl (fun ls hl => ?_)
                  refine lv_aload_n hx hb dL_isBox_149 rfl (lv_at hl 11 rfl) ?_
                  refine lv_iconst (v := 1) hx hb dL_isBox_150 (by decide) ?_
                  refine lv_aload_n hx hb dL_isBox_151 rfl (lv_at hl 12 rfl) ?_
                  refine lv_iload_n hx hb dL_isBox_152 rfl (lv_at hl 13 rfl) ?_
                  refine lv_iconst (v := 3) hx hb dL_isBox_153 (by decide) ?_
                  refine lv_iadd hx hb dL_isBox_154 ?_
                  refine lv_bipush (v := 20) hx hb dL_isBox_155 (by decide) ?_
                  refine xcell (k := a0 + 3) (n := 20) (rest := [.int 1, .ref aX]) ⟨hx, hb, hml, hown, hts⟩ (cwS 3 hts gL_isBox_L_cell rfl rfl rfl (by decide +kernel) ⟨Nat.le_of_ble_eq_true rfl, Nat.le_of_ble_eq_true rfl⟩) hX hbl hbA hLn hW.2.2 (ck_3 hat) (by decide) hl.1 (Nat.le_of_ble_eq_true rfl) dL_isBox_157 ⟨Nat.le_of_ble_eq_true rfl, Nat.le_of_ble_eq_true rfl⟩ ?_
                  obtain ⟨yi, eyi⟩ : ∃ z9, cellf Ln xs (a0 + 3) (20 : Int32) = z9 := ⟨_, rfl⟩
                  rw [eyi]
                  have hyi : 0 ≤ yi.toInt ∧ yi.toInt < 20 := cell_b (N := 20) (ck_3 hat) (by decide) (by decide) eyi
                  refine lv_iadd hx hb dL_isBox_160 ?_
                  refine lv_bipush (v := 7) hx hb dL_isBox_161 (by decide) ?_
                  refine lv_iload hx hb dL_isBox_163 (lv_at hl 2 rfl) ?_
                  obtain ⟨o105_, eo105_⟩ : ∃ z9, f_X9_load (1 + yi) 7 yp k1 lc lr vD qi qt qc qp = z9 := ⟨_, rfl⟩
                  refine xPi (wr := [(aS, .inr (6, [.ref aSv])), (aSv, .inl (cI, 11, .inl sf)), (aR, .inr (4, [.ref aRd, .ref aRo, .int rc, .int rl, .int rm])), (aRd, .inl (cI, 12, .inl rd)), (aRo, .inl (cI, 12, .inl ro)), (aP, .inr (3, [.ref aPc, .int pl]))]) hW hA [0, 1, 4, 5, 6] [2, 3, 7, 8, 9, 10] rfl rfl (by decide) (by decide) (by decide) (xrunV (As := [.int (1 + yi), .int 7, .int yp]) (rest := []) ⟨hx, hb, hml, hown, hts⟩ (c_X9_load l D cI cJ cZ cB H.size aX aV aL aLr aH (1 + yi) 7 yp aVk aK aJ aP aQ aS aR tm k1 k2 k3 k4 k5 lc lr vT vG vM vO vN vD vA L qi qt qc qp (by assumption) (by assumption) o105_ eo105_) (cwV 3 hts gL_isBox_X9_load rfl rfl rfl (by decide +kernel) ⟨Nat.le_of_ble_eq_true rfl, Nat.le_of_ble_eq_true rfl⟩) hK hG hW.2.2 (xsubP hW hA [0, 1, 4, 5, 6] rfl (by decide)) (va_recv hK hW.1 (ci := 9) (q0 := 0) rfl rfl) rfl hl.1 rfl (Nat.le_of_ble_eq_true rfl) dL_isBox_165 ⟨Nat.le_of_ble_eq_true rfl, Nat.le_of_ble_eq_true rfl⟩) (fun r106 _ H locs hq hW => ?_)
                  rw [hq]
                  have hW : xW D A s.heap ([(aS, .inr (6, [.ref aSv])), (aSv, .inl (cI, 11, .inl sf)), (aR, .inr (4, [.ref aRd, .ref aRo, .int rc, .int rl, .int rm])), (aRd, .inl (cI, 12, .inl rd)), (aRo, .inl (cI, 12, .inl ro)), (aP, .inr (3, [.ref aPc, .int pl])), (aX, .inr (9, [.ref aV, .ref aVk, .ref aK, .ref aJ, .ref aP, .ref aQ])), (aV, .inr (8, [.ref aS, .ref aL, .ref aH, .ref aR, .int tm, .long o105_.2.1, .long k2, .long k3, .long k4, .long k5])), (aL, .inr (2, [.ref aLr, .int o105_.2.2.1])), (aLr, .inl (cB, 10, .inr (.inr (.inr (.inr lr))))), (aH, .inr (1, [.int vT, .long vG, .int vM, .int (bi vO), .int vN, .int (bi vD), .int vA]))] ++ bxP L o105_.2.2.2.1 o105_.2.2.2.2.1 o105_.2.2.2.2.2.1 o105_.2.2.2.2.2.2) H _ := hW
                  have ho := ld_ok hJ hB eo105_ (i_b hyi) (by decide) (p_b hyp) c7 (vD_1 c1)
                  have hc2 := j_c ho.2.2.2.2.2.2.2
                  refine lv_iload_n hx hb dL_isBox_168 rfl (lv_at hl 10 rfl) ?_
                  refine lv_bipush (v := 10) hx hb dL_isBox_169 (by decide) ?_
                  refine lv_icmp_ne (tgt := 179) hx hb dL_isBox_171 (by decide) (fun c9 => ?_) (fun c9 => ?_)
                  · skip
                    refine lv_iload hx hb dL_isBox_179 (lv_at hl 9 rfl) ?_
                    refine lv_if_eq (tgt := 188) hx hb dL_isBox_181 (by decide) (fun c10 => ?_) (fun c10 => ?_)
                    · exact absurd c10 (by decide)
                    · skip
                      refine lv_iload_n hx hb dL_isBox_184 rfl (lv_at hl 10 rfl) ?_
                      refine lv_goto (tgt := 190) hx hb dL_isBox_185 (by decide) ?_
                      refine lv_icmp_ne (tgt := 259) hx hb dL_isBox_190 (by decide) (fun c11 => ?_) (fun c11 => ?_)
                      · exact absurd (ho.1) c11
                      · skip
                        refine lv_aload_n hx hb dL_isBox_193 rfl (lv_at hl 11 rfl) ?_
                        refine lv_iconst (v := 1) hx hb dL_isBox_194 (by decide) ?_
                        refine vp_callSl (va_Run.run (xrunV (As := [.int 1]) (rest := []) ⟨hx, hb, hml, hown, hts⟩ (c_X9_account l D cI cJ cZ cB H.size aX aV aL aLr 1 aVk aK aJ aP aQ aS aH aR tm o105_.2.1 k2 k3 k4 k5 o105_.2.2.1 lr L o105_.2.2.2.1 o105_.2.2.2.2.1 o105_.2.2.2.2.2.1 o105_.2.2.2.2.2.2 (by assumption) (by assumption) _ rfl) (cwV 1 hts gL_isBox_X9_account rfl rfl rfl (by decide +kernel) ⟨Nat.le_of_ble_eq_true rfl, Nat.le_of_ble_eq_true rfl⟩) hK hG hW.2.2 (xsubP hW hA [6, 7, 8, 9] rfl (by decide)) (va_recv hK hW.1 (ci := 9) (q0 := 6) rfl rfl) rfl hl.1 rfl (Nat.le_of_ble_eq_true rfl) dL_isBox_195 ⟨Nat.le_of_ble_eq_true rfl, Nat.le_of_ble_eq_true rfl⟩)) (fun r107 hq => ?_)
                        rw [hq, acc_1]
                        refine lv_lload hx hb dL_isBox_198 (lv_at hl 1 rfl) ?_
                        refine lv_iload hx hb dL_isBox_200 (lv_at hl 0 rfl) ?_
                        refine lv_if_eq (tgt := 210) hx hb dL_isBox_202 (by decide) (fun c12 => ?_) (fun c12 => ?_)
                        · exact absurd c12 (by decide)
                        · skip
                          refine lv_iload hx hb dL_isBox_205 (lv_at hl 2 rfl) ?_
                          refine lv_goto (tgt := 211) hx hb dL_isBox_207 (by decide) ?_
                          refine lv_i2l hx hb dL_isBox_211 rfl ?_
                          refine lv_ladd hx hb dL_isBox_212 ?_
                          refine xlc_ne (tgt := 259) hx hb dL_isBox_213 dL_isBox_214 (by decide) (fun c13 => ?_) (fun c13 => ?_)
                          · exact absurd (ho.2.1) c13
                          · skip
                            refine lv_iload hx hb dL_isBox_217 (lv_at hl 0 rfl) ?_
                            refine lv_if_eq (tgt := 255) hx hb dL_isBox_219 (by decide) (fun c14 => ?_) (fun c14 => ?_)
                            · exact absurd c14 (by decide)
                            · skip
                              refine lv_aload_n hx hb dL_isBox_222 rfl (lv_at hl 11 rfl) ?_
                              refine lv_iload_n hx hb dL_isBox_223 rfl (lv_at hl 10 rfl) ?_
                              refine lv_iconst (v := 2) hx hb dL_isBox_224 (by decide) ?_
                              refine vp_callSi (va_Run.run (xrunV (As := [.int lc, .int 2]) (rest := []) ⟨hx, hb, hml, hown, hts⟩ (c_X9_box l D cI cJ cZ cB H.size aX aV aS aSv aL aLr aH lc 2 aVk aK aJ aP aQ aR tm o105_.2.1 k2 k3 k4 k5 sf o105_.2.2.1 lr vT vG vM vO vN vD vA L o105_.2.2.2.1 o105_.2.2.2.2.1 o105_.2.2.2.2.2.1 o105_.2.2.2.2.2.2 (by assumption) (by assumption) _ rfl) (cwV 2 hts gL_isBox_X9_box rfl rfl rfl (by decide +kernel) ⟨Nat.le_of_ble_eq_true rfl, Nat.le_of_ble_eq_true rfl⟩) hK hG hW.2.2 (xsubP hW hA [6, 7, 0, 1, 8, 9, 10] rfl (by decide)) (va_recv hK hW.1 (ci := 9) (q0 := 6) rfl rfl) rfl hl.1 rfl (Nat.le_of_ble_eq_true rfl) dL_isBox_225 ⟨Nat.le_of_ble_eq_true rfl, Nat.le_of_ble_eq_true rfl⟩)) (fun r108 hq => ?_)
                              rw [hq, bx_2 (ho.2.2.2.1)]
                              refine lv_iload hx hb dL_isBox_228 (lv_at hl 2 rfl) ?_
                              refine lv_icmp_ne (tgt := 259) hx hb dL_isBox_230 (by decide) (fun c15 => ?_) (fun c15 => ?_)
                              · exact absurd (ho.2.2.2.2.1) c15
                              · skip
                                refine lv_aload_n hx hb dL_isBox_233 rfl (lv_at hl 11 rfl) ?_
                                refine lv_iload_n hx hb dL_isBox_234 rfl (lv_at hl 10 rfl) ?_
                                refine lv_iconst (v := 3) hx hb dL_isBox_235 (by decide) ?_
                                refine vp_callSi (va_Run.run (xrunV (As := [.int lc, .int 3]) (rest := []) ⟨hx, hb, hml, hown, hts⟩ (c_X9_box l D cI cJ cZ cB H.size aX aV aS aSv aL aLr aH lc 3 aVk aK aJ aP aQ aR tm o105_.2.1 k2 k3 k4 k5 sf o105_.2.2.1 lr vT vG vM vO vN vD vA L o105_.2.2.2.1 o105_.2.2.2.2.1 o105_.2.2.2.2.2.1 o105_.2.2.2.2.2.2 (by assumption) (by assumption) _ rfl) (cwV 2 hts gL_isBox_X9_box rfl rfl rfl (by decide +kernel) ⟨Nat.le_of_ble_eq_true rfl, Nat.le_of_ble_eq_true rfl⟩) hK hG hW.2.2 (xsubP hW hA [6, 7, 0, 1, 8, 9, 10] rfl (by decide)) (va_recv hK hW.1 (ci := 9) (q0 := 6) rfl rfl) rfl hl.1 rfl (Nat.le_of_ble_eq_true rfl) dL_isBox_236 ⟨Nat.le_of_ble_eq_true rfl, Nat.le_of_ble_eq_true rfl⟩)) (fun r109 hq => ?_)
                                rw [hq, bx_3 (ho.2.2.2.1)]
                                refine lv_iload hx hb dL_isBox_239 (lv_at hl 2 rfl) ?_
                                refine lv_icmp_ne (tgt := 259) hx hb dL_isBox_241 (by decide) (fun c16 => ?_) (fun c16 => ?_)
                                · exact absurd (ho.2.2.2.2.2.1) c16
                                · skip
                                  refine lv_aload_n hx hb dL_isBox_244 rfl (lv_at hl 11 rfl) ?_
                                  refine lv_iload_n hx hb dL_isBox_245 rfl (lv_at hl 10 rfl) ?_
                                  refine lv_iconst (v := 1) hx hb dL_isBox_246 (by decide) ?_
                                  refine vp_callSi (va_Run.run (xrunV (As := [.int lc, .int 1]) (rest := []) ⟨hx, hb, hml, hown, hts⟩ (c_X9_box l D cI cJ cZ cB H.size aX aV aS aSv aL aLr aH lc 1 aVk aK aJ aP aQ aR tm o105_.2.1 k2 k3 k4 k5 sf o105_.2.2.1 lr vT vG vM vO vN vD vA L o105_.2.2.2.1 o105_.2.2.2.2.1 o105_.2.2.2.2.2.1 o105_.2.2.2.2.2.2 (by assumption) (by assumption) _ rfl) (cwV 2 hts gL_isBox_X9_box rfl rfl rfl (by decide +kernel) ⟨Nat.le_of_ble_eq_true rfl, Nat.le_of_ble_eq_true rfl⟩) hK hG hW.2.2 (xsubP hW hA [6, 7, 0, 1, 8, 9, 10] rfl (by decide)) (va_recv hK hW.1 (ci := 9) (q0 := 6) rfl rfl) rfl hl.1 rfl (Nat.le_of_ble_eq_true rfl) dL_isBox_247 ⟨Nat.le_of_ble_eq_true rfl, Nat.le_of_ble_eq_true rfl⟩)) (fun r110 hq => ?_)
                                  rw [hq, bx_1 (ho.2.2.2.1)]
                                  refine lv_bipush (v := 7) hx hb dL_isBox_250 (by decide) ?_
                                  refine lv_icmp_ne (tgt := 259) hx hb dL_isBox_252 (by decide) (fun c17 => ?_) (fun c17 => ?_)
                                  · exact absurd (ho.2.2.2.2.2.2.1) c17
                                  · skip
                                    refine lv_iconst (v := 1) hx hb dL_isBox_255 (by decide) ?_
                                    refine lv_goto (tgt := 260) hx hb dL_isBox_256 (by decide) ?_
                                    have hW := xW_perm (X' := [(aX, .inr (9, [.ref aV, .ref aVk, .ref aK, .ref aJ, .ref aP, .ref aQ])), (aV, .inr (8, [.ref aS, .ref aL, .ref aH, .ref aR, .int tm, .long o105_.2.1, .long k2, .long k3, .long k4, .long k5])), (aS, .inr (6, [.ref aSv])), (aSv, .inl (cI, 11, .inl sf)), (aL, .inr (2, [.ref aLr, .int o105_.2.2.1])), (aLr, .inl (cB, 10, .inr (.inr (.inr (.inr lr))))), (aH, .inr (1, [.int vT, .long vG, .int vM, .int (bi vO), .int vN, .int (bi vD), .int vA])), (aR, .inr (4, [.ref aRd, .ref aRo, .int rc, .int rl, .int rm])), (aRd, .inl (cI, 12, .inl rd)), (aRo, .inl (cI, 12, .inl ro)), (aP, .inr (3, [.ref aPc, .int pl]))]) hW [6, 7, 0, 1, 8, 9, 10, 2, 3, 4, 5] rfl (by decide)
                                    exact W.zret (v := 1) hx hb hrt rfl (fun t ht hM => ⟨⟨1, (o105_.2.1, k2, k5, o105_.2.2.1, lr, o105_.2.2.2.1, o105_.2.2.2.2.1, o105_.2.2.2.2.2.1, o105_.2.2.2.2.2.2), rfl, ⟨rfl, jj_B ho.2.2.2.2.2.2.2 (by omega)⟩, ⟨by rw [ht]; exact hW.1, hW.2.1⟩⟩, hW.2.2.F ht⟩) hW.2.2.2.2 dL_isBox_260 hlocks
                  · exact absurd c9 (n10_f c7)
    refine lv_if_le (tgt := 37) hx hb dL_isBox_30 (by decide) (fun c2 => ?_) (fun c2 => ?_)
    · skip
      refine lv_iconst (v := 0) hx hb dL_isBox_37 (by decide) ?_
      exact hJ38 ((0 : Int32)) _ _ _ (by rw [if_pos c2]) hW (lv_sub hl [0, 1, 2, 3, 4] rfl)
    · skip
      refine lv_iconst (v := 1) hx hb dL_isBox_33 (by decide) ?_
      refine lv_goto (tgt := 38) hx hb dL_isBox_34 (by decide) ?_
      exact hJ38 ((1 : Int32)) _ _ _ (by rw [if_neg c2]) hW (lv_sub hl [0, 1, 2, 3, 4] rfl)
