set_option maxHeartbeats 4000000 in
set_option maxRecDepth 100000 in
theorem c_L_isSold (l : Launch) (D : va_G) (cI cJ cZ cB : ClassId) (sz : Nat) (aX : Nat) (aV : Nat) (aS : Nat) (aSv : Nat) (aL : Nat) (aLr : Nat) (aH : Nat) (aR : Nat) (aRd : Nat) (aRo : Nat) (aP : Nat) (a0 : Int32) (aVk : Nat) (aK : Nat) (aJ : Nat) (aQ : Nat) (tm : Int32) (k1 : Int64) (k2 : Int64) (k3 : Int64) (k4 : Int64) (k5 : Int64) (sf : Nat → Int32) (lc : Int32) (lr : Nat → Option Nat) (vT : Int32) (vG : Int64) (vM : Int32) (vO : Bool) (vN : Int32) (vD : Bool) (vA : Int32) (rc : Int32) (rl : Int32) (rm : Int32) (rd : Nat → Int32) (ro : Nat → Int32) (aPc : Nat) (pl : Int32) (L : List Nat) (qi : Nat → Int32) (qt : Nat → Int32) (qc : Nat → Int32) (qp : Nat → Int32) (B : Int) (Tm : Int) (hJ : JJ B Tm L lc lr rc rl rm rd ro sf vT vG vM vO vN vD vA tm k1 k2 k3 k4 k5 qi qt qc qp) (hB : B ≤ 100000000) (hTm : Tm ≤ 1000) (ha : 1 ≤ a0.toInt ∧ a0.toInt ≤ 50000000) : Met l yL_isSold wsL_isSold ({ frames := 5, cells := 2, slots := 20, locals := 105 } : Room) (xPre D (xT cI cJ cZ cB) [.ref aX, .int a0] ([(aX, .inr (9, [.ref aV, .ref aVk, .ref aK, .ref aJ, .ref aP, .ref aQ])), (aV, .inr (8, [.ref aS, .ref aL, .ref aH, .ref aR, .int tm, .long k1, .long k2, .long k3, .long k4, .long k5])), (aS, .inr (6, [.ref aSv])), (aSv, .inl (cI, 11, .inl sf)), (aL, .inr (2, [.ref aLr, .int lc])), (aLr, .inl (cB, 10, .inr (.inr (.inr (.inr lr))))), (aH, .inr (1, [.int vT, .long vG, .int vM, .int (bi vO), .int vN, .int (bi vD), .int vA])), (aR, .inr (4, [.ref aRd, .ref aRo, .int rc, .int rl, .int rm])), (aRd, .inl (cI, 12, .inl rd)), (aRo, .inl (cI, 12, .inl ro)), (aP, .inr (3, [.ref aPc, .int pl]))] ++ bxP L qi qt qc qp) sz) ((fun A0 => va_Qi (fun r (u : Int64 × (Nat → Int32) × (Nat → Int32)) => r = 1 ∧ JJ B Tm L lc lr rc rl rm rd ro sf vT vG vM vO vN vD vA tm k1 k2 k3 u.1 k5 qi qt u.2.1 u.2.2) (fun u t => xB D (([(aX, .inr (9, [.ref aV, .ref aVk, .ref aK, .ref aJ, .ref aP, .ref aQ])), (aV, .inr (8, [.ref aS, .ref aL, .ref aH, .ref aR, .int tm, .long k1, .long k2, .long k3, .long u.1, .long k5])), (aS, .inr (6, [.ref aSv])), (aSv, .inl (cI, 11, .inl sf)), (aL, .inr (2, [.ref aLr, .int lc])), (aLr, .inl (cB, 10, .inr (.inr (.inr (.inr lr))))), (aH, .inr (1, [.int vT, .long vG, .int vM, .int (bi vO), .int vN, .int (bi vD), .int vA])), (aR, .inr (4, [.ref aRd, .ref aRo, .int rc, .int rl, .int rm])), (aRd, .inl (cI, 12, .inl rd)), (aRo, .inl (cI, 12, .inl ro)), (aP, .inr (3, [.ref aPc, .int pl]))] : va_W) ++ bxP L qi qt u.2.1 u.2.2) A0 t) A0) (va_A ([(aX, .inr (9, [.ref aV, .ref aVk, .ref aK, .ref aJ, .ref aP, .ref aQ])), (aV, .inr (8, [.ref aS, .ref aL, .ref aH, .ref aR, .int tm, .long k1, .long k2, .long k3, .long k4, .long k5])), (aS, .inr (6, [.ref aSv])), (aSv, .inl (cI, 11, .inl sf)), (aL, .inr (2, [.ref aLr, .int lc])), (aLr, .inl (cB, 10, .inr (.inr (.inr (.inr lr))))), (aH, .inr (1, [.int vT, .long vG, .int vM, .int (bi vO), .int vN, .int (bi vD), .int vA])), (aR, .inr (4, [.ref aRd, .ref aRo, .int rc, .int rl, .int rm])), (aRd, .inl (cI, 12, .inl rd)), (aRo, .inl (cI, 12, .inl ro)), (aP, .inr (3, [.ref aPc, .int pl]))] ++ bxP L qi qt qc qp) sz)) 2 20 (va_A ([(aX, .inr (9, [.ref aV, .ref aVk, .ref aK, .ref aJ, .ref aP, .ref aQ])), (aV, .inr (8, [.ref aS, .ref aL, .ref aH, .ref aR, .int tm, .long k1, .long k2, .long k3, .long k4, .long k5])), (aS, .inr (6, [.ref aSv])), (aSv, .inl (cI, 11, .inl sf)), (aL, .inr (2, [.ref aLr, .int lc])), (aLr, .inl (cB, 10, .inr (.inr (.inr (.inr lr))))), (aH, .inr (1, [.int vT, .long vG, .int vM, .int (bi vO), .int vN, .int (bi vD), .int vA])), (aR, .inr (4, [.ref aRd, .ref aRo, .int rc, .int rl, .int rm])), (aRd, .inl (cI, 12, .inl rd)), (aRo, .inl (cI, 12, .inl ro)), (aP, .inr (3, [.ref aPc, .int pl]))] ++ bxP L qi qt qc qp) sz) := by
  refine xofW (Qc := fun A0 => va_Qi (fun r (u : Int64 × (Nat → Int32) × (Nat → Int32)) => r = 1 ∧ JJ B Tm L lc lr rc rl rm rd ro sf vT vG vM vO vN vD vA tm k1 k2 k3 u.1 k5 qi qt u.2.1 u.2.2) (fun u t => xB D (([(aX, .inr (9, [.ref aV, .ref aVk, .ref aK, .ref aJ, .ref aP, .ref aQ])), (aV, .inr (8, [.ref aS, .ref aL, .ref aH, .ref aR, .int tm, .long k1, .long k2, .long k3, .long u.1, .long k5])), (aS, .inr (6, [.ref aSv])), (aSv, .inl (cI, 11, .inl sf)), (aL, .inr (2, [.ref aLr, .int lc])), (aLr, .inl (cB, 10, .inr (.inr (.inr (.inr lr))))), (aH, .inr (1, [.int vT, .long vG, .int vM, .int (bi vO), .int vN, .int (bi vD), .int vA])), (aR, .inr (4, [.ref aRd, .ref aRo, .int rc, .int rl, .int rm])), (aRd, .inl (cI, 12, .inl rd)), (aRo, .inl (cI, 12, .inl ro)), (aP, .inr (3, [.ref aPc, .int pl]))] : va_W) ++ bxP L qi qt u.2.1 u.2.2) A0 t) A0) (fr := fun A => A) (cc := cL_isSold) (maxL := 13) (ret := (some .boolean)) (by decide) rfl (Nat.le_of_ble_eq_true rfl) ?_
  intro p e s m below meth c A ⟨hx, hb, hml, hown, hts⟩ hrt hlocks hnm hsz hK hW hA hG ls hl
  have hown : s.vm.findClass RL = some m.cls := hown
  have hl : lv_has ls 13 [(0, .ref aX), (1, .int a0)] := hl
  obtain ⟨H, hH⟩ : ∃ H, H = s.heap := ⟨_, rfl⟩
  have hW : xW D A s.heap ([(aX, .inr (9, [.ref aV, .ref aVk, .ref aK, .ref aJ, .ref aP, .ref aQ])), (aV, .inr (8, [.ref aS, .ref aL, .ref aH, .ref aR, .int tm, .long k1, .long k2, .long k3, .long k4, .long k5])), (aS, .inr (6, [.ref aSv])), (aSv, .inl (cI, 11, .inl sf)), (aL, .inr (2, [.ref aLr, .int lc])), (aLr, .inl (cB, 10, .inr (.inr (.inr (.inr lr))))), (aH, .inr (1, [.int vT, .long vG, .int vM, .int (bi vO), .int vN, .int (bi vD), .int vA])), (aR, .inr (4, [.ref aRd, .ref aRo, .int rc, .int rl, .int rm])), (aRd, .inl (cI, 12, .inl rd)), (aRo, .inl (cI, 12, .inl ro)), (aP, .inr (3, [.ref aPc, .int pl]))] ++ bxP L qi qt qc qp) H [] := by rw [hH]; exact hW
  have w1 := hts (.arrayClass .int) (by decide +kernel)
  rw [← hH]
  have hr := j_r hJ
  have hc := j_c hJ
  have hrc := j_w hJ
  refine lv_aload_n hx hb dL_isSold_0 rfl (lv_at hl 0 rfl) ?_
  refine lv_bipush (v := 12) hx hb dL_isSold_1 (by decide) ?_
  refine vp_callSi (va_Run.run (xrunV (As := [.int 12]) (rest := []) ⟨hx, hb, hml, hown, hts⟩ (c_X9_van l D cI cJ cZ cB H.size aX aV aS aSv aL aH aR aRo aP 12 aVk aK aJ aQ tm k1 k2 k3 k4 k5 sf aLr lc vT vG vM vO vN vD vA aRd rc rl rm ro aPc pl (by assumption) _ rfl) (cwV 1 hts gL_isSold_X9_van rfl rfl rfl (by decide +kernel) ⟨Nat.le_of_ble_eq_true rfl, Nat.le_of_ble_eq_true rfl⟩) hK hG hW.2.2 (xsubQ hW hA [0, 1, 2, 3, 4, 6, 7, 9, 10] rfl (by decide)) (va_recv hK hW.1 (ci := 9) (q0 := 0) rfl rfl) rfl hl.1 rfl (Nat.le_of_ble_eq_true rfl) dL_isSold_3 ⟨Nat.le_of_ble_eq_true rfl, Nat.le_of_ble_eq_true rfl⟩)) (fun r1 hq => ?_)
  rw [hq, van_12]
  refine lv_istore_n (lv' := [(2, .int lc), (0, .ref aX), (1, .int a0)]) hx hb dL_isSold_6 rfl hl (by decide) rfl (fun ls hl => ?_)
  refine lv_bipush (v := 10) hx hb dL_isSold_7 (by decide) ?_
  refine xnewI (N := 10) hx hb w1 hK hW hA (by decide) (by decide) (Nat.le_of_ble_eq_true rfl) (Nat.le_of_ble_eq_true rfl) (Nat.le_of_ble_eq_true rfl) dL_isSold_9 (fun n9_ H hW => ?_)
  have hW : xW D A s.heap ([(aX, .inr (9, [.ref aV, .ref aVk, .ref aK, .ref aJ, .ref aP, .ref aQ])), (aV, .inr (8, [.ref aS, .ref aL, .ref aH, .ref aR, .int tm, .long k1, .long k2, .long k3, .long k4, .long k5])), (aS, .inr (6, [.ref aSv])), (aSv, .inl (cI, 11, .inl sf)), (aL, .inr (2, [.ref aLr, .int lc])), (aLr, .inl (cB, 10, .inr (.inr (.inr (.inr lr))))), (aH, .inr (1, [.int vT, .long vG, .int vM, .int (bi vO), .int vN, .int (bi vD), .int vA])), (aR, .inr (4, [.ref aRd, .ref aRo, .int rc, .int rl, .int rm])), (aRd, .inl (cI, 12, .inl rd)), (aRo, .inl (cI, 12, .inl ro)), (aP, .inr (3, [.ref aPc, .int pl])), (n9_, .inl (cI, 10, .inl (fun _ => 0)))] ++ bxP L qi qt qc qp) H _ := hW
  refine lv_astore_n (lv' := [(3, .ref n9_), (2, .int lc), (0, .ref aX), (1, .int a0)]) hx hb dL_isSold_11 rfl hl (by decide) rfl (fun ls hl => ?_)
  refine lv_bipush (v := 10) hx hb dL_isSold_12 (by decide) ?_
  refine xnewI (N := 10) hx hb w1 hK hW hA (by decide) (by decide) (Nat.le_of_ble_eq_true rfl) (Nat.le_of_ble_eq_true rfl) (Nat.le_of_ble_eq_true rfl) dL_isSold_14 (fun n14_ H hW => ?_)
  have hW : xW D A s.heap ([(aX, .inr (9, [.ref aV, .ref aVk, .ref aK, .ref aJ, .ref aP, .ref aQ])), (aV, .inr (8, [.ref aS, .ref aL, .ref aH, .ref aR, .int tm, .long k1, .long k2, .long k3, .long k4, .long k5])), (aS, .inr (6, [.ref aSv])), (aSv, .inl (cI, 11, .inl sf)), (aL, .inr (2, [.ref aLr, .int lc])), (aLr, .inl (cB, 10, .inr (.inr (.inr (.inr lr))))), (aH, .inr (1, [.int vT, .long vG, .int vM, .int (bi vO), .int vN, .int (bi vD), .int vA])), (aR, .inr (4, [.ref aRd, .ref aRo, .int rc, .int rl, .int rm])), (aRd, .inl (cI, 12, .inl rd)), (aRo, .inl (cI, 12, .inl ro)), (aP, .inr (3, [.ref aPc, .int pl])), (n9_, .inl (cI, 10, .inl (fun _ => 0))), (n14_, .inl (cI, 10, .inl (fun _ => 0)))] ++ bxP L qi qt qc qp) H _ := hW
  refine lv_astore (lv' := [(4, .ref n14_), (3, .ref n9_), (2, .int lc), (0, .ref aX), (1, .int a0)]) hx hb dL_isSold_16 hl (by decide) rfl (fun ls hl => ?_)
  refine lv_aload_n hx hb dL_isSold_18 rfl (lv_at hl 3 rfl) ?_
  refine lv_iconst (v := 0) hx hb dL_isSold_19 (by decide) ?_
  refine vp_callSl (va_Run.run (xrunV (As := [.int 0]) (rest := []) ⟨hx, hb, hml, hown, hts⟩ (c_X9_account l D cI cJ cZ cB H.size aX aV aL aLr 0 aVk aK aJ aP aQ aS aH aR tm k1 k2 k3 k4 k5 lc lr L qi qt qc qp (by assumption) (by assumption) _ rfl) (cwV 1 hts gL_isSold_X9_account rfl rfl rfl (by decide +kernel) ⟨Nat.le_of_ble_eq_true rfl, Nat.le_of_ble_eq_true rfl⟩) hK hG hW.2.2 (xsubP hW hA [0, 1, 4, 5] rfl (by decide)) (va_recv hK hW.1 (ci := 9) (q0 := 0) rfl rfl) rfl hl.1 rfl (Nat.le_of_ble_eq_true rfl) dL_isSold_20 ⟨Nat.le_of_ble_eq_true rfl, Nat.le_of_ble_eq_true rfl⟩)) (fun r2 hq => ?_)
  rw [hq, acc_0]
  refine lv_lstore (lv' := [(5, .long (f_X2_iceOfAll lc lr qc).toInt64), (4, .ref n14_), (3, .ref n9_), (2, .int lc), (0, .ref aX), (1, .int a0)]) hx hb dL_isSold_23 hl (by decide) rfl (fun ls hl => ?_)
  refine lv_iload_n hx hb dL_isSold_25 rfl (lv_at hl 5 rfl) ?_
  refine lv_istore (lv' := [(7, .int a0), (5, .long (f_X2_iceOfAll lc lr qc).toInt64), (4, .ref n14_), (3, .ref n9_), (2, .int lc), (0, .ref aX), (1, .int a0)]) hx hb dL_isSold_26 hl (by decide) rfl (fun ls hl => ?_)
  refine lv_iconst (v := 0) hx hb dL_isSold_28 (by decide) ?_
  refine lv_istore (lv' := [(8, .int 0), (7, .int a0), (5, .long (f_X2_iceOfAll lc lr qc).toInt64), (4, .ref n14_), (3, .ref n9_), (2, .int lc), (0, .ref aX), (1, .int a0)]) hx hb dL_isSold_29 hl (by decide) rfl (fun ls hl => ?_)
  refine lv_iconst (v := 0) hx hb dL_isSold_31 (by decide) ?_
  refine lv_istore (lv' := [(9, .int 0), (8, .int 0), (7, .int a0), (5, .long (f_X2_iceOfAll lc lr qc).toInt64), (4, .ref n14_), (3, .ref n9_), (2, .int lc), (0, .ref aX), (1, .int a0)]) hx hb dL_isSold_32 hl (by decide) rfl (fun ls hl => ?_)
  have hl34_ : ∀ (n : Nat) (xr : Int32) (xf : Int32) (xi : Int32) (fa : Nat → Int32) (fb : Nat → Int32), (0 ≤ xi.toInt) → (xi.toInt ≤ lc.toInt) → (soI lr qc qp a0 xi.toInt.toNat xr xf fa fb) → (lc.toInt - xi.toInt).toNat < n → ∀ (H : Heap) (locs : List Loc) (ls : Array Slot), xW D A s.heap ([(aX, .inr (9, [.ref aV, .ref aVk, .ref aK, .ref aJ, .ref aP, .ref aQ])), (aV, .inr (8, [.ref aS, .ref aL, .ref aH, .ref aR, .int tm, .long k1, .long k2, .long k3, .long k4, .long k5])), (aS, .inr (6, [.ref aSv])), (aSv, .inl (cI, 11, .inl sf)), (aL, .inr (2, [.ref aLr, .int lc])), (aLr, .inl (cB, 10, .inr (.inr (.inr (.inr lr))))), (aH, .inr (1, [.int vT, .long vG, .int vM, .int (bi vO), .int vN, .int (bi vD), .int vA])), (aR, .inr (4, [.ref aRd, .ref aRo, .int rc, .int rl, .int rm])), (aRd, .inl (cI, 12, .inl rd)), (aRo, .inl (cI, 12, .inl ro)), (aP, .inr (3, [.ref aPc, .int pl])), (n9_, .inl (cI, 10, .inl fa)), (n14_, .inl (cI, 10, .inl fb))] ++ bxP L qi qt qc qp) H locs → lv_has ls 13 [(0, .ref aX), (1, .int a0), (2, .int lc), (3, .ref n9_), (4, .ref n14_), (5, .long (f_X2_iceOfAll lc lr qc).toInt64), (7, .int xr), (8, .int xf), (9, .int xi)] → W p l e ({ frames := 5, cells := 2, slots := 20, locals := 105 } : Room) s m [.ref aX, .int a0].toArray below meth c H locs 2 20 (MQ below (va_Qi (fun r (u : Int64 × (Nat → Int32) × (Nat → Int32)) => r = 1 ∧ JJ B Tm L lc lr rc rl rm rd ro sf vT vG vM vO vN vD vA tm k1 k2 k3 u.1 k5 qi qt u.2.1 u.2.2) (fun u t => xB D (([(aX, .inr (9, [.ref aV, .ref aVk, .ref aK, .ref aJ, .ref aP, .ref aQ])), (aV, .inr (8, [.ref aS, .ref aL, .ref aH, .ref aR, .int tm, .long k1, .long k2, .long k3, .long u.1, .long k5])), (aS, .inr (6, [.ref aSv])), (aSv, .inl (cI, 11, .inl sf)), (aL, .inr (2, [.ref aLr, .int lc])), (aLr, .inl (cB, 10, .inr (.inr (.inr (.inr lr))))), (aH, .inr (1, [.int vT, .long vG, .int vM, .int (bi vO), .int vN, .int (bi vD), .int vA])), (aR, .inr (4, [.ref aRd, .ref aRo, .int rc, .int rl, .int rm])), (aRd, .inl (cI, 12, .inl rd)), (aRo, .inl (cI, 12, .inl ro)), (aP, .inr (3, [.ref aPc, .int pl]))] : va_W) ++ bxP L qi qt u.2.1 u.2.2) A t) A) [.ref aX, .int a0].toArray s 2 20 A) (F0 m 34 ls []) := by
    intro n
    induction n with
    | zero =>
      intro xr xf xi fa fb _ _ _ hm
      exact absurd hm (Nat.not_lt_zero _)
    | succ n ih34 =>
      intro xr xf xi fa fb hi0 hle hs hm34 H locs ls hW hl
      refine lv_iload hx hb dL_isSold_34 (lv_at hl 8 rfl) ?_
      refine lv_iload_n hx hb dL_isSold_36 rfl (lv_at hl 2 rfl) ?_
      refine lv_icmp_ge (tgt := 140) hx hb dL_isSold_37 (by decide) (fun c1 => ?_) (fun c1 => ?_)
      · skip
        refine lv_aload_n hx hb dL_isSold_140 rfl (lv_at hl 0 rfl) ?_
        refine lv_iconst (v := 4) hx hb dL_isSold_141 (by decide) ?_
        refine vp_callSl (va_Run.run (xrunV (As := [.int 4]) (rest := []) ⟨hx, hb, hml, hown, hts⟩ (c_X9_account l D cI cJ cZ cB H.size aX aV aL aLr 4 aVk aK aJ aP aQ aS aH aR tm k1 k2 k3 k4 k5 lc lr L qi qt qc qp (by assumption) (by assumption) _ rfl) (cwV 1 hts gL_isSold_X9_account rfl rfl rfl (by decide +kernel) ⟨Nat.le_of_ble_eq_true rfl, Nat.le_of_ble_eq_true rfl⟩) hK hG hW.2.2 (xsubP hW hA [0, 1, 4, 5] rfl (by decide)) (va_recv hK hW.1 (ci := 9) (q0 := 0) rfl rfl) rfl hl.1 rfl (Nat.le_of_ble_eq_true rfl) dL_isSold_142 ⟨Nat.le_of_ble_eq_true rfl, Nat.le_of_ble_eq_true rfl⟩)) (fun r3 hq => ?_)
        rw [hq, acc_4]
        refine lv_lstore (lv' := [(9, .long k4), (0, .ref aX), (1, .int a0), (2, .int lc), (3, .ref n9_), (4, .ref n14_), (5, .long (f_X2_iceOfAll lc lr qc).toInt64), (7, .int xr), (8, .int xf)]) hx hb dL_isSold_145 hl (by decide) rfl (fun ls hl => ?_)
        refine lv_aload_n hx hb dL_isSold_147 rfl (lv_at hl 1 rfl) ?_
        refine lv_bipush (v := 8) hx hb dL_isSold_148 (by decide) ?_
        refine vp_callSi (va_Run.run (xrunV (As := [.int 8]) (rest := []) ⟨hx, hb, hml, hown, hts⟩ (c_X9_van l D cI cJ cZ cB H.size aX aV aS aSv aL aH aR aRo aP 8 aVk aK aJ aQ tm k1 k2 k3 k4 k5 sf aLr lc vT vG vM vO vN vD vA aRd rc rl rm ro aPc pl (by assumption) _ rfl) (cwV 1 hts gL_isSold_X9_van rfl rfl rfl (by decide +kernel) ⟨Nat.le_of_ble_eq_true rfl, Nat.le_of_ble_eq_true rfl⟩) hK hG hW.2.2 (xsubQ hW hA [0, 1, 2, 3, 4, 6, 7, 9, 10] rfl (by decide)) (va_recv hK hW.1 (ci := 9) (q0 := 0) rfl rfl) rfl hl.1 rfl (Nat.le_of_ble_eq_true rfl) dL_isSold_150 ⟨Nat.le_of_ble_eq_true rfl, Nat.le_of_ble_eq_true rfl⟩)) (fun r4 hq => ?_)
        rw [hq, van_8]
        refine lv_iconst (v := 1) hx hb dL_isSold_153 (by decide) ?_
        refine lv_icmp_ne (tgt := 169) hx hb dL_isSold_154 (by decide) (fun c2 => ?_) (fun c2 => ?_)
        · skip
          refine lv_iconst (v := 0) hx hb dL_isSold_169 (by decide) ?_
          refine lv_istore (lv' := [(11, .int 0), (9, .long k4), (0, .ref aX), (1, .int a0), (2, .int lc), (3, .ref n9_), (4, .ref n14_), (5, .long (f_X2_iceOfAll lc lr qc).toInt64), (7, .int xr), (8, .int xf)]) hx hb dL_isSold_170 hl (by decide) rfl (fun ls hl => ?_)
          refine lv_aload_n hx hb dL_isSold_172 rfl (lv_at hl 2 rfl) ?_
          refine lv_iload_n hx hb dL_isSold_173 rfl (lv_at hl 3 rfl) ?_
          obtain ⟨o5_, eo5_⟩ : ∃ z9, f_X9_sell a0 k4 lc lr vD qc qp = z9 := ⟨_, rfl⟩
          refine xPi (wr := [(aS, .inr (6, [.ref aSv])), (aSv, .inl (cI, 11, .inl sf)), (aR, .inr (4, [.ref aRd, .ref aRo, .int rc, .int rl, .int rm])), (aRd, .inl (cI, 12, .inl rd)), (aRo, .inl (cI, 12, .inl ro)), (aP, .inr (3, [.ref aPc, .int pl])), (n9_, .inl (cI, 10, .inl fa)), (n14_, .inl (cI, 10, .inl fb))]) hW hA [0, 1, 4, 5, 6] [2, 3, 7, 8, 9, 10, 11, 12] rfl rfl (by decide) (by decide) (by decide) (xrunV (As := [.int a0]) (rest := []) ⟨hx, hb, hml, hown, hts⟩ (c_X9_sell l D cI cJ cZ cB H.size aX aV aL aLr aH a0 aVk aK aJ aP aQ aS aR tm k1 k2 k3 k4 k5 lc lr vT vG vM vO vN vD vA L qi qt qc qp (by assumption) (by assumption) o5_ eo5_) (cwV 1 hts gL_isSold_X9_sell rfl rfl rfl (by decide +kernel) ⟨Nat.le_of_ble_eq_true rfl, Nat.le_of_ble_eq_true rfl⟩) hK hG hW.2.2 (xsubP hW hA [0, 1, 4, 5, 6] rfl (by decide)) (va_recv hK hW.1 (ci := 9) (q0 := 0) rfl rfl) rfl hl.1 rfl (Nat.le_of_ble_eq_true rfl) dL_isSold_174 ⟨Nat.le_of_ble_eq_true rfl, Nat.le_of_ble_eq_true rfl⟩) (fun r6 _ H locs hq hW => ?_)
          rw [hq]
          have hW : xW D A s.heap ([(aS, .inr (6, [.ref aSv])), (aSv, .inl (cI, 11, .inl sf)), (aR, .inr (4, [.ref aRd, .ref aRo, .int rc, .int rl, .int rm])), (aRd, .inl (cI, 12, .inl rd)), (aRo, .inl (cI, 12, .inl ro)), (aP, .inr (3, [.ref aPc, .int pl])), (n9_, .inl (cI, 10, .inl fa)), (n14_, .inl (cI, 10, .inl fb)), (aX, .inr (9, [.ref aV, .ref aVk, .ref aK, .ref aJ, .ref aP, .ref aQ])), (aV, .inr (8, [.ref aS, .ref aL, .ref aH, .ref aR, .int tm, .long k1, .long k2, .long k3, .long o5_.2.1, .long k5])), (aL, .inr (2, [.ref aLr, .int lc])), (aLr, .inl (cB, 10, .inr (.inr (.inr (.inr lr))))), (aH, .inr (1, [.int vT, .long vG, .int vM, .int (bi vO), .int vN, .int (bi vD), .int vA]))] ++ bxP L qi qt o5_.2.2.1 o5_.2.2.2) H _ := hW
          have ho := so_shut eo5_ ha c2
          refine lv_iload hx hb dL_isSold_177 (lv_at hl 0 rfl) ?_
          refine lv_if_eq (tgt := 187) hx hb dL_isSold_179 (by decide) (fun c3 => ?_) (fun c3 => ?_)
          · skip
            refine lv_bipush (v := -5) hx hb dL_isSold_187 (by decide) ?_
            refine lv_icmp_ne (tgt := 215) hx hb dL_isSold_189 (by decide) (fun c4 => ?_) (fun c4 => ?_)
            · exact absurd (by subst ho; rfl) c4
            · skip
              refine lv_aload_n hx hb dL_isSold_192 rfl (lv_at hl 2 rfl) ?_
              refine lv_iconst (v := 4) hx hb dL_isSold_193 (by decide) ?_
              refine vp_callSl (va_Run.run (xrunV (As := [.int 4]) (rest := []) ⟨hx, hb, hml, hown, hts⟩ (c_X9_account l D cI cJ cZ cB H.size aX aV aL aLr 4 aVk aK aJ aP aQ aS aH aR tm k1 k2 k3 o5_.2.1 k5 lc lr L qi qt o5_.2.2.1 o5_.2.2.2 (by assumption) (by assumption) _ rfl) (cwV 1 hts gL_isSold_X9_account rfl rfl rfl (by decide +kernel) ⟨Nat.le_of_ble_eq_true rfl, Nat.le_of_ble_eq_true rfl⟩) hK hG hW.2.2 (xsubP hW hA [8, 9, 10, 11] rfl (by decide)) (va_recv hK hW.1 (ci := 9) (q0 := 8) rfl rfl) rfl hl.1 rfl (Nat.le_of_ble_eq_true rfl) dL_isSold_194 ⟨Nat.le_of_ble_eq_true rfl, Nat.le_of_ble_eq_true rfl⟩)) (fun r7 hq => ?_)
              rw [hq, acc_4]
              refine lv_lload hx hb dL_isSold_197 (lv_at hl 1 rfl) ?_
              refine lv_iload hx hb dL_isSold_199 (lv_at hl 0 rfl) ?_
              refine lv_if_eq (tgt := 208) hx hb dL_isSold_201 (by decide) (fun c5 => ?_) (fun c5 => ?_)
              · skip
                refine lv_iconst (v := 0) hx hb dL_isSold_208 (by decide) ?_
                refine lv_i2l hx hb dL_isSold_209 rfl ?_
                refine lv_ladd hx hb dL_isSold_210 ?_
                refine xlc_eq (tgt := 217) hx hb dL_isSold_211 dL_isSold_212 (by decide) (fun c6 => ?_) (fun c6 => ?_)
                · skip
                  refine lv_iconst (v := 0) hx hb dL_isSold_217 (by decide) ?_
                  refine lv_istore (lv' := [(12, .int 0), (11, .int 0), (9, .long k4), (0, .ref aX), (1, .int a0), (2, .int lc), (3, .ref n9_), (4, .ref n14_), (5, .long (f_X2_iceOfAll lc lr qc).toInt64), (7, .int xr), (8, .int xf)]) hx hb dL_isSold_218 hl (by decide) rfl (fun ls hl => ?_)
                  have hl220_ : ∀ (n : Nat) (xj : Int32), (0 ≤ xj.toInt) → (lc.toInt - xj.toInt).toNat < n → ∀ (H : Heap) (locs : List Loc) (ls : Array Slot), xW D A s.heap ([(aS, .inr (6, [.ref aSv])), (aSv, .inl (cI, 11, .inl sf)), (aR, .inr (4, [.ref aRd, .ref aRo, .int rc, .int rl, .int rm])), (aRd, .inl (cI, 12, .inl rd)), (aRo, .inl (cI, 12, .inl ro)), (aP, .inr (3, [.ref aPc, .int pl])), (n9_, .inl (cI, 10, .inl fa)), (n14_, .inl (cI, 10, .inl fb)), (aX, .inr (9, [.ref aV, .ref aVk, .ref aK, .ref aJ, .ref aP, .ref aQ])), (aV, .inr (8, [.ref aS, .ref aL, .ref aH, .ref aR, .int tm, .long k1, .long k2, .long k3, .long o5_.2.1, .long k5])), (aL, .inr (2, [.ref aLr, .int lc])), (aLr, .inl (cB, 10, .inr (.inr (.inr (.inr lr))))), (aH, .inr (1, [.int vT, .long vG, .int vM, .int (bi vO), .int vN, .int (bi vD), .int vA]))] ++ bxP L qi qt o5_.2.2.1 o5_.2.2.2) H locs → lv_has ls 13 [(0, .ref aX), (1, .int a0), (2, .int lc), (3, .ref n9_), (4, .ref n14_), (11, .int 0), (12, .int xj)] → W p l e ({ frames := 5, cells := 2, slots := 20, locals := 105 } : Room) s m [.ref aX, .int a0].toArray below meth c H locs 2 20 (MQ below (va_Qi (fun r (u : Int64 × (Nat → Int32) × (Nat → Int32)) => r = 1 ∧ JJ B Tm L lc lr rc rl rm rd ro sf vT vG vM vO vN vD vA tm k1 k2 k3 u.1 k5 qi qt u.2.1 u.2.2) (fun u t => xB D (([(aX, .inr (9, [.ref aV, .ref aVk, .ref aK, .ref aJ, .ref aP, .ref aQ])), (aV, .inr (8, [.ref aS, .ref aL, .ref aH, .ref aR, .int tm, .long k1, .long k2, .long k3, .long u.1, .long k5])), (aS, .inr (6, [.ref aSv])), (aSv, .inl (cI, 11, .inl sf)), (aL, .inr (2, [.ref aLr, .int lc])), (aLr, .inl (cB, 10, .inr (.inr (.inr (.inr lr))))), (aH, .inr (1, [.int vT, .long vG, .int vM, .int (bi vO), .int vN, .int (bi vD), .int vA])), (aR, .inr (4, [.ref aRd, .ref aRo, .int rc, .int rl, .int rm])), (aRd, .inl (cI, 12, .inl rd)), (aRo, .inl (cI, 12, .inl ro)), (aP, .inr (3, [.ref aPc, .int pl]))] : va_W) ++ bxP L qi qt u.2.1 u.2.2) A t) A) [.ref aX, .int a0].toArray s 2 20 A) (F0 m 220 ls []) := by
                    intro n
                    induction n with
                    | zero =>
                      intro xj _ hm
                      exact absurd hm (Nat.not_lt_zero _)
                    | succ n ih220 =>
                      intro xj hj0 hm220 H locs ls hW hl
                      refine lv_iload hx hb dL_isSold_220 (lv_at hl 6 rfl) ?_
                      refine lv_iload_n hx hb dL_isSold_222 rfl (lv_at hl 2 rfl) ?_
                      refine lv_icmp_ge (tgt := 268) hx hb dL_isSold_223 (by decide) (fun c7 => ?_) (fun c7 => ?_)
                      · skip
                        refine lv_iconst (v := 1) hx hb dL_isSold_268 (by decide) ?_
                        have hW := xW_perm (X' := [(aX, .inr (9, [.ref aV, .ref aVk, .ref aK, .ref aJ, .ref aP, .ref aQ])), (aV, .inr (8, [.ref aS, .ref aL, .ref aH, .ref aR, .int tm, .long k1, .long k2, .long k3, .long o5_.2.1, .long k5])), (aS, .inr (6, [.ref aSv])), (aSv, .inl (cI, 11, .inl sf)), (aL, .inr (2, [.ref aLr, .int lc])), (aLr, .inl (cB, 10, .inr (.inr (.inr (.inr lr))))), (aH, .inr (1, [.int vT, .long vG, .int vM, .int (bi vO), .int vN, .int (bi vD), .int vA])), (aR, .inr (4, [.ref aRd, .ref aRo, .int rc, .int rl, .int rm])), (aRd, .inl (cI, 12, .inl rd)), (aRo, .inl (cI, 12, .inl ro)), (aP, .inr (3, [.ref aPc, .int pl]))]) hW [8, 9, 0, 1, 10, 11, 12, 2, 3, 4, 5] rfl (by decide)
                        refine W.widen (k := 2) (n := 20) (Nat.le_of_ble_eq_true rfl) (Nat.le_of_ble_eq_true rfl) ?_
                        exact W.zret (v := 1) hx hb hrt rfl (fun t ht hM => ⟨⟨1, (o5_.2.1, o5_.2.2.1, o5_.2.2.2), rfl, ⟨rfl, (by subst ho; exact hJ)⟩, ⟨by rw [ht]; exact hW.1, hW.2.1⟩⟩, hW.2.2.F ht⟩) hW.2.2.2.2 dL_isSold_269 hlocks
                      · skip
                        refine lv_iload hx hb dL_isSold_226 (lv_at hl 5 rfl) ?_
                        refine lv_if_eq (tgt := 268) hx hb dL_isSold_228 (by decide) (fun c8 => ?_) (fun c8 => ?_)
                        · skip
                          refine lv_iconst (v := 1) hx hb dL_isSold_268 (by decide) ?_
                          have hW := xW_perm (X' := [(aX, .inr (9, [.ref aV, .ref aVk, .ref aK, .ref aJ, .ref aP, .ref aQ])), (aV, .inr (8, [.ref aS, .ref aL, .ref aH, .ref aR, .int tm, .long k1, .long k2, .long k3, .long o5_.2.1, .long k5])), (aS, .inr (6, [.ref aSv])), (aSv, .inl (cI, 11, .inl sf)), (aL, .inr (2, [.ref aLr, .int lc])), (aLr, .inl (cB, 10, .inr (.inr (.inr (.inr lr))))), (aH, .inr (1, [.int vT, .long vG, .int vM, .int (bi vO), .int vN, .int (bi vD), .int vA])), (aR, .inr (4, [.ref aRd, .ref aRo, .int rc, .int rl, .int rm])), (aRd, .inl (cI, 12, .inl rd)), (aRo, .inl (cI, 12, .inl ro)), (aP, .inr (3, [.ref aPc, .int pl]))]) hW [8, 9, 0, 1, 10, 11, 12, 2, 3, 4, 5] rfl (by decide)
                          refine W.widen (k := 2) (n := 20) (Nat.le_of_ble_eq_true rfl) (Nat.le_of_ble_eq_true rfl) ?_
                          exact W.zret (v := 1) hx hb hrt rfl (fun t ht hM => ⟨⟨1, (o5_.2.1, o5_.2.2.1, o5_.2.2.2), rfl, ⟨rfl, (by subst ho; exact hJ)⟩, ⟨by rw [ht]; exact hW.1, hW.2.1⟩⟩, hW.2.2.F ht⟩) hW.2.2.2.2 dL_isSold_269 hlocks
                        · exact absurd c8 (by decide)
                  refine W.widen (k := 2) (n := 20) (Nat.le_of_ble_eq_true rfl) (Nat.le_of_ble_eq_true rfl) ?_
                  exact hl220_ ((lc.toInt - (0 : Int32).toInt).toNat + 1) (0) (by decide) (Nat.lt_succ_self _) _ _ _ hW (lv_sub hl [3, 4, 5, 6, 7, 1, 0] rfl)
                · exact absurd (by subst ho; exact k_0) c6
              · exact absurd c5 (by decide)
          · exact absurd c3 (by decide)
        · skip
          refine lv_lload hx hb dL_isSold_157 (lv_at hl 6 rfl) ?_
          refine lv_iload_n hx hb dL_isSold_159 rfl (lv_at hl 2 rfl) ?_
          refine lv_i2l hx hb dL_isSold_160 rfl ?_
          refine xlc_lt (tgt := 169) hx hb dL_isSold_161 dL_isSold_162 (by decide) (fun c3 => ?_) (fun c3 => ?_)
          · skip
            refine lv_iconst (v := 0) hx hb dL_isSold_169 (by decide) ?_
            refine lv_istore (lv' := [(11, .int 0), (9, .long k4), (0, .ref aX), (1, .int a0), (2, .int lc), (3, .ref n9_), (4, .ref n14_), (5, .long (f_X2_iceOfAll lc lr qc).toInt64), (7, .int xr), (8, .int xf)]) hx hb dL_isSold_170 hl (by decide) rfl (fun ls hl => ?_)
            refine lv_aload_n hx hb dL_isSold_172 rfl (lv_at hl 2 rfl) ?_
            refine lv_iload_n hx hb dL_isSold_173 rfl (lv_at hl 3 rfl) ?_
            obtain ⟨o8_, eo8_⟩ : ∃ z9, f_X9_sell a0 k4 lc lr vD qc qp = z9 := ⟨_, rfl⟩
            refine xPi (wr := [(aS, .inr (6, [.ref aSv])), (aSv, .inl (cI, 11, .inl sf)), (aR, .inr (4, [.ref aRd, .ref aRo, .int rc, .int rl, .int rm])), (aRd, .inl (cI, 12, .inl rd)), (aRo, .inl (cI, 12, .inl ro)), (aP, .inr (3, [.ref aPc, .int pl])), (n9_, .inl (cI, 10, .inl fa)), (n14_, .inl (cI, 10, .inl fb))]) hW hA [0, 1, 4, 5, 6] [2, 3, 7, 8, 9, 10, 11, 12] rfl rfl (by decide) (by decide) (by decide) (xrunV (As := [.int a0]) (rest := []) ⟨hx, hb, hml, hown, hts⟩ (c_X9_sell l D cI cJ cZ cB H.size aX aV aL aLr aH a0 aVk aK aJ aP aQ aS aR tm k1 k2 k3 k4 k5 lc lr vT vG vM vO vN vD vA L qi qt qc qp (by assumption) (by assumption) o8_ eo8_) (cwV 1 hts gL_isSold_X9_sell rfl rfl rfl (by decide +kernel) ⟨Nat.le_of_ble_eq_true rfl, Nat.le_of_ble_eq_true rfl⟩) hK hG hW.2.2 (xsubP hW hA [0, 1, 4, 5, 6] rfl (by decide)) (va_recv hK hW.1 (ci := 9) (q0 := 0) rfl rfl) rfl hl.1 rfl (Nat.le_of_ble_eq_true rfl) dL_isSold_174 ⟨Nat.le_of_ble_eq_true rfl, Nat.le_of_ble_eq_true rfl⟩) (fun r9 _ H locs hq hW => ?_)
            rw [hq]
            have hW : xW D A s.heap ([(aS, .inr (6, [.ref aSv])), (aSv, .inl (cI, 11, .inl sf)), (aR, .inr (4, [.ref aRd, .ref aRo, .int rc, .int rl, .int rm])), (aRd, .inl (cI, 12, .inl rd)), (aRo, .inl (cI, 12, .inl ro)), (aP, .inr (3, [.ref aPc, .int pl])), (n9_, .inl (cI, 10, .inl fa)), (n14_, .inl (cI, 10, .inl fb)), (aX, .inr (9, [.ref aV, .ref aVk, .ref aK, .ref aJ, .ref aP, .ref aQ])), (aV, .inr (8, [.ref aS, .ref aL, .ref aH, .ref aR, .int tm, .long k1, .long k2, .long k3, .long o8_.2.1, .long k5])), (aL, .inr (2, [.ref aLr, .int lc])), (aLr, .inl (cB, 10, .inr (.inr (.inr (.inr lr))))), (aH, .inr (1, [.int vT, .long vG, .int vM, .int (bi vO), .int vN, .int (bi vD), .int vA]))] ++ bxP L qi qt o8_.2.2.1 o8_.2.2.2) H _ := hW
            have ho := so_less eo8_ ha c3
            refine lv_iload hx hb dL_isSold_177 (lv_at hl 0 rfl) ?_
            refine lv_if_eq (tgt := 187) hx hb dL_isSold_179 (by decide) (fun c4 => ?_) (fun c4 => ?_)
            · skip
              refine lv_bipush (v := -5) hx hb dL_isSold_187 (by decide) ?_
              refine lv_icmp_ne (tgt := 215) hx hb dL_isSold_189 (by decide) (fun c5 => ?_) (fun c5 => ?_)
              · exact absurd (by subst ho; rfl) c5
              · skip
                refine lv_aload_n hx hb dL_isSold_192 rfl (lv_at hl 2 rfl) ?_
                refine lv_iconst (v := 4) hx hb dL_isSold_193 (by decide) ?_
                refine vp_callSl (va_Run.run (xrunV (As := [.int 4]) (rest := []) ⟨hx, hb, hml, hown, hts⟩ (c_X9_account l D cI cJ cZ cB H.size aX aV aL aLr 4 aVk aK aJ aP aQ aS aH aR tm k1 k2 k3 o8_.2.1 k5 lc lr L qi qt o8_.2.2.1 o8_.2.2.2 (by assumption) (by assumption) _ rfl) (cwV 1 hts gL_isSold_X9_account rfl rfl rfl (by decide +kernel) ⟨Nat.le_of_ble_eq_true rfl, Nat.le_of_ble_eq_true rfl⟩) hK hG hW.2.2 (xsubP hW hA [8, 9, 10, 11] rfl (by decide)) (va_recv hK hW.1 (ci := 9) (q0 := 8) rfl rfl) rfl hl.1 rfl (Nat.le_of_ble_eq_true rfl) dL_isSold_194 ⟨Nat.le_of_ble_eq_true rfl, Nat.le_of_ble_eq_true rfl⟩)) (fun r10 hq => ?_)
                rw [hq, acc_4]
                refine lv_lload hx hb dL_isSold_197 (lv_at hl 1 rfl) ?_
                refine lv_iload hx hb dL_isSold_199 (lv_at hl 0 rfl) ?_
                refine lv_if_eq (tgt := 208) hx hb dL_isSold_201 (by decide) (fun c6 => ?_) (fun c6 => ?_)
                · skip
                  refine lv_iconst (v := 0) hx hb dL_isSold_208 (by decide) ?_
                  refine lv_i2l hx hb dL_isSold_209 rfl ?_
                  refine lv_ladd hx hb dL_isSold_210 ?_
                  refine xlc_eq (tgt := 217) hx hb dL_isSold_211 dL_isSold_212 (by decide) (fun c7 => ?_) (fun c7 => ?_)
                  · skip
                    refine lv_iconst (v := 0) hx hb dL_isSold_217 (by decide) ?_
                    refine lv_istore (lv' := [(12, .int 0), (11, .int 0), (9, .long k4), (0, .ref aX), (1, .int a0), (2, .int lc), (3, .ref n9_), (4, .ref n14_), (5, .long (f_X2_iceOfAll lc lr qc).toInt64), (7, .int xr), (8, .int xf)]) hx hb dL_isSold_218 hl (by decide) rfl (fun ls hl => ?_)
                    have hl220_ : ∀ (n : Nat) (xj : Int32), (0 ≤ xj.toInt) → (lc.toInt - xj.toInt).toNat < n → ∀ (H : Heap) (locs : List Loc) (ls : Array Slot), xW D A s.heap ([(aS, .inr (6, [.ref aSv])), (aSv, .inl (cI, 11, .inl sf)), (aR, .inr (4, [.ref aRd, .ref aRo, .int rc, .int rl, .int rm])), (aRd, .inl (cI, 12, .inl rd)), (aRo, .inl (cI, 12, .inl ro)), (aP, .inr (3, [.ref aPc, .int pl])), (n9_, .inl (cI, 10, .inl fa)), (n14_, .inl (cI, 10, .inl fb)), (aX, .inr (9, [.ref aV, .ref aVk, .ref aK, .ref aJ, .ref aP, .ref aQ])), (aV, .inr (8, [.ref aS, .ref aL, .ref aH, .ref aR, .int tm, .long k1, .long k2, .long k3, .long o8_.2.1, .long k5])), (aL, .inr (2, [.ref aLr, .int lc])), (aLr, .inl (cB, 10, .inr (.inr (.inr (.inr lr))))), (aH, .inr (1, [.int vT, .long vG, .int vM, .int (bi vO), .int vN, .int (bi vD), .int vA]))] ++ bxP L qi qt o8_.2.2.1 o8_.2.2.2) H locs → lv_has ls 13 [(0, .ref aX), (1, .int a0), (2, .int lc), (3, .ref n9_), (4, .ref n14_), (11, .int 0), (12, .int xj)] → W p l e ({ frames := 5, cells := 2, slots := 20, locals := 105 } : Room) s m [.ref aX, .int a0].toArray below meth c H locs 2 20 (MQ below (va_Qi (fun r (u : Int64 × (Nat → Int32) × (Nat → Int32)) => r = 1 ∧ JJ B Tm L lc lr rc rl rm rd ro sf vT vG vM vO vN vD vA tm k1 k2 k3 u.1 k5 qi qt u.2.1 u.2.2) (fun u t => xB D (([(aX, .inr (9, [.ref aV, .ref aVk, .ref aK, .ref aJ, .ref aP, .ref aQ])), (aV, .inr (8, [.ref aS, .ref aL, .ref aH, .ref aR, .int tm, .long k1, .long k2, .long k3, .long u.1, .long k5])), (aS, .inr (6, [.ref aSv])), (aSv, .inl (cI, 11, .inl sf)), (aL, .inr (2, [.ref aLr, .int lc])), (aLr, .inl (cB, 10, .inr (.inr (.inr (.inr lr))))), (aH, .inr (1, [.int vT, .long vG, .int vM, .int (bi vO), .int vN, .int (bi vD), .int vA])), (aR, .inr (4, [.ref aRd, .ref aRo, .int rc, .int rl, .int rm])), (aRd, .inl (cI, 12, .inl rd)), (aRo, .inl (cI, 12, .inl ro)), (aP, .inr (3, [.ref aPc, .int pl]))] : va_W) ++ bxP L qi qt u.2.1 u.2.2) A t) A) [.ref aX, .int a0].toArray s 2 20 A) (F0 m 220 ls []) := by
                      intro n
                      induction n with
                      | zero =>
                        intro xj _ hm
                        exact absurd hm (Nat.not_lt_zero _)
                      | succ n ih220 =>
                        intro xj hj0 hm220 H locs ls hW hl
                        refine lv_iload hx hb dL_isSold_220 (lv_at hl 6 rfl) ?_
                        refine lv_iload_n hx hb dL_isSold_222 rfl (lv_at hl 2 rfl) ?_
                        refine lv_icmp_ge (tgt := 268) hx hb dL_isSold_223 (by decide) (fun c8 => ?_) (fun c8 => ?_)
                        · skip
                          refine lv_iconst (v := 1) hx hb dL_isSold_268 (by decide) ?_
                          have hW := xW_perm (X' := [(aX, .inr (9, [.ref aV, .ref aVk, .ref aK, .ref aJ, .ref aP, .ref aQ])), (aV, .inr (8, [.ref aS, .ref aL, .ref aH, .ref aR, .int tm, .long k1, .long k2, .long k3, .long o8_.2.1, .long k5])), (aS, .inr (6, [.ref aSv])), (aSv, .inl (cI, 11, .inl sf)), (aL, .inr (2, [.ref aLr, .int lc])), (aLr, .inl (cB, 10, .inr (.inr (.inr (.inr lr))))), (aH, .inr (1, [.int vT, .long vG, .int vM, .int (bi vO), .int vN, .int (bi vD), .int vA])), (aR, .inr (4, [.ref aRd, .ref aRo, .int rc, .int rl, .int rm])), (aRd, .inl (cI, 12, .inl rd)), (aRo, .inl (cI, 12, .inl ro)), (aP, .inr (3, [.ref aPc, .int pl]))]) hW [8, 9, 0, 1, 10, 11, 12, 2, 3, 4, 5] rfl (by decide)
                          refine W.widen (k := 2) (n := 20) (Nat.le_of_ble_eq_true rfl) (Nat.le_of_ble_eq_true rfl) ?_
                          exact W.zret (v := 1) hx hb hrt rfl (fun t ht hM => ⟨⟨1, (o8_.2.1, o8_.2.2.1, o8_.2.2.2), rfl, ⟨rfl, (by subst ho; exact hJ)⟩, ⟨by rw [ht]; exact hW.1, hW.2.1⟩⟩, hW.2.2.F ht⟩) hW.2.2.2.2 dL_isSold_269 hlocks
                        · skip
                          refine lv_iload hx hb dL_isSold_226 (lv_at hl 5 rfl) ?_
                          refine lv_if_eq (tgt := 268) hx hb dL_isSold_228 (by decide) (fun c9 => ?_) (fun c9 => ?_)
                          · skip
                            refine lv_iconst (v := 1) hx hb dL_isSold_268 (by decide) ?_
                            have hW := xW_perm (X' := [(aX, .inr (9, [.ref aV, .ref aVk, .ref aK, .ref aJ, .ref aP, .ref aQ])), (aV, .inr (8, [.ref aS, .ref aL, .ref aH, .ref aR, .int tm, .long k1, .long k2, .long k3, .long o8_.2.1, .long k5])), (aS, .inr (6, [.ref aSv])), (aSv, .inl (cI, 11, .inl sf)), (aL, .inr (2, [.ref aLr, .int lc])), (aLr, .inl (cB, 10, .inr (.inr (.inr (.inr lr))))), (aH, .inr (1, [.int vT, .long vG, .int vM, .int (bi vO), .int vN, .int (bi vD), .int vA])), (aR, .inr (4, [.ref aRd, .ref aRo, .int rc, .int rl, .int rm])), (aRd, .inl (cI, 12, .inl rd)), (aRo, .inl (cI, 12, .inl ro)), (aP, .inr (3, [.ref aPc, .int pl]))]) hW [8, 9, 0, 1, 10, 11, 12, 2, 3, 4, 5] rfl (by decide)
                            refine W.widen (k := 2) (n := 20) (Nat.le_of_ble_eq_true rfl) (Nat.le_of_ble_eq_true rfl) ?_
                            exact W.zret (v := 1) hx hb hrt rfl (fun t ht hM => ⟨⟨1, (o8_.2.1, o8_.2.2.1, o8_.2.2.2), rfl, ⟨rfl, (by subst ho; exact hJ)⟩, ⟨by rw [ht]; exact hW.1, hW.2.1⟩⟩, hW.2.2.F ht⟩) hW.2.2.2.2 dL_isSold_269 hlocks
                          · exact absurd c9 (by decide)
                    refine W.widen (k := 2) (n := 20) (Nat.le_of_ble_eq_true rfl) (Nat.le_of_ble_eq_true rfl) ?_
                    exact hl220_ ((lc.toInt - (0 : Int32).toInt).toNat + 1) (0) (by decide) (Nat.lt_succ_self _) _ _ _ hW (lv_sub hl [3, 4, 5, 6, 7, 1, 0] rfl)
                  · exact absurd (by subst ho; exact k_0) c7
                · exact absurd c6 (by decide)
            · exact absurd c4 (by decide)
          · skip
            refine lv_iconst (v := 1) hx hb dL_isSold_165 (by decide) ?_
            refine lv_goto (tgt := 170) hx hb dL_isSold_166 (by decide) ?_
            refine lv_istore (lv' := [(11, .int 1), (9, .long k4), (0, .ref aX), (1, .int a0), (2, .int lc), (3, .ref n9_), (4, .ref n14_), (5, .long (f_X2_iceOfAll lc lr qc).toInt64), (7, .int xr), (8, .int xf)]) hx hb dL_isSold_170 hl (by decide) rfl (fun ls hl => ?_)
            refine lv_aload_n hx hb dL_isSold_172 rfl (lv_at hl 2 rfl) ?_
            refine lv_iload_n hx hb dL_isSold_173 rfl (lv_at hl 3 rfl) ?_
            obtain ⟨o11_, eo11_⟩ : ∃ z9, f_X9_sell a0 k4 lc lr vD qc qp = z9 := ⟨_, rfl⟩
            refine xPi (wr := [(aS, .inr (6, [.ref aSv])), (aSv, .inl (cI, 11, .inl sf)), (aR, .inr (4, [.ref aRd, .ref aRo, .int rc, .int rl, .int rm])), (aRd, .inl (cI, 12, .inl rd)), (aRo, .inl (cI, 12, .inl ro)), (aP, .inr (3, [.ref aPc, .int pl])), (n9_, .inl (cI, 10, .inl fa)), (n14_, .inl (cI, 10, .inl fb))]) hW hA [0, 1, 4, 5, 6] [2, 3, 7, 8, 9, 10, 11, 12] rfl rfl (by decide) (by decide) (by decide) (xrunV (As := [.int a0]) (rest := []) ⟨hx, hb, hml, hown, hts⟩ (c_X9_sell l D cI cJ cZ cB H.size aX aV aL aLr aH a0 aVk aK aJ aP aQ aS aR tm k1 k2 k3 k4 k5 lc lr vT vG vM vO vN vD vA L qi qt qc qp (by assumption) (by assumption) o11_ eo11_) (cwV 1 hts gL_isSold_X9_sell rfl rfl rfl (by decide +kernel) ⟨Nat.le_of_ble_eq_true rfl, Nat.le_of_ble_eq_true rfl⟩) hK hG hW.2.2 (xsubP hW hA [0, 1, 4, 5, 6] rfl (by decide)) (va_recv hK hW.1 (ci := 9) (q0 := 0) rfl rfl) rfl hl.1 rfl (Nat.le_of_ble_eq_true rfl) dL_isSold_174 ⟨Nat.le_of_ble_eq_true rfl, Nat.le_of_ble_eq_true rfl⟩) (fun r12 _ H locs hq hW => ?_)
            rw [hq]
            have hW : xW D A s.heap ([(aS, .inr (6, [.ref aSv])), (aSv, .inl (cI, 11, .inl sf)), (aR, .inr (4, [.ref aRd, .ref aRo, .int rc, .int rl, .int rm])), (aRd, .inl (cI, 12, .inl rd)), (aRo, .inl (cI, 12, .inl ro)), (aP, .inr (3, [.ref aPc, .int pl])), (n9_, .inl (cI, 10, .inl fa)), (n14_, .inl (cI, 10, .inl fb)), (aX, .inr (9, [.ref aV, .ref aVk, .ref aK, .ref aJ, .ref aP, .ref aQ])), (aV, .inr (8, [.ref aS, .ref aL, .ref aH, .ref aR, .int tm, .long k1, .long k2, .long k3, .long o11_.2.1, .long k5])), (aL, .inr (2, [.ref aLr, .int lc])), (aLr, .inl (cB, 10, .inr (.inr (.inr (.inr lr))))), (aH, .inr (1, [.int vT, .long vG, .int vM, .int (bi vO), .int vN, .int (bi vD), .int vA]))] ++ bxP L qi qt o11_.2.2.1 o11_.2.2.2) H _ := hW
            have ho := so_can hJ hB ha eo11_ hle c1 hs c2 c3
            refine lv_iload hx hb dL_isSold_177 (lv_at hl 0 rfl) ?_
            refine lv_if_eq (tgt := 187) hx hb dL_isSold_179 (by decide) (fun c4 => ?_) (fun c4 => ?_)
            · exact absurd c4 (by decide)
            · skip
              refine lv_iload hx hb dL_isSold_182 (lv_at hl 9 rfl) ?_
              refine lv_goto (tgt := 189) hx hb dL_isSold_184 (by decide) ?_
              refine lv_icmp_ne (tgt := 215) hx hb dL_isSold_189 (by decide) (fun c5 => ?_) (fun c5 => ?_)
              · exact absurd (ho.1) c5
              · skip
                refine lv_aload_n hx hb dL_isSold_192 rfl (lv_at hl 2 rfl) ?_
                refine lv_iconst (v := 4) hx hb dL_isSold_193 (by decide) ?_
                refine vp_callSl (va_Run.run (xrunV (As := [.int 4]) (rest := []) ⟨hx, hb, hml, hown, hts⟩ (c_X9_account l D cI cJ cZ cB H.size aX aV aL aLr 4 aVk aK aJ aP aQ aS aH aR tm k1 k2 k3 o11_.2.1 k5 lc lr L qi qt o11_.2.2.1 o11_.2.2.2 (by assumption) (by assumption) _ rfl) (cwV 1 hts gL_isSold_X9_account rfl rfl rfl (by decide +kernel) ⟨Nat.le_of_ble_eq_true rfl, Nat.le_of_ble_eq_true rfl⟩) hK hG hW.2.2 (xsubP hW hA [8, 9, 10, 11] rfl (by decide)) (va_recv hK hW.1 (ci := 9) (q0 := 8) rfl rfl) rfl hl.1 rfl (Nat.le_of_ble_eq_true rfl) dL_isSold_194 ⟨Nat.le_of_ble_eq_true rfl, Nat.le_of_ble_eq_true rfl⟩)) (fun r13 hq => ?_)
                rw [hq, acc_4]
                refine lv_lload hx hb dL_isSold_197 (lv_at hl 1 rfl) ?_
                refine lv_iload hx hb dL_isSold_199 (lv_at hl 0 rfl) ?_
                refine lv_if_eq (tgt := 208) hx hb dL_isSold_201 (by decide) (fun c6 => ?_) (fun c6 => ?_)
                · exact absurd c6 (by decide)
                · skip
                  refine lv_iload_n hx hb dL_isSold_204 rfl (lv_at hl 3 rfl) ?_
                  refine lv_goto (tgt := 209) hx hb dL_isSold_205 (by decide) ?_
                  refine lv_i2l hx hb dL_isSold_209 rfl ?_
                  refine lv_ladd hx hb dL_isSold_210 ?_
                  refine xlc_eq (tgt := 217) hx hb dL_isSold_211 dL_isSold_212 (by decide) (fun c7 => ?_) (fun c7 => ?_)
                  · skip
                    refine lv_iconst (v := 0) hx hb dL_isSold_217 (by decide) ?_
                    refine lv_istore (lv' := [(12, .int 0), (11, .int 1), (9, .long k4), (0, .ref aX), (1, .int a0), (2, .int lc), (3, .ref n9_), (4, .ref n14_), (5, .long (f_X2_iceOfAll lc lr qc).toInt64), (7, .int xr), (8, .int xf)]) hx hb dL_isSold_218 hl (by decide) rfl (fun ls hl => ?_)
                    have hl220_ : ∀ (n : Nat) (xj : Int32), (0 ≤ xj.toInt) → (lc.toInt - xj.toInt).toNat < n → ∀ (H : Heap) (locs : List Loc) (ls : Array Slot), xW D A s.heap ([(aS, .inr (6, [.ref aSv])), (aSv, .inl (cI, 11, .inl sf)), (aR, .inr (4, [.ref aRd, .ref aRo, .int rc, .int rl, .int rm])), (aRd, .inl (cI, 12, .inl rd)), (aRo, .inl (cI, 12, .inl ro)), (aP, .inr (3, [.ref aPc, .int pl])), (n9_, .inl (cI, 10, .inl fa)), (n14_, .inl (cI, 10, .inl fb)), (aX, .inr (9, [.ref aV, .ref aVk, .ref aK, .ref aJ, .ref aP, .ref aQ])), (aV, .inr (8, [.ref aS, .ref aL, .ref aH, .ref aR, .int tm, .long k1, .long k2, .long k3, .long o11_.2.1, .long k5])), (aL, .inr (2, [.ref aLr, .int lc])), (aLr, .inl (cB, 10, .inr (.inr (.inr (.inr lr))))), (aH, .inr (1, [.int vT, .long vG, .int vM, .int (bi vO), .int vN, .int (bi vD), .int vA]))] ++ bxP L qi qt o11_.2.2.1 o11_.2.2.2) H locs → lv_has ls 13 [(0, .ref aX), (1, .int a0), (2, .int lc), (3, .ref n9_), (4, .ref n14_), (11, .int 1), (12, .int xj)] → W p l e ({ frames := 5, cells := 2, slots := 20, locals := 105 } : Room) s m [.ref aX, .int a0].toArray below meth c H locs 2 20 (MQ below (va_Qi (fun r (u : Int64 × (Nat → Int32) × (Nat → Int32)) => r = 1 ∧ JJ B Tm L lc lr rc rl rm rd ro sf vT vG vM vO vN vD vA tm k1 k2 k3 u.1 k5 qi qt u.2.1 u.2.2) (fun u t => xB D (([(aX, .inr (9, [.ref aV, .ref aVk, .ref aK, .ref aJ, .ref aP, .ref aQ])), (aV, .inr (8, [.ref aS, .ref aL, .ref aH, .ref aR, .int tm, .long k1, .long k2, .long k3, .long u.1, .long k5])), (aS, .inr (6, [.ref aSv])), (aSv, .inl (cI, 11, .inl sf)), (aL, .inr (2, [.ref aLr, .int lc])), (aLr, .inl (cB, 10, .inr (.inr (.inr (.inr lr))))), (aH, .inr (1, [.int vT, .long vG, .int vM, .int (bi vO), .int vN, .int (bi vD), .int vA])), (aR, .inr (4, [.ref aRd, .ref aRo, .int rc, .int rl, .int rm])), (aRd, .inl (cI, 12, .inl rd)), (aRo, .inl (cI, 12, .inl ro)), (aP, .inr (3, [.ref aPc, .int pl]))] : va_W) ++ bxP L qi qt u.2.1 u.2.2) A t) A) [.ref aX, .int a0].toArray s 2 20 A) (F0 m 220 ls []) := by
                      intro n
                      induction n with
                      | zero =>
                        intro xj _ hm
                        exact absurd hm (Nat.not_lt_zero _)
                      | succ n ih220 =>
                        intro xj hj0 hm220 H locs ls hW hl
                        refine lv_iload hx hb dL_isSold_220 (lv_at hl 6 rfl) ?_
                        refine lv_iload_n hx hb dL_isSold_222 rfl (lv_at hl 2 rfl) ?_
                        refine lv_icmp_ge (tgt := 268) hx hb dL_isSold_223 (by decide) (fun c8 => ?_) (fun c8 => ?_)
                        · skip
                          refine lv_iconst (v := 1) hx hb dL_isSold_268 (by decide) ?_
                          have hW := xW_perm (X' := [(aX, .inr (9, [.ref aV, .ref aVk, .ref aK, .ref aJ, .ref aP, .ref aQ])), (aV, .inr (8, [.ref aS, .ref aL, .ref aH, .ref aR, .int tm, .long k1, .long k2, .long k3, .long o11_.2.1, .long k5])), (aS, .inr (6, [.ref aSv])), (aSv, .inl (cI, 11, .inl sf)), (aL, .inr (2, [.ref aLr, .int lc])), (aLr, .inl (cB, 10, .inr (.inr (.inr (.inr lr))))), (aH, .inr (1, [.int vT, .long vG, .int vM, .int (bi vO), .int vN, .int (bi vD), .int vA])), (aR, .inr (4, [.ref aRd, .ref aRo, .int rc, .int rl, .int rm])), (aRd, .inl (cI, 12, .inl rd)), (aRo, .inl (cI, 12, .inl ro)), (aP, .inr (3, [.ref aPc, .int pl]))]) hW [8, 9, 0, 1, 10, 11, 12, 2, 3, 4, 5] rfl (by decide)
                          refine W.widen (k := 2) (n := 20) (Nat.le_of_ble_eq_true rfl) (Nat.le_of_ble_eq_true rfl) ?_
                          exact W.zret (v := 1) hx hb hrt rfl (fun t ht hM => ⟨⟨1, (o11_.2.1, o11_.2.2.1, o11_.2.2.2), rfl, ⟨rfl, ho.2.2.2⟩, ⟨by rw [ht]; exact hW.1, hW.2.1⟩⟩, hW.2.2.F ht⟩) hW.2.2.2.2 dL_isSold_269 hlocks
                        · skip
                          refine lv_iload hx hb dL_isSold_226 (lv_at hl 5 rfl) ?_
                          refine lv_if_eq (tgt := 268) hx hb dL_isSold_228 (by decide) (fun c9 => ?_) (fun c9 => ?_)
                          · exact absurd c9 (by decide)
                          · skip
                            refine lv_aload_n hx hb dL_isSold_231 rfl (lv_at hl 0 rfl) ?_
                            refine lv_iload hx hb dL_isSold_232 (lv_at hl 6 rfl) ?_
                            refine lv_iconst (v := 2) hx hb dL_isSold_234 (by decide) ?_
                            refine vp_callSi (va_Run.run (xrunV (As := [.int xj, .int 2]) (rest := []) ⟨hx, hb, hml, hown, hts⟩ (c_X9_box l D cI cJ cZ cB H.size aX aV aS aSv aL aLr aH xj 2 aVk aK aJ aP aQ aR tm k1 k2 k3 o11_.2.1 k5 sf lc lr vT vG vM vO vN vD vA L qi qt o11_.2.2.1 o11_.2.2.2 (by assumption) (by assumption) _ rfl) (cwV 2 hts gL_isSold_X9_box rfl rfl rfl (by decide +kernel) ⟨Nat.le_of_ble_eq_true rfl, Nat.le_of_ble_eq_true rfl⟩) hK hG hW.2.2 (xsubP hW hA [8, 9, 0, 1, 10, 11, 12] rfl (by decide)) (va_recv hK hW.1 (ci := 9) (q0 := 8) rfl rfl) rfl hl.1 rfl (Nat.le_of_ble_eq_true rfl) dL_isSold_235 ⟨Nat.le_of_ble_eq_true rfl, Nat.le_of_ble_eq_true rfl⟩)) (fun r14 hq => ?_)
                            rw [hq, bx_2 (wi_lp hj0 c8 hc)]
                            refine lv_aload_n hx hb dL_isSold_238 rfl (lv_at hl 3 rfl) ?_
                            refine lv_iload hx hb dL_isSold_239 (lv_at hl 6 rfl) ?_
                            refine xiald hx hb hK hW.1 6 0 rfl rfl (in_lt hj0 c8 hc.2) xj.toNatClampNeg rfl (v := fa xj.toNatClampNeg) rfl dL_isSold_241 ?_
                            refine lv_icmp_ne (tgt := 260) hx hb dL_isSold_242 (by decide) (fun c10 => ?_) (fun c10 => ?_)
                            · exact absurd ((ho.2.2.1 xj.toNatClampNeg (lt_n hj0 c8)).1) c10
                            · skip
                              refine lv_aload_n hx hb dL_isSold_245 rfl (lv_at hl 0 rfl) ?_
                              refine lv_iload hx hb dL_isSold_246 (lv_at hl 6 rfl) ?_
                              refine lv_iconst (v := 3) hx hb dL_isSold_248 (by decide) ?_
                              refine vp_callSi (va_Run.run (xrunV (As := [.int xj, .int 3]) (rest := []) ⟨hx, hb, hml, hown, hts⟩ (c_X9_box l D cI cJ cZ cB H.size aX aV aS aSv aL aLr aH xj 3 aVk aK aJ aP aQ aR tm k1 k2 k3 o11_.2.1 k5 sf lc lr vT vG vM vO vN vD vA L qi qt o11_.2.2.1 o11_.2.2.2 (by assumption) (by assumption) _ rfl) (cwV 2 hts gL_isSold_X9_box rfl rfl rfl (by decide +kernel) ⟨Nat.le_of_ble_eq_true rfl, Nat.le_of_ble_eq_true rfl⟩) hK hG hW.2.2 (xsubP hW hA [8, 9, 0, 1, 10, 11, 12] rfl (by decide)) (va_recv hK hW.1 (ci := 9) (q0 := 8) rfl rfl) rfl hl.1 rfl (Nat.le_of_ble_eq_true rfl) dL_isSold_249 ⟨Nat.le_of_ble_eq_true rfl, Nat.le_of_ble_eq_true rfl⟩)) (fun r15 hq => ?_)
                              rw [hq, bx_3 (wi_lp hj0 c8 hc)]
                              refine lv_aload hx hb dL_isSold_252 (lv_at hl 4 rfl) ?_
                              refine lv_iload hx hb dL_isSold_254 (lv_at hl 6 rfl) ?_
                              refine xiald hx hb hK hW.1 7 0 rfl rfl (in_lt hj0 c8 hc.2) xj.toNatClampNeg rfl (v := fb xj.toNatClampNeg) rfl dL_isSold_256 ?_
                              refine lv_icmp_eq (tgt := 262) hx hb dL_isSold_257 (by decide) (fun c11 => ?_) (fun c11 => ?_)
                              · skip
                                refine lv_iinc (v := xj + 1) (lv' := [(12, .int (xj + 1)), (0, .ref aX), (1, .int a0), (2, .int lc), (3, .ref n9_), (4, .ref n14_), (11, .int 1)]) hx hb dL_isSold_262 hl (k := 6) rfl rfl (by decide) rfl (fun ls hl => ?_)
                                refine lv_goto (tgt := 220) hx hb dL_isSold_265 (by decide) ?_
                                refine W.widen (k := 2) (n := 20) (Nat.le_of_ble_eq_true rfl) (Nat.le_of_ble_eq_true rfl) ?_
                                exact ih220 (xj + 1) (up_0 hj0 c8) (up_mu c8 hm220) _ _ _ hW (lv_sub hl [1, 2, 3, 4, 5, 6, 0] rfl)
                              · exact absurd ((ho.2.2.1 xj.toNatClampNeg (lt_n hj0 c8)).2) c11
                    refine W.widen (k := 2) (n := 20) (Nat.le_of_ble_eq_true rfl) (Nat.le_of_ble_eq_true rfl) ?_
                    exact hl220_ ((lc.toInt - (0 : Int32).toInt).toNat + 1) (0) (by decide) (Nat.lt_succ_self _) _ _ _ hW (lv_sub hl [3, 4, 5, 6, 7, 1, 0] rfl)
                  · exact absurd (ho.2.1) c7
      · skip
        refine lv_iload hx hb dL_isSold_40 (lv_at hl 6 rfl) ?_
        refine lv_aload_n hx hb dL_isSold_42 rfl (lv_at hl 0 rfl) ?_
        refine lv_iload hx hb dL_isSold_43 (lv_at hl 8 rfl) ?_
        refine lv_iconst (v := 2) hx hb dL_isSold_45 (by decide) ?_
        refine vp_callSi (va_Run.run (xrunV (As := [.int xi, .int 2]) (rest := [.int xr]) ⟨hx, hb, hml, hown, hts⟩ (c_X9_box l D cI cJ cZ cB H.size aX aV aS aSv aL aLr aH xi 2 aVk aK aJ aP aQ aR tm k1 k2 k3 k4 k5 sf lc lr vT vG vM vO vN vD vA L qi qt qc qp (by assumption) (by assumption) _ rfl) (cwV 2 hts gL_isSold_X9_box rfl rfl rfl (by decide +kernel) ⟨Nat.le_of_ble_eq_true rfl, Nat.le_of_ble_eq_true rfl⟩) hK hG hW.2.2 (xsubP hW hA [0, 1, 2, 3, 4, 5, 6] rfl (by decide)) (va_recv hK hW.1 (ci := 9) (q0 := 0) rfl rfl) rfl hl.1 rfl (Nat.le_of_ble_eq_true rfl) dL_isSold_46 ⟨Nat.le_of_ble_eq_true rfl, Nat.le_of_ble_eq_true rfl⟩)) (fun r16 hq => ?_)
        rw [hq, bx_2 (wi_lp hi0 c1 hc)]
        refine W.widen (k := 2) (n := 20) (Nat.le_of_ble_eq_true rfl) (Nat.le_of_ble_eq_true rfl) ?_
        have hJ64 : ∀ (u64_s0 : Int32) (H : Heap) (locs : List Loc) (ls : Array Slot), u64_s0 = (if (qc (bxa lr xi.toNatClampNeg)) ≤ xr then (qc (bxa lr xi.toNatClampNeg)) else xr) → xW D A s.heap ([(aX, .inr (9, [.ref aV, .ref aVk, .ref aK, .ref aJ, .ref aP, .ref aQ])), (aV, .inr (8, [.ref aS, .ref aL, .ref aH, .ref aR, .int tm, .long k1, .long k2, .long k3, .long k4, .long k5])), (aS, .inr (6, [.ref aSv])), (aSv, .inl (cI, 11, .inl sf)), (aL, .inr (2, [.ref aLr, .int lc])), (aLr, .inl (cB, 10, .inr (.inr (.inr (.inr lr))))), (aH, .inr (1, [.int vT, .long vG, .int vM, .int (bi vO), .int vN, .int (bi vD), .int vA])), (aR, .inr (4, [.ref aRd, .ref aRo, .int rc, .int rl, .int rm])), (aRd, .inl (cI, 12, .inl rd)), (aRo, .inl (cI, 12, .inl ro)), (aP, .inr (3, [.ref aPc, .int pl])), (n9_, .inl (cI, 10, .inl fa)), (n14_, .inl (cI, 10, .inl fb))] ++ bxP L qi qt qc qp) H locs → lv_has ls 13 [(0, .ref aX), (1, .int a0), (2, .int lc), (3, .ref n9_), (4, .ref n14_), (5, .long (f_X2_iceOfAll lc lr qc).toInt64), (7, .int xr), (8, .int xf), (9, .int xi)] → W p l e ({ frames := 5, cells := 2, slots := 20, locals := 105 } : Room) s m [.ref aX, .int a0].toArray below meth c H locs 2 20 (MQ below (va_Qi (fun r (u : Int64 × (Nat → Int32) × (Nat → Int32)) => r = 1 ∧ JJ B Tm L lc lr rc rl rm rd ro sf vT vG vM vO vN vD vA tm k1 k2 k3 u.1 k5 qi qt u.2.1 u.2.2) (fun u t => xB D (([(aX, .inr (9, [.ref aV, .ref aVk, .ref aK, .ref aJ, .ref aP, .ref aQ])), (aV, .inr (8, [.ref aS, .ref aL, .ref aH, .ref aR, .int tm, .long k1, .long k2, .long k3, .long u.1, .long k5])), (aS, .inr (6, [.ref aSv])), (aSv, .inl (cI, 11, .inl sf)), (aL, .inr (2, [.ref aLr, .int lc])), (aLr, .inl (cB, 10, .inr (.inr (.inr (.inr lr))))), (aH, .inr (1, [.int vT, .long vG, .int vM, .int (bi vO), .int vN, .int (bi vD), .int vA])), (aR, .inr (4, [.ref aRd, .ref aRo, .int rc, .int rl, .int rm])), (aRd, .inl (cI, 12, .inl rd)), (aRo, .inl (cI, 12, .inl ro)), (aP, .inr (3, [.ref aPc, .int pl]))] : va_W) ++ bxP L qi qt u.2.1 u.2.2) A t) A) [.ref aX, .int a0].toArray s 2 20 A) (F0 m 64 ls [.int u64_s0]) := by
          intro u64_s0 H locs ls eu64_s0 hW hl
          refine lv_istore (lv' := [(10, .int u64_s0), (0, .ref aX), (1, .int a0), (2, .int lc), (3, .ref n9_), (4, .ref n14_), (5, .long (f_X2_iceOfAll lc lr qc).toInt64), (7, .int xr), (8, .int xf), (9, .int xi)]) hx hb dL_isSold_64 hl (by decide) rfl (fun ls hl => ?_)
          refine lv_aload_n hx hb dL_isSold_66 rfl (lv_at hl 4 rfl) ?_
          refine lv_iload hx hb dL_isSold_67 (lv_at hl 9 rfl) ?_
          refine lv_aload_n hx hb dL_isSold_69 rfl (lv_at hl 1 rfl) ?_
          refine lv_iload hx hb dL_isSold_70 (lv_at hl 9 rfl) ?_
          refine lv_iconst (v := 2) hx hb dL_isSold_72 (by decide) ?_
          refine vp_callSi (va_Run.run (xrunV (As := [.int xi, .int 2]) (rest := [.int xi, .ref n9_]) ⟨hx, hb, hml, hown, hts⟩ (c_X9_box l D cI cJ cZ cB H.size aX aV aS aSv aL aLr aH xi 2 aVk aK aJ aP aQ aR tm k1 k2 k3 k4 k5 sf lc lr vT vG vM vO vN vD vA L qi qt qc qp (by assumption) (by assumption) _ rfl) (cwV 2 hts gL_isSold_X9_box rfl rfl rfl (by decide +kernel) ⟨Nat.le_of_ble_eq_true rfl, Nat.le_of_ble_eq_true rfl⟩) hK hG hW.2.2 (xsubP hW hA [0, 1, 2, 3, 4, 5, 6] rfl (by decide)) (va_recv hK hW.1 (ci := 9) (q0 := 0) rfl rfl) rfl hl.1 rfl (Nat.le_of_ble_eq_true rfl) dL_isSold_73 ⟨Nat.le_of_ble_eq_true rfl, Nat.le_of_ble_eq_true rfl⟩)) (fun r17 hq => ?_)
          rw [hq, bx_2 (wi_lp hi0 c1 hc)]
          refine lv_iload hx hb dL_isSold_76 (lv_at hl 0 rfl) ?_
          refine lv_isub hx hb dL_isSold_78 ?_
          refine xiast hx hb hK hW 11 0 rfl (Nat.le_of_ble_eq_true rfl) rfl (in_lt hi0 c1 hc.2) xi.toNatClampNeg rfl dL_isSold_79 (fun H locs hW => ?_)
          have hW : xW D A s.heap ([(aX, .inr (9, [.ref aV, .ref aVk, .ref aK, .ref aJ, .ref aP, .ref aQ])), (aV, .inr (8, [.ref aS, .ref aL, .ref aH, .ref aR, .int tm, .long k1, .long k2, .long k3, .long k4, .long k5])), (aS, .inr (6, [.ref aSv])), (aSv, .inl (cI, 11, .inl sf)), (aL, .inr (2, [.ref aLr, .int lc])), (aLr, .inl (cB, 10, .inr (.inr (.inr (.inr lr))))), (aH, .inr (1, [.int vT, .long vG, .int vM, .int (bi vO), .int vN, .int (bi vD), .int vA])), (aR, .inr (4, [.ref aRd, .ref aRo, .int rc, .int rl, .int rm])), (aRd, .inl (cI, 12, .inl rd)), (aRo, .inl (cI, 12, .inl ro)), (aP, .inr (3, [.ref aPc, .int pl])), (n9_, .inl (cI, 10, .inl (upd fa xi.toNatClampNeg ((qc (bxa lr xi.toNatClampNeg)) - u64_s0)))), (n14_, .inl (cI, 10, .inl fb))] ++ bxP L qi qt qc qp) H _ := hW
          refine lv_aload hx hb dL_isSold_80 (lv_at hl 5 rfl) ?_
          refine lv_iload hx hb dL_isSold_82 (lv_at hl 9 rfl) ?_
          refine lv_aload_n hx hb dL_isSold_84 rfl (lv_at hl 1 rfl) ?_
          refine lv_iload hx hb dL_isSold_85 (lv_at hl 9 rfl) ?_
          refine lv_iconst (v := 3) hx hb dL_isSold_87 (by decide) ?_
          refine vp_callSi (va_Run.run (xrunV (As := [.int xi, .int 3]) (rest := [.int xi, .ref n14_]) ⟨hx, hb, hml, hown, hts⟩ (c_X9_box l D cI cJ cZ cB H.size aX aV aS aSv aL aLr aH xi 3 aVk aK aJ aP aQ aR tm k1 k2 k3 k4 k5 sf lc lr vT vG vM vO vN vD vA L qi qt qc qp (by assumption) (by assumption) _ rfl) (cwV 2 hts gL_isSold_X9_box rfl rfl rfl (by decide +kernel) ⟨Nat.le_of_ble_eq_true rfl, Nat.le_of_ble_eq_true rfl⟩) hK hG hW.2.2 (xsubP hW hA [0, 1, 2, 3, 4, 5, 6] rfl (by decide)) (va_recv hK hW.1 (ci := 9) (q0 := 0) rfl rfl) rfl hl.1 rfl (Nat.le_of_ble_eq_true rfl) dL_isSold_88 ⟨Nat.le_of_ble_eq_true rfl, Nat.le_of_ble_eq_true rfl⟩)) (fun r18 hq => ?_)
          rw [hq, bx_3 (wi_lp hi0 c1 hc)]
          refine lv_iload hx hb dL_isSold_91 (lv_at hl 0 rfl) ?_
          refine lv_isub hx hb dL_isSold_93 ?_
          refine W.widen (k := 2) (n := 20) (Nat.le_of_ble_eq_true rfl) (Nat.le_of_ble_eq_true rfl) ?_
          have hJ111 : ∀ (u111_s0 : Int32) (H : Heap) (locs : List Loc) (ls : Array Slot), u111_s0 = (if 0 ≤ ((qp (bxa lr xi.toNatClampNeg)) - u64_s0) then ((qp (bxa lr xi.toNatClampNeg)) - u64_s0) else (0 : Int32)) → xW D A s.heap ([(aX, .inr (9, [.ref aV, .ref aVk, .ref aK, .ref aJ, .ref aP, .ref aQ])), (aV, .inr (8, [.ref aS, .ref aL, .ref aH, .ref aR, .int tm, .long k1, .long k2, .long k3, .long k4, .long k5])), (aS, .inr (6, [.ref aSv])), (aSv, .inl (cI, 11, .inl sf)), (aL, .inr (2, [.ref aLr, .int lc])), (aLr, .inl (cB, 10, .inr (.inr (.inr (.inr lr))))), (aH, .inr (1, [.int vT, .long vG, .int vM, .int (bi vO), .int vN, .int (bi vD), .int vA])), (aR, .inr (4, [.ref aRd, .ref aRo, .int rc, .int rl, .int rm])), (aRd, .inl (cI, 12, .inl rd)), (aRo, .inl (cI, 12, .inl ro)), (aP, .inr (3, [.ref aPc, .int pl])), (n9_, .inl (cI, 10, .inl (upd fa xi.toNatClampNeg ((qc (bxa lr xi.toNatClampNeg)) - u64_s0)))), (n14_, .inl (cI, 10, .inl fb))] ++ bxP L qi qt qc qp) H locs → lv_has ls 13 [(10, .int u64_s0), (0, .ref aX), (1, .int a0), (2, .int lc), (3, .ref n9_), (4, .ref n14_), (5, .long (f_X2_iceOfAll lc lr qc).toInt64), (7, .int xr), (8, .int xf), (9, .int xi)] → W p l e ({ frames := 5, cells := 2, slots := 20, locals := 105 } : Room) s m [.ref aX, .int a0].toArray below meth c H locs 2 20 (MQ below (va_Qi (fun r (u : Int64 × (Nat → Int32) × (Nat → Int32)) => r = 1 ∧ JJ B Tm L lc lr rc rl rm rd ro sf vT vG vM vO vN vD vA tm k1 k2 k3 u.1 k5 qi qt u.2.1 u.2.2) (fun u t => xB D (([(aX, .inr (9, [.ref aV, .ref aVk, .ref aK, .ref aJ, .ref aP, .ref aQ])), (aV, .inr (8, [.ref aS, .ref aL, .ref aH, .ref aR, .int tm, .long k1, .long k2, .long k3, .long u.1, .long k5])), (aS, .inr (6, [.ref aSv])), (aSv, .inl (cI, 11, .inl sf)), (aL, .inr (2, [.ref aLr, .int lc])), (aLr, .inl (cB, 10, .inr (.inr (.inr (.inr lr))))), (aH, .inr (1, [.int vT, .long vG, .int vM, .int (bi vO), .int vN, .int (bi vD), .int vA])), (aR, .inr (4, [.ref aRd, .ref aRo, .int rc, .int rl, .int rm])), (aRd, .inl (cI, 12, .inl rd)), (aRo, .inl (cI, 12, .inl ro)), (aP, .inr (3, [.ref aPc, .int pl]))] : va_W) ++ bxP L qi qt u.2.1 u.2.2) A t) A) [.ref aX, .int a0].toArray s 2 20 A) (F0 m 111 ls [.int u111_s0, .int xi, .ref n14_]) := by
            intro u111_s0 H locs ls eu111_s0 hW hl
            refine xiast hx hb hK hW 12 0 rfl (Nat.le_of_ble_eq_true rfl) rfl (in_lt hi0 c1 hc.2) xi.toNatClampNeg rfl dL_isSold_111 (fun H locs hW => ?_)
            have hW : xW D A s.heap ([(aX, .inr (9, [.ref aV, .ref aVk, .ref aK, .ref aJ, .ref aP, .ref aQ])), (aV, .inr (8, [.ref aS, .ref aL, .ref aH, .ref aR, .int tm, .long k1, .long k2, .long k3, .long k4, .long k5])), (aS, .inr (6, [.ref aSv])), (aSv, .inl (cI, 11, .inl sf)), (aL, .inr (2, [.ref aLr, .int lc])), (aLr, .inl (cB, 10, .inr (.inr (.inr (.inr lr))))), (aH, .inr (1, [.int vT, .long vG, .int vM, .int (bi vO), .int vN, .int (bi vD), .int vA])), (aR, .inr (4, [.ref aRd, .ref aRo, .int rc, .int rl, .int rm])), (aRd, .inl (cI, 12, .inl rd)), (aRo, .inl (cI, 12, .inl ro)), (aP, .inr (3, [.ref aPc, .int pl])), (n9_, .inl (cI, 10, .inl (upd fa xi.toNatClampNeg ((qc (bxa lr xi.toNatClampNeg)) - u64_s0)))), (n14_, .inl (cI, 10, .inl (upd fb xi.toNatClampNeg u111_s0)))] ++ bxP L qi qt qc qp) H _ := hW
            refine lv_iload hx hb dL_isSold_112 (lv_at hl 8 rfl) ?_
            refine lv_iload hx hb dL_isSold_114 (lv_at hl 0 rfl) ?_
            refine W.widen (k := 2) (n := 20) (Nat.le_of_ble_eq_true rfl) (Nat.le_of_ble_eq_true rfl) ?_
            have hJ124 : ∀ (u124_s0 : Int32) (H : Heap) (locs : List Loc) (ls : Array Slot), u124_s0 = (if u64_s0 ≤ 0 then (0 : Int32) else (1 : Int32)) → xW D A s.heap ([(aX, .inr (9, [.ref aV, .ref aVk, .ref aK, .ref aJ, .ref aP, .ref aQ])), (aV, .inr (8, [.ref aS, .ref aL, .ref aH, .ref aR, .int tm, .long k1, .long k2, .long k3, .long k4, .long k5])), (aS, .inr (6, [.ref aSv])), (aSv, .inl (cI, 11, .inl sf)), (aL, .inr (2, [.ref aLr, .int lc])), (aLr, .inl (cB, 10, .inr (.inr (.inr (.inr lr))))), (aH, .inr (1, [.int vT, .long vG, .int vM, .int (bi vO), .int vN, .int (bi vD), .int vA])), (aR, .inr (4, [.ref aRd, .ref aRo, .int rc, .int rl, .int rm])), (aRd, .inl (cI, 12, .inl rd)), (aRo, .inl (cI, 12, .inl ro)), (aP, .inr (3, [.ref aPc, .int pl])), (n9_, .inl (cI, 10, .inl (upd fa xi.toNatClampNeg ((qc (bxa lr xi.toNatClampNeg)) - u64_s0)))), (n14_, .inl (cI, 10, .inl (upd fb xi.toNatClampNeg u111_s0)))] ++ bxP L qi qt qc qp) H locs → lv_has ls 13 [(10, .int u64_s0), (0, .ref aX), (1, .int a0), (2, .int lc), (3, .ref n9_), (4, .ref n14_), (5, .long (f_X2_iceOfAll lc lr qc).toInt64), (7, .int xr), (8, .int xf), (9, .int xi)] → W p l e ({ frames := 5, cells := 2, slots := 20, locals := 105 } : Room) s m [.ref aX, .int a0].toArray below meth c H locs 2 20 (MQ below (va_Qi (fun r (u : Int64 × (Nat → Int32) × (Nat → Int32)) => r = 1 ∧ JJ B Tm L lc lr rc rl rm rd ro sf vT vG vM vO vN vD vA tm k1 k2 k3 u.1 k5 qi qt u.2.1 u.2.2) (fun u t => xB D (([(aX, .inr (9, [.ref aV, .ref aVk, .ref aK, .ref aJ, .ref aP, .ref aQ])), (aV, .inr (8, [.ref aS, .ref aL, .ref aH, .ref aR, .int tm, .long k1, .long k2, .long k3, .long u.1, .long k5])), (aS, .inr (6, [.ref aSv])), (aSv, .inl (cI, 11, .inl sf)), (aL, .inr (2, [.ref aLr, .int lc])), (aLr, .inl (cB, 10, .inr (.inr (.inr (.inr lr))))), (aH, .inr (1, [.int vT, .long vG, .int vM, .int (bi vO), .int vN, .int (bi vD), .int vA])), (aR, .inr (4, [.ref aRd, .ref aRo, .int rc, .int rl, .int rm])), (aRd, .inl (cI, 12, .inl rd)), (aRo, .inl (cI, 12, .inl ro)), (aP, .inr (3, [.ref aPc, .int pl]))] : va_W) ++ bxP L qi qt u.2.1 u.2.2) A t) A) [.ref aX, .int a0].toArray s 2 20 A) (F0 m 124 ls [.int u124_s0, .int xf]) := by
              intro u124_s0 H locs ls eu124_s0 hW hl
              refine lv_iadd hx hb dL_isSold_124 ?_
              refine lv_istore (lv' := [(8, .int (xf + u124_s0)), (10, .int u64_s0), (0, .ref aX), (1, .int a0), (2, .int lc), (3, .ref n9_), (4, .ref n14_), (5, .long (f_X2_iceOfAll lc lr qc).toInt64), (7, .int xr), (9, .int xi)]) hx hb dL_isSold_125 hl (by decide) rfl (fun ls hl => ?_)
              refine lv_iload hx hb dL_isSold_127 (lv_at hl 8 rfl) ?_
              refine lv_iload hx hb dL_isSold_129 (lv_at hl 1 rfl) ?_
              refine lv_isub hx hb dL_isSold_131 ?_
              refine lv_istore (lv' := [(7, .int (xr - u64_s0)), (8, .int (xf + u124_s0)), (10, .int u64_s0), (0, .ref aX), (1, .int a0), (2, .int lc), (3, .ref n9_), (4, .ref n14_), (5, .long (f_X2_iceOfAll lc lr qc).toInt64), (9, .int xi)]) hx hb dL_isSold_132 hl (by decide) rfl (fun ls hl => ?_)
              refine lv_iinc (v := xi + 1) (lv' := [(9, .int (xi + 1)), (7, .int (xr - u64_s0)), (8, .int (xf + u124_s0)), (10, .int u64_s0), (0, .ref aX), (1, .int a0), (2, .int lc), (3, .ref n9_), (4, .ref n14_), (5, .long (f_X2_iceOfAll lc lr qc).toInt64)]) hx hb dL_isSold_134 hl (k := 9) rfl rfl (by decide) rfl (fun ls hl => ?_)
              refine lv_goto (tgt := 34) hx hb dL_isSold_137 (by decide) ?_
              refine W.widen (k := 2) (n := 20) (Nat.le_of_ble_eq_true rfl) (Nat.le_of_ble_eq_true rfl) ?_
              exact ih34 (xr - u64_s0) (xf + u124_s0) (xi + 1) (upd fa xi.toNatClampNeg ((qc (bxa lr xi.toNatClampNeg)) - u64_s0)) (upd fb xi.toNatClampNeg u111_s0) (up_0 hi0 c1) (up_e c1) (so_s hJ ha hi0 c1 hs eu64_s0 eu111_s0 eu124_s0) (up_mu c1 hm34) _ _ _ hW (lv_sub hl [4, 5, 6, 7, 8, 9, 1, 2, 0] rfl)
            refine lv_if_le (tgt := 123) hx hb dL_isSold_116 (by decide) (fun c4 => ?_) (fun c4 => ?_)
            · skip
              refine lv_iconst (v := 0) hx hb dL_isSold_123 (by decide) ?_
              exact hJ124 ((0 : Int32)) _ _ _ (by rw [if_pos c4]) hW (lv_sub hl [0, 1, 2, 3, 4, 5, 6, 7, 8, 9] rfl)
            · skip
              refine lv_iconst (v := 1) hx hb dL_isSold_119 (by decide) ?_
              refine lv_goto (tgt := 124) hx hb dL_isSold_120 (by decide) ?_
              exact hJ124 ((1 : Int32)) _ _ _ (by rw [if_neg c4]) hW (lv_sub hl [0, 1, 2, 3, 4, 5, 6, 7, 8, 9] rfl)
          refine lv_if_ge (tgt := 101) hx hb dL_isSold_94 (by decide) (fun c3 => ?_) (fun c3 => ?_)
          · skip
            refine lv_aload_n hx hb dL_isSold_101 rfl (lv_at hl 1 rfl) ?_
            refine lv_iload hx hb dL_isSold_102 (lv_at hl 9 rfl) ?_
            refine lv_iconst (v := 3) hx hb dL_isSold_104 (by decide) ?_
            refine vp_callSi (va_Run.run (xrunV (As := [.int xi, .int 3]) (rest := [.int xi, .ref n14_]) ⟨hx, hb, hml, hown, hts⟩ (c_X9_box l D cI cJ cZ cB H.size aX aV aS aSv aL aLr aH xi 3 aVk aK aJ aP aQ aR tm k1 k2 k3 k4 k5 sf lc lr vT vG vM vO vN vD vA L qi qt qc qp (by assumption) (by assumption) _ rfl) (cwV 2 hts gL_isSold_X9_box rfl rfl rfl (by decide +kernel) ⟨Nat.le_of_ble_eq_true rfl, Nat.le_of_ble_eq_true rfl⟩) hK hG hW.2.2 (xsubP hW hA [0, 1, 2, 3, 4, 5, 6] rfl (by decide)) (va_recv hK hW.1 (ci := 9) (q0 := 0) rfl rfl) rfl hl.1 rfl (Nat.le_of_ble_eq_true rfl) dL_isSold_105 ⟨Nat.le_of_ble_eq_true rfl, Nat.le_of_ble_eq_true rfl⟩)) (fun r19 hq => ?_)
            rw [hq, bx_3 (wi_lp hi0 c1 hc)]
            refine lv_iload hx hb dL_isSold_108 (lv_at hl 0 rfl) ?_
            refine lv_isub hx hb dL_isSold_110 ?_
            exact hJ111 ((qp (bxa lr xi.toNatClampNeg)) - u64_s0) _ _ _ (by rw [if_pos c3]) hW (lv_sub hl [0, 1, 2, 3, 4, 5, 6, 7, 8, 9] rfl)
          · skip
            refine lv_iconst (v := 0) hx hb dL_isSold_97 (by decide) ?_
            refine lv_goto (tgt := 111) hx hb dL_isSold_98 (by decide) ?_
            exact hJ111 ((0 : Int32)) _ _ _ (by rw [if_neg c3]) hW (lv_sub hl [0, 1, 2, 3, 4, 5, 6, 7, 8, 9] rfl)
        refine lv_icmp_ge (tgt := 57) hx hb dL_isSold_49 (by decide) (fun c2 => ?_) (fun c2 => ?_)
        · skip
          refine lv_aload_n hx hb dL_isSold_57 rfl (lv_at hl 0 rfl) ?_
          refine lv_iload hx hb dL_isSold_58 (lv_at hl 8 rfl) ?_
          refine lv_iconst (v := 2) hx hb dL_isSold_60 (by decide) ?_
          refine vp_callSi (va_Run.run (xrunV (As := [.int xi, .int 2]) (rest := []) ⟨hx, hb, hml, hown, hts⟩ (c_X9_box l D cI cJ cZ cB H.size aX aV aS aSv aL aLr aH xi 2 aVk aK aJ aP aQ aR tm k1 k2 k3 k4 k5 sf lc lr vT vG vM vO vN vD vA L qi qt qc qp (by assumption) (by assumption) _ rfl) (cwV 2 hts gL_isSold_X9_box rfl rfl rfl (by decide +kernel) ⟨Nat.le_of_ble_eq_true rfl, Nat.le_of_ble_eq_true rfl⟩) hK hG hW.2.2 (xsubP hW hA [0, 1, 2, 3, 4, 5, 6] rfl (by decide)) (va_recv hK hW.1 (ci := 9) (q0 := 0) rfl rfl) rfl hl.1 rfl (Nat.le_of_ble_eq_true rfl) dL_isSold_61 ⟨Nat.le_of_ble_eq_true rfl, Nat.le_of_ble_eq_true rfl⟩)) (fun r20 hq => ?_)
          rw [hq, bx_2 (wi_lp hi0 c1 hc)]
          exact hJ64 (qc (bxa lr xi.toNatClampNeg)) _ _ _ (by rw [if_pos c2]) hW (lv_sub hl [0, 1, 2, 3, 4, 5, 6, 7, 8] rfl)
        · skip
          refine lv_iload hx hb dL_isSold_52 (lv_at hl 6 rfl) ?_
          refine lv_goto (tgt := 64) hx hb dL_isSold_54 (by decide) ?_
          exact hJ64 (xr) _ _ _ (by rw [if_neg c2]) hW (lv_sub hl [0, 1, 2, 3, 4, 5, 6, 7, 8] rfl)
  refine W.widen (k := 2) (n := 20) (Nat.le_of_ble_eq_true rfl) (Nat.le_of_ble_eq_true rfl) ?_
  exact hl34_ ((lc.toInt - (0 : Int32).toInt).toNat + 1) a0 (0) (0) (fun _ => 0) (fun _ => 0) (by decide) (by have := hc.1; rw [xI0]; exact this) (so_0) (Nat.lt_succ_self _) _ _ _ hW (lv_sub hl [7, 8, 6, 5, 4, 3, 2, 1, 0] rfl)
