set_option maxHeartbeats 4000000 in
set_option maxRecDepth 100000 in
theorem c_L_addsUp (l : Launch) (D : va_G) (cI cJ cZ cB : ClassId) (sz : Nat) (aX : Nat) (aV : Nat) (aS : Nat) (aSv : Nat) (aL : Nat) (aLr : Nat) (aH : Nat) (aR : Nat) (aRd : Nat) (aRo : Nat) (aP : Nat) (aVk : Nat) (aK : Nat) (aJ : Nat) (aQ : Nat) (tm : Int32) (k1 : Int64) (k2 : Int64) (k3 : Int64) (k4 : Int64) (k5 : Int64) (sf : Nat → Int32) (lc : Int32) (lr : Nat → Option Nat) (vT : Int32) (vG : Int64) (vM : Int32) (vO : Bool) (vN : Int32) (vD : Bool) (vA : Int32) (rc : Int32) (rl : Int32) (rm : Int32) (rd : Nat → Int32) (ro : Nat → Int32) (aPc : Nat) (pl : Int32) (L : List Nat) (qi : Nat → Int32) (qt : Nat → Int32) (qc : Nat → Int32) (qp : Nat → Int32) (B : Int) (Tm : Int) (hJ : JJ B Tm L lc lr rc rl rm rd ro sf vT vG vM vO vN vD vA tm k1 k2 k3 k4 k5 qi qt qc qp) (hB : B ≤ 100000000) (hTm : Tm ≤ 1000) : Met l yL_addsUp wsL_addsUp ({ frames := 5, cells := 0, slots := 0, locals := 105 } : Room) (xPre D (xT cI cJ cZ cB) [.ref aX] ([(aX, .inr (9, [.ref aV, .ref aVk, .ref aK, .ref aJ, .ref aP, .ref aQ])), (aV, .inr (8, [.ref aS, .ref aL, .ref aH, .ref aR, .int tm, .long k1, .long k2, .long k3, .long k4, .long k5])), (aS, .inr (6, [.ref aSv])), (aSv, .inl (cI, 11, .inl sf)), (aL, .inr (2, [.ref aLr, .int lc])), (aLr, .inl (cB, 10, .inr (.inr (.inr (.inr lr))))), (aH, .inr (1, [.int vT, .long vG, .int vM, .int (bi vO), .int vN, .int (bi vD), .int vA])), (aR, .inr (4, [.ref aRd, .ref aRo, .int rc, .int rl, .int rm])), (aRd, .inl (cI, 12, .inl rd)), (aRo, .inl (cI, 12, .inl ro)), (aP, .inr (3, [.ref aPc, .int pl]))] ++ bxP L qi qt qc qp) sz) ((fun A0 => va_Qi (fun r (u : Unit) => r = 1 ∧ JJ B Tm L lc lr rc rl rm rd ro sf vT vG vM vO vN vD vA tm k1 k2 k3 k4 k5 qi qt qc qp) (fun _ t => xB D (([(aX, .inr (9, [.ref aV, .ref aVk, .ref aK, .ref aJ, .ref aP, .ref aQ])), (aV, .inr (8, [.ref aS, .ref aL, .ref aH, .ref aR, .int tm, .long k1, .long k2, .long k3, .long k4, .long k5])), (aS, .inr (6, [.ref aSv])), (aSv, .inl (cI, 11, .inl sf)), (aL, .inr (2, [.ref aLr, .int lc])), (aLr, .inl (cB, 10, .inr (.inr (.inr (.inr lr))))), (aH, .inr (1, [.int vT, .long vG, .int vM, .int (bi vO), .int vN, .int (bi vD), .int vA])), (aR, .inr (4, [.ref aRd, .ref aRo, .int rc, .int rl, .int rm])), (aRd, .inl (cI, 12, .inl rd)), (aRo, .inl (cI, 12, .inl ro)), (aP, .inr (3, [.ref aPc, .int pl]))] : va_W) ++ bxP L qi qt qc qp) A0 t) A0) (va_A ([(aX, .inr (9, [.ref aV, .ref aVk, .ref aK, .ref aJ, .ref aP, .ref aQ])), (aV, .inr (8, [.ref aS, .ref aL, .ref aH, .ref aR, .int tm, .long k1, .long k2, .long k3, .long k4, .long k5])), (aS, .inr (6, [.ref aSv])), (aSv, .inl (cI, 11, .inl sf)), (aL, .inr (2, [.ref aLr, .int lc])), (aLr, .inl (cB, 10, .inr (.inr (.inr (.inr lr))))), (aH, .inr (1, [.int vT, .long vG, .int vM, .int (bi vO), .int vN, .int (bi vD), .int vA])), (aR, .inr (4, [.ref aRd, .ref aRo, .int rc, .int rl, .int rm])), (aRd, .inl (cI, 12, .inl rd)), (aRo, .inl (cI, 12, .inl ro)), (aP, .inr (3, [.ref aPc, .int pl]))] ++ bxP L qi qt qc qp) sz)) 0 0 (va_A ([(aX, .inr (9, [.ref aV, .ref aVk, .ref aK, .ref aJ, .ref aP, .ref aQ])), (aV, .inr (8, [.ref aS, .ref aL, .ref aH, .ref aR, .int tm, .long k1, .long k2, .long k3, .long k4, .long k5])), (aS, .inr (6, [.ref aSv])), (aSv, .inl (cI, 11, .inl sf)), (aL, .inr (2, [.ref aLr, .int lc])), (aLr, .inl (cB, 10, .inr (.inr (.inr (.inr lr))))), (aH, .inr (1, [.int vT, .long vG, .int vM, .int (bi vO), .int vN, .int (bi vD), .int vA])), (aR, .inr (4, [.ref aRd, .ref aRo, .int rc, .int rl, .int rm])), (aRd, .inl (cI, 12, .inl rd)), (aRo, .inl (cI, 12, .inl ro)), (aP, .inr (3, [.ref aPc, .int pl]))] ++ bxP L qi qt qc qp) sz) := by
  refine xofW (Qc := fun A0 => va_Qi (fun r (u : Unit) => r = 1 ∧ JJ B Tm L lc lr rc rl rm rd ro sf vT vG vM vO vN vD vA tm k1 k2 k3 k4 k5 qi qt qc qp) (fun _ t => xB D (([(aX, .inr (9, [.ref aV, .ref aVk, .ref aK, .ref aJ, .ref aP, .ref aQ])), (aV, .inr (8, [.ref aS, .ref aL, .ref aH, .ref aR, .int tm, .long k1, .long k2, .long k3, .long k4, .long k5])), (aS, .inr (6, [.ref aSv])), (aSv, .inl (cI, 11, .inl sf)), (aL, .inr (2, [.ref aLr, .int lc])), (aLr, .inl (cB, 10, .inr (.inr (.inr (.inr lr))))), (aH, .inr (1, [.int vT, .long vG, .int vM, .int (bi vO), .int vN, .int (bi vD), .int vA])), (aR, .inr (4, [.ref aRd, .ref aRo, .int rc, .int rl, .int rm])), (aRd, .inl (cI, 12, .inl rd)), (aRo, .inl (cI, 12, .inl ro)), (aP, .inr (3, [.ref aPc, .int pl]))] : va_W) ++ bxP L qi qt qc qp) A0 t) A0) (fr := fun A => A) (cc := cL_addsUp) (maxL := 4) (ret := (some .boolean)) (by decide) rfl (Nat.le_of_ble_eq_true rfl) ?_
  intro p e s m below meth c A ⟨hx, hb, hml, hown, hts⟩ hrt hlocks hnm hsz hK hW hA hG ls hl
  have hown : s.vm.findClass RL = some m.cls := hown
  have hl : lv_has ls 4 [(0, .ref aX)] := hl
  obtain ⟨H, hH⟩ : ∃ H, H = s.heap := ⟨_, rfl⟩
  have hW : xW D A s.heap ([(aX, .inr (9, [.ref aV, .ref aVk, .ref aK, .ref aJ, .ref aP, .ref aQ])), (aV, .inr (8, [.ref aS, .ref aL, .ref aH, .ref aR, .int tm, .long k1, .long k2, .long k3, .long k4, .long k5])), (aS, .inr (6, [.ref aSv])), (aSv, .inl (cI, 11, .inl sf)), (aL, .inr (2, [.ref aLr, .int lc])), (aLr, .inl (cB, 10, .inr (.inr (.inr (.inr lr))))), (aH, .inr (1, [.int vT, .long vG, .int vM, .int (bi vO), .int vN, .int (bi vD), .int vA])), (aR, .inr (4, [.ref aRd, .ref aRo, .int rc, .int rl, .int rm])), (aRd, .inl (cI, 12, .inl rd)), (aRo, .inl (cI, 12, .inl ro)), (aP, .inr (3, [.ref aPc, .int pl]))] ++ bxP L qi qt qc qp) H [] := by rw [hH]; exact hW
  rw [← hH]
  have hr := j_r hJ
  have hc := j_c hJ
  have hrc := j_w hJ
  refine lv_lconst (v := 0) hx hb dL_addsUp_0 (by decide) ?_
  refine lv_lstore_n (lv' := [(1, .long 0), (0, .ref aX)]) hx hb dL_addsUp_1 rfl hl (by decide) rfl (fun ls hl => ?_)
  refine lv_iconst (v := 0) hx hb dL_addsUp_2 (by decide) ?_
  refine lv_istore_n (lv' := [(3, .int 0), (1, .long 0), (0, .ref aX)]) hx hb dL_addsUp_3 rfl hl (by decide) rfl (fun ls hl => ?_)
  have hl4_ : ∀ (n : Nat) (ys : Int64) (xi : Int32), (0 ≤ xi.toInt) → (xi.toInt ≤ lc.toInt) → (ys.toInt = sm (fun k => (qc (bxa lr k)).toInt) xi.toInt.toNat) → (lc.toInt - xi.toInt).toNat < n → ∀ (H : Heap) (locs : List Loc) (ls : Array Slot), xW D A s.heap ([(aX, .inr (9, [.ref aV, .ref aVk, .ref aK, .ref aJ, .ref aP, .ref aQ])), (aV, .inr (8, [.ref aS, .ref aL, .ref aH, .ref aR, .int tm, .long k1, .long k2, .long k3, .long k4, .long k5])), (aS, .inr (6, [.ref aSv])), (aSv, .inl (cI, 11, .inl sf)), (aL, .inr (2, [.ref aLr, .int lc])), (aLr, .inl (cB, 10, .inr (.inr (.inr (.inr lr))))), (aH, .inr (1, [.int vT, .long vG, .int vM, .int (bi vO), .int vN, .int (bi vD), .int vA])), (aR, .inr (4, [.ref aRd, .ref aRo, .int rc, .int rl, .int rm])), (aRd, .inl (cI, 12, .inl rd)), (aRo, .inl (cI, 12, .inl ro)), (aP, .inr (3, [.ref aPc, .int pl]))] ++ bxP L qi qt qc qp) H locs → lv_has ls 4 [(0, .ref aX), (1, .long ys), (3, .int xi)] → W p l e ({ frames := 5, cells := 0, slots := 0, locals := 105 } : Room) s m [.ref aX].toArray below meth c H locs 0 0 (MQ below (va_Qi (fun r (u : Unit) => r = 1 ∧ JJ B Tm L lc lr rc rl rm rd ro sf vT vG vM vO vN vD vA tm k1 k2 k3 k4 k5 qi qt qc qp) (fun _ t => xB D (([(aX, .inr (9, [.ref aV, .ref aVk, .ref aK, .ref aJ, .ref aP, .ref aQ])), (aV, .inr (8, [.ref aS, .ref aL, .ref aH, .ref aR, .int tm, .long k1, .long k2, .long k3, .long k4, .long k5])), (aS, .inr (6, [.ref aSv])), (aSv, .inl (cI, 11, .inl sf)), (aL, .inr (2, [.ref aLr, .int lc])), (aLr, .inl (cB, 10, .inr (.inr (.inr (.inr lr))))), (aH, .inr (1, [.int vT, .long vG, .int vM, .int (bi vO), .int vN, .int (bi vD), .int vA])), (aR, .inr (4, [.ref aRd, .ref aRo, .int rc, .int rl, .int rm])), (aRd, .inl (cI, 12, .inl rd)), (aRo, .inl (cI, 12, .inl ro)), (aP, .inr (3, [.ref aPc, .int pl]))] : va_W) ++ bxP L qi qt qc qp) A t) A) [.ref aX].toArray s 0 0 A) (F0 m 4 ls []) := by
    intro n
    induction n with
    | zero =>
      intro ys xi _ _ _ hm
      exact absurd hm (Nat.not_lt_zero _)
    | succ n ih4 =>
      intro ys xi hi0 hle hs hm4 H locs ls hW hl
      refine lv_iload_n hx hb dL_addsUp_4 rfl (lv_at hl 2 rfl) ?_
      refine lv_aload_n hx hb dL_addsUp_5 rfl (lv_at hl 0 rfl) ?_
      refine lv_bipush (v := 12) hx hb dL_addsUp_6 (by decide) ?_
      refine vp_callSi (va_Run.run (xrunV (As := [.int 12]) (rest := [.int xi]) ⟨hx, hb, hml, hown, hts⟩ (c_X9_van l D cI cJ cZ cB H.size aX aV aS aSv aL aH aR aRo aP 12 aVk aK aJ aQ tm k1 k2 k3 k4 k5 sf aLr lc vT vG vM vO vN vD vA aRd rc rl rm ro aPc pl (by assumption) _ rfl) (cwV 1 hts gL_addsUp_X9_van rfl rfl rfl (by decide +kernel) ⟨Nat.le_of_ble_eq_true rfl, Nat.le_of_ble_eq_true rfl⟩) hK hG hW.2.2 (xsubQ hW hA [0, 1, 2, 3, 4, 6, 7, 9, 10] rfl (by decide)) (va_recv hK hW.1 (ci := 9) (q0 := 0) rfl rfl) rfl hl.1 rfl (Nat.le_of_ble_eq_true rfl) dL_addsUp_8 ⟨Nat.le_of_ble_eq_true rfl, Nat.le_of_ble_eq_true rfl⟩)) (fun r1 hq => ?_)
      rw [hq, van_12]
      refine lv_icmp_ge (tgt := 30) hx hb dL_addsUp_11 (by decide) (fun c1 => ?_) (fun c1 => ?_)
      · skip
        refine lv_aload_n hx hb dL_addsUp_30 rfl (lv_at hl 0 rfl) ?_
        refine lv_iconst (v := 0) hx hb dL_addsUp_31 (by decide) ?_
        refine vp_callSl (va_Run.run (xrunV (As := [.int 0]) (rest := []) ⟨hx, hb, hml, hown, hts⟩ (c_X9_account l D cI cJ cZ cB H.size aX aV aL aLr 0 aVk aK aJ aP aQ aS aH aR tm k1 k2 k3 k4 k5 lc lr L qi qt qc qp (by assumption) (by assumption) _ rfl) (cwV 1 hts gL_addsUp_X9_account rfl rfl rfl (by decide +kernel) ⟨Nat.le_of_ble_eq_true rfl, Nat.le_of_ble_eq_true rfl⟩) hK hG hW.2.2 (xsubP hW hA [0, 1, 4, 5] rfl (by decide)) (va_recv hK hW.1 (ci := 9) (q0 := 0) rfl rfl) rfl hl.1 rfl (Nat.le_of_ble_eq_true rfl) dL_addsUp_32 ⟨Nat.le_of_ble_eq_true rfl, Nat.le_of_ble_eq_true rfl⟩)) (fun r2 hq => ?_)
        rw [hq, acc_0]
        refine lv_lload_n hx hb dL_addsUp_35 rfl (lv_at hl 1 rfl) ?_
        refine xlc_ne (tgt := 78) hx hb dL_addsUp_36 dL_addsUp_37 (by decide) (fun c2 => ?_) (fun c2 => ?_)
        · exact absurd (au_0 hJ hle c1 hs) c2
        · skip
          refine lv_aload_n hx hb dL_addsUp_40 rfl (lv_at hl 0 rfl) ?_
          refine lv_iconst (v := 1) hx hb dL_addsUp_41 (by decide) ?_
          refine vp_callSl (va_Run.run (xrunV (As := [.int 1]) (rest := []) ⟨hx, hb, hml, hown, hts⟩ (c_X9_account l D cI cJ cZ cB H.size aX aV aL aLr 1 aVk aK aJ aP aQ aS aH aR tm k1 k2 k3 k4 k5 lc lr L qi qt qc qp (by assumption) (by assumption) _ rfl) (cwV 1 hts gL_addsUp_X9_account rfl rfl rfl (by decide +kernel) ⟨Nat.le_of_ble_eq_true rfl, Nat.le_of_ble_eq_true rfl⟩) hK hG hW.2.2 (xsubP hW hA [0, 1, 4, 5] rfl (by decide)) (va_recv hK hW.1 (ci := 9) (q0 := 0) rfl rfl) rfl hl.1 rfl (Nat.le_of_ble_eq_true rfl) dL_addsUp_42 ⟨Nat.le_of_ble_eq_true rfl, Nat.le_of_ble_eq_true rfl⟩)) (fun r3 hq => ?_)
          rw [hq, acc_1]
          refine lv_lload_n hx hb dL_addsUp_45 rfl (lv_at hl 1 rfl) ?_
          refine lv_aload_n hx hb dL_addsUp_46 rfl (lv_at hl 0 rfl) ?_
          refine lv_iconst (v := 2) hx hb dL_addsUp_47 (by decide) ?_
          refine vp_callSl (va_Run.run (xrunV (As := [.int 2]) (rest := [.long ys, .long k1]) ⟨hx, hb, hml, hown, hts⟩ (c_X9_account l D cI cJ cZ cB H.size aX aV aL aLr 2 aVk aK aJ aP aQ aS aH aR tm k1 k2 k3 k4 k5 lc lr L qi qt qc qp (by assumption) (by assumption) _ rfl) (cwV 1 hts gL_addsUp_X9_account rfl rfl rfl (by decide +kernel) ⟨Nat.le_of_ble_eq_true rfl, Nat.le_of_ble_eq_true rfl⟩) hK hG hW.2.2 (xsubP hW hA [0, 1, 4, 5] rfl (by decide)) (va_recv hK hW.1 (ci := 9) (q0 := 0) rfl rfl) rfl hl.1 rfl (Nat.le_of_ble_eq_true rfl) dL_addsUp_48 ⟨Nat.le_of_ble_eq_true rfl, Nat.le_of_ble_eq_true rfl⟩)) (fun r4 hq => ?_)
          rw [hq, acc_2]
          refine lv_ladd hx hb dL_addsUp_51 ?_
          refine lv_aload_n hx hb dL_addsUp_52 rfl (lv_at hl 0 rfl) ?_
          refine lv_iconst (v := 3) hx hb dL_addsUp_53 (by decide) ?_
          refine vp_callSl (va_Run.run (xrunV (As := [.int 3]) (rest := [.long (ys + k2), .long k1]) ⟨hx, hb, hml, hown, hts⟩ (c_X9_account l D cI cJ cZ cB H.size aX aV aL aLr 3 aVk aK aJ aP aQ aS aH aR tm k1 k2 k3 k4 k5 lc lr L qi qt qc qp (by assumption) (by assumption) _ rfl) (cwV 1 hts gL_addsUp_X9_account rfl rfl rfl (by decide +kernel) ⟨Nat.le_of_ble_eq_true rfl, Nat.le_of_ble_eq_true rfl⟩) hK hG hW.2.2 (xsubP hW hA [0, 1, 4, 5] rfl (by decide)) (va_recv hK hW.1 (ci := 9) (q0 := 0) rfl rfl) rfl hl.1 rfl (Nat.le_of_ble_eq_true rfl) dL_addsUp_54 ⟨Nat.le_of_ble_eq_true rfl, Nat.le_of_ble_eq_true rfl⟩)) (fun r5 hq => ?_)
          rw [hq, acc_3]
          refine lv_ladd hx hb dL_addsUp_57 ?_
          refine lv_aload_n hx hb dL_addsUp_58 rfl (lv_at hl 0 rfl) ?_
          refine lv_iconst (v := 4) hx hb dL_addsUp_59 (by decide) ?_
          refine vp_callSl (va_Run.run (xrunV (As := [.int 4]) (rest := [.long ((ys + k2) + k3), .long k1]) ⟨hx, hb, hml, hown, hts⟩ (c_X9_account l D cI cJ cZ cB H.size aX aV aL aLr 4 aVk aK aJ aP aQ aS aH aR tm k1 k2 k3 k4 k5 lc lr L qi qt qc qp (by assumption) (by assumption) _ rfl) (cwV 1 hts gL_addsUp_X9_account rfl rfl rfl (by decide +kernel) ⟨Nat.le_of_ble_eq_true rfl, Nat.le_of_ble_eq_true rfl⟩) hK hG hW.2.2 (xsubP hW hA [0, 1, 4, 5] rfl (by decide)) (va_recv hK hW.1 (ci := 9) (q0 := 0) rfl rfl) rfl hl.1 rfl (Nat.le_of_ble_eq_true rfl) dL_addsUp_60 ⟨Nat.le_of_ble_eq_true rfl, Nat.le_of_ble_eq_true rfl⟩)) (fun r6 hq => ?_)
          rw [hq, acc_4]
          refine lv_ladd hx hb dL_addsUp_63 ?_
          refine lv_aload_n hx hb dL_addsUp_64 rfl (lv_at hl 0 rfl) ?_
          refine lv_iconst (v := 5) hx hb dL_addsUp_65 (by decide) ?_
          refine vp_callSl (va_Run.run (xrunV (As := [.int 5]) (rest := [.long (((ys + k2) + k3) + k4), .long k1]) ⟨hx, hb, hml, hown, hts⟩ (c_X9_account l D cI cJ cZ cB H.size aX aV aL aLr 5 aVk aK aJ aP aQ aS aH aR tm k1 k2 k3 k4 k5 lc lr L qi qt qc qp (by assumption) (by assumption) _ rfl) (cwV 1 hts gL_addsUp_X9_account rfl rfl rfl (by decide +kernel) ⟨Nat.le_of_ble_eq_true rfl, Nat.le_of_ble_eq_true rfl⟩) hK hG hW.2.2 (xsubP hW hA [0, 1, 4, 5] rfl (by decide)) (va_recv hK hW.1 (ci := 9) (q0 := 0) rfl rfl) rfl hl.1 rfl (Nat.le_of_ble_eq_true rfl) dL_addsUp_66 ⟨Nat.le_of_ble_eq_true rfl, Nat.le_of_ble_eq_true rfl⟩)) (fun r7 hq => ?_)
          rw [hq, acc_5]
          refine lv_ladd hx hb dL_addsUp_69 ?_
          refine xlc_ne (tgt := 78) hx hb dL_addsUp_70 dL_addsUp_71 (by decide) (fun c3 => ?_) (fun c3 => ?_)
          · exact absurd (au_1 hJ hB hle c1 hs) c3
          · skip
            refine lv_iconst (v := 1) hx hb dL_addsUp_74 (by decide) ?_
            refine lv_goto (tgt := 79) hx hb dL_addsUp_75 (by decide) ?_
            exact W.zret (v := 1) hx hb hrt rfl (fun t ht hM => ⟨⟨1, (), rfl, ⟨rfl, hJ⟩, ⟨by rw [ht]; exact hW.1, hW.2.1⟩⟩, hW.2.2.F ht⟩) hW.2.2.2.2 dL_addsUp_79 hlocks
      · skip
        refine lv_lload_n hx hb dL_addsUp_14 rfl (lv_at hl 1 rfl) ?_
        refine lv_aload_n hx hb dL_addsUp_15 rfl (lv_at hl 0 rfl) ?_
        refine lv_iload_n hx hb dL_addsUp_16 rfl (lv_at hl 2 rfl) ?_
        refine lv_iconst (v := 2) hx hb dL_addsUp_17 (by decide) ?_
        refine vp_callSi (va_Run.run (xrunV (As := [.int xi, .int 2]) (rest := [.long ys]) ⟨hx, hb, hml, hown, hts⟩ (c_X9_box l D cI cJ cZ cB H.size aX aV aS aSv aL aLr aH xi 2 aVk aK aJ aP aQ aR tm k1 k2 k3 k4 k5 sf lc lr vT vG vM vO vN vD vA L qi qt qc qp (by assumption) (by assumption) _ rfl) (cwV 2 hts gL_addsUp_X9_box rfl rfl rfl (by decide +kernel) ⟨Nat.le_of_ble_eq_true rfl, Nat.le_of_ble_eq_true rfl⟩) hK hG hW.2.2 (xsubP hW hA [0, 1, 2, 3, 4, 5, 6] rfl (by decide)) (va_recv hK hW.1 (ci := 9) (q0 := 0) rfl rfl) rfl hl.1 rfl (Nat.le_of_ble_eq_true rfl) dL_addsUp_18 ⟨Nat.le_of_ble_eq_true rfl, Nat.le_of_ble_eq_true rfl⟩)) (fun r8 hq => ?_)
        rw [hq, bx_2 (wi_lp hi0 c1 hc)]
        refine lv_i2l hx hb dL_addsUp_21 rfl ?_
        refine lv_ladd hx hb dL_addsUp_22 ?_
        refine lv_lstore_n (lv' := [(1, .long (ys + (qc (bxa lr xi.toNatClampNeg)).toInt64)), (0, .ref aX), (3, .int xi)]) hx hb dL_addsUp_23 rfl hl (by decide) rfl (fun ls hl => ?_)
        refine lv_iinc (v := xi + 1) (lv' := [(3, .int (xi + 1)), (1, .long (ys + (qc (bxa lr xi.toNatClampNeg)).toInt64)), (0, .ref aX)]) hx hb dL_addsUp_24 hl (k := 2) rfl rfl (by decide) rfl (fun ls hl => ?_)
        refine lv_goto (tgt := 4) hx hb dL_addsUp_27 (by decide) ?_
        refine W.widen (k := 0) (n := 0) (Nat.le_of_ble_eq_true rfl) (Nat.le_of_ble_eq_true rfl) ?_
        exact ih4 (ys + (qc (bxa lr xi.toNatClampNeg)).toInt64) (xi + 1) (up_0 hi0 c1) (up_e c1) (au_s hJ hB hi0 c1 hs) (up_mu c1 hm4) _ _ _ hW (lv_sub hl [2, 1, 0] rfl)
  refine W.widen (k := 0) (n := 0) (Nat.le_of_ble_eq_true rfl) (Nat.le_of_ble_eq_true rfl) ?_
  exact hl4_ ((lc.toInt - (0 : Int32).toInt).toNat + 1) (0) (0) (by decide) (by have := hc.1; rw [xI0]; exact this) (rfl) (Nat.lt_succ_self _) _ _ _ hW (lv_sub hl [2, 1, 0] rfl)

set_option maxHeartbeats 4000000 in
set_option maxRecDepth 100000 in
theorem c_L_isDoor (l : Launch) (D : va_G) (cI cJ cZ cB : ClassId) (sz : Nat) (aX : Nat) (aV : Nat) (aS : Nat) (aSv : Nat) (aL : Nat) (aLr : Nat) (aH : Nat) (aR : Nat) (aRd : Nat) (aRo : Nat) (aP : Nat) (aVk : Nat) (aK : Nat) (aJ : Nat) (aQ : Nat) (tm : Int32) (k1 : Int64) (k2 : Int64) (k3 : Int64) (k4 : Int64) (k5 : Int64) (sf : Nat → Int32) (lc : Int32) (lr : Nat → Option Nat) (vT : Int32) (vG : Int64) (vM : Int32) (vO : Bool) (vN : Int32) (vD : Bool) (vA : Int32) (rc : Int32) (rl : Int32) (rm : Int32) (rd : Nat → Int32) (ro : Nat → Int32) (aPc : Nat) (pl : Int32) (L : List Nat) (qi : Nat → Int32) (qt : Nat → Int32) (qc : Nat → Int32) (qp : Nat → Int32) (B : Int) (Tm : Int) (hJ : JJ B Tm L lc lr rc rl rm rd ro sf vT vG vM vO vN vD vA tm k1 k2 k3 k4 k5 qi qt qc qp) (hB : B ≤ 100000000) (hTm : Tm ≤ 1000) : Met l yL_isDoor wsL_isDoor ({ frames := 6, cells := 0, slots := 0, locals := 124 } : Room) (xPre D (xT cI cJ cZ cB) [.ref aX] ([(aX, .inr (9, [.ref aV, .ref aVk, .ref aK, .ref aJ, .ref aP, .ref aQ])), (aV, .inr (8, [.ref aS, .ref aL, .ref aH, .ref aR, .int tm, .long k1, .long k2, .long k3, .long k4, .long k5])), (aS, .inr (6, [.ref aSv])), (aSv, .inl (cI, 11, .inl sf)), (aL, .inr (2, [.ref aLr, .int lc])), (aLr, .inl (cB, 10, .inr (.inr (.inr (.inr lr))))), (aH, .inr (1, [.int vT, .long vG, .int vM, .int (bi vO), .int vN, .int (bi vD), .int vA])), (aR, .inr (4, [.ref aRd, .ref aRo, .int rc, .int rl, .int rm])), (aRd, .inl (cI, 12, .inl rd)), (aRo, .inl (cI, 12, .inl ro)), (aP, .inr (3, [.ref aPc, .int pl]))] ++ bxP L qi qt qc qp) sz) ((fun A0 => va_Qi (fun r (u : Bool × Bool) => r = 1 ∧ JJ B Tm L lc lr rc rl rm rd ro sf vT vG vM u.1 vN u.2 vA tm k1 k2 k3 k4 k5 qi qt qc qp) (fun u t => xB D (([(aX, .inr (9, [.ref aV, .ref aVk, .ref aK, .ref aJ, .ref aP, .ref aQ])), (aV, .inr (8, [.ref aS, .ref aL, .ref aH, .ref aR, .int tm, .long k1, .long k2, .long k3, .long k4, .long k5])), (aS, .inr (6, [.ref aSv])), (aSv, .inl (cI, 11, .inl sf)), (aL, .inr (2, [.ref aLr, .int lc])), (aLr, .inl (cB, 10, .inr (.inr (.inr (.inr lr))))), (aH, .inr (1, [.int vT, .long vG, .int vM, .int (bi u.1), .int vN, .int (bi u.2), .int vA])), (aR, .inr (4, [.ref aRd, .ref aRo, .int rc, .int rl, .int rm])), (aRd, .inl (cI, 12, .inl rd)), (aRo, .inl (cI, 12, .inl ro)), (aP, .inr (3, [.ref aPc, .int pl]))] : va_W) ++ bxP L qi qt qc qp) A0 t) A0) (va_A ([(aX, .inr (9, [.ref aV, .ref aVk, .ref aK, .ref aJ, .ref aP, .ref aQ])), (aV, .inr (8, [.ref aS, .ref aL, .ref aH, .ref aR, .int tm, .long k1, .long k2, .long k3, .long k4, .long k5])), (aS, .inr (6, [.ref aSv])), (aSv, .inl (cI, 11, .inl sf)), (aL, .inr (2, [.ref aLr, .int lc])), (aLr, .inl (cB, 10, .inr (.inr (.inr (.inr lr))))), (aH, .inr (1, [.int vT, .long vG, .int vM, .int (bi vO), .int vN, .int (bi vD), .int vA])), (aR, .inr (4, [.ref aRd, .ref aRo, .int rc, .int rl, .int rm])), (aRd, .inl (cI, 12, .inl rd)), (aRo, .inl (cI, 12, .inl ro)), (aP, .inr (3, [.ref aPc, .int pl]))] ++ bxP L qi qt qc qp) sz)) 0 0 (va_A ([(aX, .inr (9, [.ref aV, .ref aVk, .ref aK, .ref aJ, .ref aP, .ref aQ])), (aV, .inr (8, [.ref aS, .ref aL, .ref aH, .ref aR, .int tm, .long k1, .long k2, .long k3, .long k4, .long k5])), (aS, .inr (6, [.ref aSv])), (aSv, .inl (cI, 11, .inl sf)), (aL, .inr (2, [.ref aLr, .int lc])), (aLr, .inl (cB, 10, .inr (.inr (.inr (.inr lr))))), (aH, .inr (1, [.int vT, .long vG, .int vM, .int (bi vO), .int vN, .int (bi vD), .int vA])), (aR, .inr (4, [.ref aRd, .ref aRo, .int rc, .int rl, .int rm])), (aRd, .inl (cI, 12, .inl rd)), (aRo, .inl (cI, 12, .inl ro)), (aP, .inr (3, [.ref aPc, .int pl]))] ++ bxP L qi qt qc qp) sz) := by
  refine xofW (Qc := fun A0 => va_Qi (fun r (u : Bool × Bool) => r = 1 ∧ JJ B Tm L lc lr rc rl rm rd ro sf vT vG vM u.1 vN u.2 vA tm k1 k2 k3 k4 k5 qi qt qc qp) (fun u t => xB D (([(aX, .inr (9, [.ref aV, .ref aVk, .ref aK, .ref aJ, .ref aP, .ref aQ])), (aV, .inr (8, [.ref aS, .ref aL, .ref aH, .ref aR, .int tm, .long k1, .long k2, .long k3, .long k4, .long k5])), (aS, .inr (6, [.ref aSv])), (aSv, .inl (cI, 11, .inl sf)), (aL, .inr (2, [.ref aLr, .int lc])), (aLr, .inl (cB, 10, .inr (.inr (.inr (.inr lr))))), (aH, .inr (1, [.int vT, .long vG, .int vM, .int (bi u.1), .int vN, .int (bi u.2), .int vA])), (aR, .inr (4, [.ref aRd, .ref aRo, .int rc, .int rl, .int rm])), (aRd, .inl (cI, 12, .inl rd)), (aRo, .inl (cI, 12, .inl ro)), (aP, .inr (3, [.ref aPc, .int pl]))] : va_W) ++ bxP L qi qt qc qp) A0 t) A0) (fr := fun A => A) (cc := cL_isDoor) (maxL := 8) (ret := (some .boolean)) (by decide) rfl (Nat.le_of_ble_eq_true rfl) ?_
  intro p e s m below meth c A ⟨hx, hb, hml, hown, hts⟩ hrt hlocks hnm hsz hK hW hA hG ls hl
  have hown : s.vm.findClass RL = some m.cls := hown
  have hl : lv_has ls 8 [(0, .ref aX)] := hl
  obtain ⟨H, hH⟩ : ∃ H, H = s.heap := ⟨_, rfl⟩
  have hW : xW D A s.heap ([(aX, .inr (9, [.ref aV, .ref aVk, .ref aK, .ref aJ, .ref aP, .ref aQ])), (aV, .inr (8, [.ref aS, .ref aL, .ref aH, .ref aR, .int tm, .long k1, .long k2, .long k3, .long k4, .long k5])), (aS, .inr (6, [.ref aSv])), (aSv, .inl (cI, 11, .inl sf)), (aL, .inr (2, [.ref aLr, .int lc])), (aLr, .inl (cB, 10, .inr (.inr (.inr (.inr lr))))), (aH, .inr (1, [.int vT, .long vG, .int vM, .int (bi vO), .int vN, .int (bi vD), .int vA])), (aR, .inr (4, [.ref aRd, .ref aRo, .int rc, .int rl, .int rm])), (aRd, .inl (cI, 12, .inl rd)), (aRo, .inl (cI, 12, .inl ro)), (aP, .inr (3, [.ref aPc, .int pl]))] ++ bxP L qi qt qc qp) H [] := by rw [hH]; exact hW
  rw [← hH]
  have hr := j_r hJ
  have hc := j_c hJ
  have hrc := j_w hJ
  refine lv_aload_n hx hb dL_isDoor_0 rfl (lv_at hl 0 rfl) ?_
  refine lv_iconst (v := 4) hx hb dL_isDoor_1 (by decide) ?_
  refine vp_callSi (va_Run.run (xrunV (As := [.int 4]) (rest := []) ⟨hx, hb, hml, hown, hts⟩ (c_X9_van l D cI cJ cZ cB H.size aX aV aS aSv aL aH aR aRo aP 4 aVk aK aJ aQ tm k1 k2 k3 k4 k5 sf aLr lc vT vG vM vO vN vD vA aRd rc rl rm ro aPc pl (by assumption) _ rfl) (cwV 1 hts gL_isDoor_X9_van rfl rfl rfl (by decide +kernel) ⟨Nat.le_of_ble_eq_true rfl, Nat.le_of_ble_eq_true rfl⟩) hK hG hW.2.2 (xsubQ hW hA [0, 1, 2, 3, 4, 6, 7, 9, 10] rfl (by decide)) (va_recv hK hW.1 (ci := 9) (q0 := 0) rfl rfl) rfl hl.1 rfl (Nat.le_of_ble_eq_true rfl) dL_isDoor_2 ⟨Nat.le_of_ble_eq_true rfl, Nat.le_of_ble_eq_true rfl⟩)) (fun r1 hq => ?_)
  rw [hq, van_4]
  refine lv_istore_n (lv' := [(1, .int (f_X8_concentration sf vG).toInt32), (0, .ref aX)]) hx hb dL_isDoor_5 rfl hl (by decide) rfl (fun ls hl => ?_)
  refine lv_aload_n hx hb dL_isDoor_6 rfl (lv_at hl 1 rfl) ?_
  refine lv_bipush (v := 8) hx hb dL_isDoor_7 (by decide) ?_
  refine vp_callSi (va_Run.run (xrunV (As := [.int 8]) (rest := []) ⟨hx, hb, hml, hown, hts⟩ (c_X9_van l D cI cJ cZ cB H.size aX aV aS aSv aL aH aR aRo aP 8 aVk aK aJ aQ tm k1 k2 k3 k4 k5 sf aLr lc vT vG vM vO vN vD vA aRd rc rl rm ro aPc pl (by assumption) _ rfl) (cwV 1 hts gL_isDoor_X9_van rfl rfl rfl (by decide +kernel) ⟨Nat.le_of_ble_eq_true rfl, Nat.le_of_ble_eq_true rfl⟩) hK hG hW.2.2 (xsubQ hW hA [0, 1, 2, 3, 4, 6, 7, 9, 10] rfl (by decide)) (va_recv hK hW.1 (ci := 9) (q0 := 0) rfl rfl) rfl hl.1 rfl (Nat.le_of_ble_eq_true rfl) dL_isDoor_9 ⟨Nat.le_of_ble_eq_true rfl, Nat.le_of_ble_eq_true rfl⟩)) (fun r2 hq => ?_)
  rw [hq, van_8]
  refine lv_iconst (v := 1) hx hb dL_isDoor_12 (by decide) ?_
  refine lv_icmp_ne (tgt := 20) hx hb dL_isDoor_13 (by decide) (fun c1 => ?_) (fun c1 => ?_)
  · skip
    refine lv_iconst (v := 0) hx hb dL_isDoor_20 (by decide) ?_
    refine lv_istore_n (lv' := [(2, .int 0), (1, .int (f_X8_concentration sf vG).toInt32), (0, .ref aX)]) hx hb dL_isDoor_21 rfl hl (by decide) rfl (fun ls hl => ?_)
    refine lv_iload_n hx hb dL_isDoor_22 rfl (lv_at hl 0 rfl) ?_
    refine lv_if_eq (tgt := 67) hx hb dL_isDoor_23 (by decide) (fun c2 => ?_) (fun c2 => ?_)
    · skip
      refine lv_aload_n hx hb dL_isDoor_67 rfl (lv_at hl 2 rfl) ?_
      refine lv_bipush (v := 10) hx hb dL_isDoor_68 (by decide) ?_
      refine vp_callSi (va_Run.run (xrunV (As := [.int 10]) (rest := []) ⟨hx, hb, hml, hown, hts⟩ (c_X9_van l D cI cJ cZ cB H.size aX aV aS aSv aL aH aR aRo aP 10 aVk aK aJ aQ tm k1 k2 k3 k4 k5 sf aLr lc vT vG vM vO vN vD vA aRd rc rl rm ro aPc pl (by assumption) _ rfl) (cwV 1 hts gL_isDoor_X9_van rfl rfl rfl (by decide +kernel) ⟨Nat.le_of_ble_eq_true rfl, Nat.le_of_ble_eq_true rfl⟩) hK hG hW.2.2 (xsubQ hW hA [0, 1, 2, 3, 4, 6, 7, 9, 10] rfl (by decide)) (va_recv hK hW.1 (ci := 9) (q0 := 0) rfl rfl) rfl hl.1 rfl (Nat.le_of_ble_eq_true rfl) dL_isDoor_70 ⟨Nat.le_of_ble_eq_true rfl, Nat.le_of_ble_eq_true rfl⟩)) (fun r3 hq => ?_)
      rw [hq, van_10]
      refine lv_if_le (tgt := 80) hx hb dL_isDoor_73 (by decide) (fun c3 => ?_) (fun c3 => ?_)
      · skip
        refine lv_iconst (v := 0) hx hb dL_isDoor_80 (by decide) ?_
        refine lv_istore_n (lv' := [(3, .int 0), (2, .int 0), (1, .int (f_X8_concentration sf vG).toInt32), (0, .ref aX)]) hx hb dL_isDoor_81 rfl hl (by decide) rfl (fun ls hl => ?_)
        refine lv_iload_n hx hb dL_isDoor_82 rfl (lv_at hl 2 rfl) ?_
        refine lv_aload_n hx hb dL_isDoor_83 rfl (lv_at hl 3 rfl) ?_
        refine lv_bipush (v := 23) hx hb dL_isDoor_84 (by decide) ?_
        refine vp_callSi (va_Run.run (xrunV (As := [.int 23]) (rest := [.int (f_X8_concentration sf vG).toInt32]) ⟨hx, hb, hml, hown, hts⟩ (c_X9_van l D cI cJ cZ cB H.size aX aV aS aSv aL aH aR aRo aP 23 aVk aK aJ aQ tm k1 k2 k3 k4 k5 sf aLr lc vT vG vM vO vN vD vA aRd rc rl rm ro aPc pl (by assumption) _ rfl) (cwV 1 hts gL_isDoor_X9_van rfl rfl rfl (by decide +kernel) ⟨Nat.le_of_ble_eq_true rfl, Nat.le_of_ble_eq_true rfl⟩) hK hG hW.2.2 (xsubQ hW hA [0, 1, 2, 3, 4, 6, 7, 9, 10] rfl (by decide)) (va_recv hK hW.1 (ci := 9) (q0 := 0) rfl rfl) rfl hl.1 rfl (Nat.le_of_ble_eq_true rfl) dL_isDoor_86 ⟨Nat.le_of_ble_eq_true rfl, Nat.le_of_ble_eq_true rfl⟩)) (fun r4 hq => ?_)
        rw [hq, van_23]
        refine lv_icmp_lt (tgt := 96) hx hb dL_isDoor_89 (by decide) (fun c4 => ?_) (fun c4 => ?_)
        · skip
          refine lv_iconst (v := 0) hx hb dL_isDoor_96 (by decide) ?_
          refine lv_istore (lv' := [(4, .int 0), (3, .int 0), (2, .int 0), (1, .int (f_X8_concentration sf vG).toInt32), (0, .ref aX)]) hx hb dL_isDoor_97 hl (by decide) rfl (fun ls hl => ?_)
          refine lv_aload_n hx hb dL_isDoor_99 rfl (lv_at hl 4 rfl) ?_
          refine lv_bipush (v := 6) hx hb dL_isDoor_100 (by decide) ?_
          refine vp_callSi (va_Run.run (xrunV (As := [.int 6]) (rest := []) ⟨hx, hb, hml, hown, hts⟩ (c_X9_van l D cI cJ cZ cB H.size aX aV aS aSv aL aH aR aRo aP 6 aVk aK aJ aQ tm k1 k2 k3 k4 k5 sf aLr lc vT vG vM vO vN vD vA aRd rc rl rm ro aPc pl (by assumption) _ rfl) (cwV 1 hts gL_isDoor_X9_van rfl rfl rfl (by decide +kernel) ⟨Nat.le_of_ble_eq_true rfl, Nat.le_of_ble_eq_true rfl⟩) hK hG hW.2.2 (xsubQ hW hA [0, 1, 2, 3, 4, 6, 7, 9, 10] rfl (by decide)) (va_recv hK hW.1 (ci := 9) (q0 := 0) rfl rfl) rfl hl.1 rfl (Nat.le_of_ble_eq_true rfl) dL_isDoor_102 ⟨Nat.le_of_ble_eq_true rfl, Nat.le_of_ble_eq_true rfl⟩)) (fun r5 hq => ?_)
          rw [hq, van_6]
          refine lv_istore (lv' := [(5, .int (bi vO)), (4, .int 0), (3, .int 0), (2, .int 0), (1, .int (f_X8_concentration sf vG).toInt32), (0, .ref aX)]) hx hb dL_isDoor_105 hl (by decide) rfl (fun ls hl => ?_)
          refine lv_aload_n hx hb dL_isDoor_107 rfl (lv_at hl 5 rfl) ?_
          refine lv_bipush (v := 7) hx hb dL_isDoor_108 (by decide) ?_
          refine vp_callSi (va_Run.run (xrunV (As := [.int 7]) (rest := []) ⟨hx, hb, hml, hown, hts⟩ (c_X9_van l D cI cJ cZ cB H.size aX aV aS aSv aL aH aR aRo aP 7 aVk aK aJ aQ tm k1 k2 k3 k4 k5 sf aLr lc vT vG vM vO vN vD vA aRd rc rl rm ro aPc pl (by assumption) _ rfl) (cwV 1 hts gL_isDoor_X9_van rfl rfl rfl (by decide +kernel) ⟨Nat.le_of_ble_eq_true rfl, Nat.le_of_ble_eq_true rfl⟩) hK hG hW.2.2 (xsubQ hW hA [0, 1, 2, 3, 4, 6, 7, 9, 10] rfl (by decide)) (va_recv hK hW.1 (ci := 9) (q0 := 0) rfl rfl) rfl hl.1 rfl (Nat.le_of_ble_eq_true rfl) dL_isDoor_110 ⟨Nat.le_of_ble_eq_true rfl, Nat.le_of_ble_eq_true rfl⟩)) (fun r6 hq => ?_)
          rw [hq, van_7]
          refine lv_istore (lv' := [(6, .int vN), (5, .int (bi vO)), (4, .int 0), (3, .int 0), (2, .int 0), (1, .int (f_X8_concentration sf vG).toInt32), (0, .ref aX)]) hx hb dL_isDoor_113 hl (by decide) rfl (fun ls hl => ?_)
          refine lv_aload_n hx hb dL_isDoor_115 rfl (lv_at hl 6 rfl) ?_
          obtain ⟨o7_, eo7_⟩ : ∃ z9, f_X9_open sf vG vO vD rm = z9 := ⟨_, rfl⟩
          refine xQi (wr := [(aL, .inr (2, [.ref aLr, .int lc])), (aLr, .inl (cB, 10, .inr (.inr (.inr (.inr lr))))), (aRd, .inl (cI, 12, .inl rd)), (aRo, .inl (cI, 12, .inl ro)), (aP, .inr (3, [.ref aPc, .int pl]))]) hW hA [0, 1, 2, 3, 6, 7] [4, 5, 8, 9, 10] rfl rfl (by decide) (by decide) (by decide) (xrunV (As := []) (rest := []) ⟨hx, hb, hml, hown, hts⟩ (c_X9_open l D cI cJ cZ cB H.size aX aV aS aSv aH aR aVk aK aJ aP aQ aL tm k1 k2 k3 k4 k5 sf vT vG vM vO vN vD vA aRd aRo rc rl rm o7_ eo7_) (cwV 0 hts gL_isDoor_X9_open rfl rfl rfl (by decide +kernel) ⟨Nat.le_of_ble_eq_true rfl, Nat.le_of_ble_eq_true rfl⟩) hK hG hW.2.2 (xsubQ hW hA [0, 1, 2, 3, 6, 7] rfl (by decide)) (va_recv hK hW.1 (ci := 9) (q0 := 0) rfl rfl) rfl hl.1 rfl (Nat.le_of_ble_eq_true rfl) dL_isDoor_116 ⟨Nat.le_of_ble_eq_true rfl, Nat.le_of_ble_eq_true rfl⟩) (fun r8 _ H locs hq hW => ?_)
          rw [hq]
          have hW : xW D A s.heap ([(aL, .inr (2, [.ref aLr, .int lc])), (aLr, .inl (cB, 10, .inr (.inr (.inr (.inr lr))))), (aRd, .inl (cI, 12, .inl rd)), (aRo, .inl (cI, 12, .inl ro)), (aP, .inr (3, [.ref aPc, .int pl])), (aX, .inr (9, [.ref aV, .ref aVk, .ref aK, .ref aJ, .ref aP, .ref aQ])), (aV, .inr (8, [.ref aS, .ref aL, .ref aH, .ref aR, .int tm, .long k1, .long k2, .long k3, .long k4, .long k5])), (aS, .inr (6, [.ref aSv])), (aSv, .inl (cI, 11, .inl sf)), (aH, .inr (1, [.int vT, .long vG, .int vM, .int (bi o7_.2.1), .int vN, .int (bi o7_.2.2), .int vA])), (aR, .inr (4, [.ref aRd, .ref aRo, .int rc, .int rl, .int rm]))] ++ bxP L qi qt qc qp) H _ := hW
          have ho := op_thin hJ hB eo7_ c1 c3 c4
          refine lv_iload_n hx hb dL_isDoor_119 rfl (lv_at hl 3 rfl) ?_
          refine lv_if_eq (tgt := 128) hx hb dL_isDoor_120 (by decide) (fun c5 => ?_) (fun c5 => ?_)
          · skip
            refine lv_iload hx hb dL_isDoor_128 (lv_at hl 2 rfl) ?_
            refine lv_if_eq (tgt := 138) hx hb dL_isDoor_130 (by decide) (fun c6 => ?_) (fun c6 => ?_)
            · skip
              refine lv_iload_n hx hb dL_isDoor_138 rfl (lv_at hl 5 rfl) ?_
              refine lv_icmp_ne (tgt := 165) hx hb dL_isDoor_139 (by decide) (fun c7 => ?_) (fun c7 => ?_)
              · exact absurd (by subst ho; rfl) c7
              · skip
                refine lv_aload_n hx hb dL_isDoor_142 rfl (lv_at hl 6 rfl) ?_
                refine lv_bipush (v := 8) hx hb dL_isDoor_143 (by decide) ?_
                refine vp_callSi (va_Run.run (xrunV (As := [.int 8]) (rest := []) ⟨hx, hb, hml, hown, hts⟩ (c_X9_van l D cI cJ cZ cB H.size aX aV aS aSv aL aH aR aRo aP 8 aVk aK aJ aQ tm k1 k2 k3 k4 k5 sf aLr lc vT vG vM o7_.2.1 vN o7_.2.2 vA aRd rc rl rm ro aPc pl (by assumption) _ rfl) (cwV 1 hts gL_isDoor_X9_van rfl rfl rfl (by decide +kernel) ⟨Nat.le_of_ble_eq_true rfl, Nat.le_of_ble_eq_true rfl⟩) hK hG hW.2.2 (xsubQ hW hA [5, 6, 7, 8, 0, 9, 10, 3, 4] rfl (by decide)) (va_recv hK hW.1 (ci := 9) (q0 := 5) rfl rfl) rfl hl.1 rfl (Nat.le_of_ble_eq_true rfl) dL_isDoor_145 ⟨Nat.le_of_ble_eq_true rfl, Nat.le_of_ble_eq_true rfl⟩)) (fun r9 hq => ?_)
                rw [hq, van_8]
                refine lv_iload_n hx hb dL_isDoor_148 rfl (lv_at hl 3 rfl) ?_
                refine lv_if_ne (tgt := 157) hx hb dL_isDoor_149 (by decide) (fun c8 => ?_) (fun c8 => ?_)
                · exact absurd c8 (by decide)
                · skip
                  refine lv_iload hx hb dL_isDoor_152 (lv_at hl 2 rfl) ?_
                  refine lv_if_eq (tgt := 161) hx hb dL_isDoor_154 (by decide) (fun c9 => ?_) (fun c9 => ?_)
                  · skip
                    refine lv_iconst (v := 1) hx hb dL_isDoor_161 (by decide) ?_
                    refine lv_icmp_eq (tgt := 167) hx hb dL_isDoor_162 (by decide) (fun c10 => ?_) (fun c10 => ?_)
                    · skip
                      refine lv_iload_n hx hb dL_isDoor_167 rfl (lv_at hl 3 rfl) ?_
                      refine lv_if_ne (tgt := 180) hx hb dL_isDoor_168 (by decide) (fun c11 => ?_) (fun c11 => ?_)
                      · exact absurd c11 (by decide)
                      · skip
                        refine lv_iload hx hb dL_isDoor_171 (lv_at hl 2 rfl) ?_
                        refine lv_if_eq (tgt := 180) hx hb dL_isDoor_173 (by decide) (fun c12 => ?_) (fun c12 => ?_)
                        · skip
                          refine lv_iconst (v := 0) hx hb dL_isDoor_180 (by decide) ?_
                          refine lv_istore (lv' := [(7, .int 0), (6, .int vN), (5, .int (bi vO)), (4, .int 0), (3, .int 0), (2, .int 0), (1, .int (f_X8_concentration sf vG).toInt32), (0, .ref aX)]) hx hb dL_isDoor_181 hl (by decide) rfl (fun ls hl => ?_)
                          refine lv_aload_n hx hb dL_isDoor_183 rfl (lv_at hl 7 rfl) ?_
                          refine lv_bipush (v := 6) hx hb dL_isDoor_184 (by decide) ?_
                          refine vp_callSi (va_Run.run (xrunV (As := [.int 6]) (rest := []) ⟨hx, hb, hml, hown, hts⟩ (c_X9_van l D cI cJ cZ cB H.size aX aV aS aSv aL aH aR aRo aP 6 aVk aK aJ aQ tm k1 k2 k3 k4 k5 sf aLr lc vT vG vM o7_.2.1 vN o7_.2.2 vA aRd rc rl rm ro aPc pl (by assumption) _ rfl) (cwV 1 hts gL_isDoor_X9_van rfl rfl rfl (by decide +kernel) ⟨Nat.le_of_ble_eq_true rfl, Nat.le_of_ble_eq_true rfl⟩) hK hG hW.2.2 (xsubQ hW hA [5, 6, 7, 8, 0, 9, 10, 3, 4] rfl (by decide)) (va_recv hK hW.1 (ci := 9) (q0 := 5) rfl rfl) rfl hl.1 rfl (Nat.le_of_ble_eq_true rfl) dL_isDoor_186 ⟨Nat.le_of_ble_eq_true rfl, Nat.le_of_ble_eq_true rfl⟩)) (fun r10 hq => ?_)
                          rw [hq, van_6]
                          refine lv_iload hx hb dL_isDoor_189 (lv_at hl 0 rfl) ?_
                          refine lv_if_eq (tgt := 198) hx hb dL_isDoor_191 (by decide) (fun c13 => ?_) (fun c13 => ?_)
                          · skip
                            refine lv_iload hx hb dL_isDoor_198 (lv_at hl 2 rfl) ?_
                            refine lv_icmp_ne (tgt := 232) hx hb dL_isDoor_200 (by decide) (fun c14 => ?_) (fun c14 => ?_)
                            · exact absurd (by subst ho; rfl) c14
                            · skip
                              refine lv_aload_n hx hb dL_isDoor_203 rfl (lv_at hl 7 rfl) ?_
                              refine lv_bipush (v := 7) hx hb dL_isDoor_204 (by decide) ?_
                              refine vp_callSi (va_Run.run (xrunV (As := [.int 7]) (rest := []) ⟨hx, hb, hml, hown, hts⟩ (c_X9_van l D cI cJ cZ cB H.size aX aV aS aSv aL aH aR aRo aP 7 aVk aK aJ aQ tm k1 k2 k3 k4 k5 sf aLr lc vT vG vM o7_.2.1 vN o7_.2.2 vA aRd rc rl rm ro aPc pl (by assumption) _ rfl) (cwV 1 hts gL_isDoor_X9_van rfl rfl rfl (by decide +kernel) ⟨Nat.le_of_ble_eq_true rfl, Nat.le_of_ble_eq_true rfl⟩) hK hG hW.2.2 (xsubQ hW hA [5, 6, 7, 8, 0, 9, 10, 3, 4] rfl (by decide)) (va_recv hK hW.1 (ci := 9) (q0 := 5) rfl rfl) rfl hl.1 rfl (Nat.le_of_ble_eq_true rfl) dL_isDoor_206 ⟨Nat.le_of_ble_eq_true rfl, Nat.le_of_ble_eq_true rfl⟩)) (fun r11 hq => ?_)
                              rw [hq, van_7]
                              refine lv_iload hx hb dL_isDoor_209 (lv_at hl 0 rfl) ?_
                              refine lv_if_eq (tgt := 223) hx hb dL_isDoor_211 (by decide) (fun c15 => ?_) (fun c15 => ?_)
                              · skip
                                refine lv_iload hx hb dL_isDoor_223 (lv_at hl 1 rfl) ?_
                                refine lv_icmp_ne (tgt := 232) hx hb dL_isDoor_225 (by decide) (fun c16 => ?_) (fun c16 => ?_)
                                · exact absurd (rfl) c16
                                · skip
                                  refine lv_iconst (v := 1) hx hb dL_isDoor_228 (by decide) ?_
                                  refine lv_goto (tgt := 233) hx hb dL_isDoor_229 (by decide) ?_
                                  have hW := xW_perm (X' := [(aX, .inr (9, [.ref aV, .ref aVk, .ref aK, .ref aJ, .ref aP, .ref aQ])), (aV, .inr (8, [.ref aS, .ref aL, .ref aH, .ref aR, .int tm, .long k1, .long k2, .long k3, .long k4, .long k5])), (aS, .inr (6, [.ref aSv])), (aSv, .inl (cI, 11, .inl sf)), (aL, .inr (2, [.ref aLr, .int lc])), (aLr, .inl (cB, 10, .inr (.inr (.inr (.inr lr))))), (aH, .inr (1, [.int vT, .long vG, .int vM, .int (bi o7_.2.1), .int vN, .int (bi o7_.2.2), .int vA])), (aR, .inr (4, [.ref aRd, .ref aRo, .int rc, .int rl, .int rm])), (aRd, .inl (cI, 12, .inl rd)), (aRo, .inl (cI, 12, .inl ro)), (aP, .inr (3, [.ref aPc, .int pl]))]) hW [5, 6, 7, 8, 0, 1, 9, 10, 2, 3, 4] rfl (by decide)
                                  exact W.zret (v := 1) hx hb hrt rfl (fun t ht hM => ⟨⟨1, (o7_.2.1, o7_.2.2), rfl, ⟨rfl, j_door hJ (by subst ho; exact (j_vO hJ))⟩, ⟨by rw [ht]; exact hW.1, hW.2.1⟩⟩, hW.2.2.F ht⟩) hW.2.2.2.2 dL_isDoor_233 hlocks
                              · exact absurd c15 (by decide)
                          · exact absurd c13 (by decide)
                        · exact absurd c12 (by decide)
                    · exact absurd (by subst ho; rfl) c10
                  · exact absurd c9 (by decide)
            · exact absurd c6 (by decide)
          · exact absurd c5 (by decide)
        · skip
          refine lv_iconst (v := 1) hx hb dL_isDoor_92 (by decide) ?_
          refine lv_goto (tgt := 97) hx hb dL_isDoor_93 (by decide) ?_
          refine lv_istore (lv' := [(4, .int 1), (3, .int 0), (2, .int 0), (1, .int (f_X8_concentration sf vG).toInt32), (0, .ref aX)]) hx hb dL_isDoor_97 hl (by decide) rfl (fun ls hl => ?_)
          refine lv_aload_n hx hb dL_isDoor_99 rfl (lv_at hl 4 rfl) ?_
          refine lv_bipush (v := 6) hx hb dL_isDoor_100 (by decide) ?_
          refine vp_callSi (va_Run.run (xrunV (As := [.int 6]) (rest := []) ⟨hx, hb, hml, hown, hts⟩ (c_X9_van l D cI cJ cZ cB H.size aX aV aS aSv aL aH aR aRo aP 6 aVk aK aJ aQ tm k1 k2 k3 k4 k5 sf aLr lc vT vG vM vO vN vD vA aRd rc rl rm ro aPc pl (by assumption) _ rfl) (cwV 1 hts gL_isDoor_X9_van rfl rfl rfl (by decide +kernel) ⟨Nat.le_of_ble_eq_true rfl, Nat.le_of_ble_eq_true rfl⟩) hK hG hW.2.2 (xsubQ hW hA [0, 1, 2, 3, 4, 6, 7, 9, 10] rfl (by decide)) (va_recv hK hW.1 (ci := 9) (q0 := 0) rfl rfl) rfl hl.1 rfl (Nat.le_of_ble_eq_true rfl) dL_isDoor_102 ⟨Nat.le_of_ble_eq_true rfl, Nat.le_of_ble_eq_true rfl⟩)) (fun r12 hq => ?_)
          rw [hq, van_6]
          refine lv_istore (lv' := [(5, .int (bi vO)), (4, .int 1), (3, .int 0), (2, .int 0), (1, .int (f_X8_concentration sf vG).toInt32), (0, .ref aX)]) hx hb dL_isDoor_105 hl (by decide) rfl (fun ls hl => ?_)
          refine lv_aload_n hx hb dL_isDoor_107 rfl (lv_at hl 5 rfl) ?_
          refine lv_bipush (v := 7) hx hb dL_isDoor_108 (by decide) ?_
          refine vp_callSi (va_Run.run (xrunV (As := [.int 7]) (rest := []) ⟨hx, hb, hml, hown, hts⟩ (c_X9_van l D cI cJ cZ cB H.size aX aV aS aSv aL aH aR aRo aP 7 aVk aK aJ aQ tm k1 k2 k3 k4 k5 sf aLr lc vT vG vM vO vN vD vA aRd rc rl rm ro aPc pl (by assumption) _ rfl) (cwV 1 hts gL_isDoor_X9_van rfl rfl rfl (by decide +kernel) ⟨Nat.le_of_ble_eq_true rfl, Nat.le_of_ble_eq_true rfl⟩) hK hG hW.2.2 (xsubQ hW hA [0, 1, 2, 3, 4, 6, 7, 9, 10] rfl (by decide)) (va_recv hK hW.1 (ci := 9) (q0 := 0) rfl rfl) rfl hl.1 rfl (Nat.le_of_ble_eq_true rfl) dL_isDoor_110 ⟨Nat.le_of_ble_eq_true rfl, Nat.le_of_ble_eq_true rfl⟩)) (fun r13 hq => ?_)
          rw [hq, van_7]
          refine lv_istore (lv' := [(6, .int vN), (5, .int (bi vO)), (4, .int 1), (3, .int 0), (2, .int 0), (1, .int (f_X8_concentration sf vG).toInt32), (0, .ref aX)]) hx hb dL_isDoor_113 hl (by decide) rfl (fun ls hl => ?_)
          refine lv_aload_n hx hb dL_isDoor_115 rfl (lv_at hl 6 rfl) ?_
          obtain ⟨o14_, eo14_⟩ : ∃ z9, f_X9_open sf vG vO vD rm = z9 := ⟨_, rfl⟩
          refine xQi (wr := [(aL, .inr (2, [.ref aLr, .int lc])), (aLr, .inl (cB, 10, .inr (.inr (.inr (.inr lr))))), (aRd, .inl (cI, 12, .inl rd)), (aRo, .inl (cI, 12, .inl ro)), (aP, .inr (3, [.ref aPc, .int pl]))]) hW hA [0, 1, 2, 3, 6, 7] [4, 5, 8, 9, 10] rfl rfl (by decide) (by decide) (by decide) (xrunV (As := []) (rest := []) ⟨hx, hb, hml, hown, hts⟩ (c_X9_open l D cI cJ cZ cB H.size aX aV aS aSv aH aR aVk aK aJ aP aQ aL tm k1 k2 k3 k4 k5 sf vT vG vM vO vN vD vA aRd aRo rc rl rm o14_ eo14_) (cwV 0 hts gL_isDoor_X9_open rfl rfl rfl (by decide +kernel) ⟨Nat.le_of_ble_eq_true rfl, Nat.le_of_ble_eq_true rfl⟩) hK hG hW.2.2 (xsubQ hW hA [0, 1, 2, 3, 6, 7] rfl (by decide)) (va_recv hK hW.1 (ci := 9) (q0 := 0) rfl rfl) rfl hl.1 rfl (Nat.le_of_ble_eq_true rfl) dL_isDoor_116 ⟨Nat.le_of_ble_eq_true rfl, Nat.le_of_ble_eq_true rfl⟩) (fun r15 _ H locs hq hW => ?_)
          rw [hq]
          have hW : xW D A s.heap ([(aL, .inr (2, [.ref aLr, .int lc])), (aLr, .inl (cB, 10, .inr (.inr (.inr (.inr lr))))), (aRd, .inl (cI, 12, .inl rd)), (aRo, .inl (cI, 12, .inl ro)), (aP, .inr (3, [.ref aPc, .int pl])), (aX, .inr (9, [.ref aV, .ref aVk, .ref aK, .ref aJ, .ref aP, .ref aQ])), (aV, .inr (8, [.ref aS, .ref aL, .ref aH, .ref aR, .int tm, .long k1, .long k2, .long k3, .long k4, .long k5])), (aS, .inr (6, [.ref aSv])), (aSv, .inl (cI, 11, .inl sf)), (aH, .inr (1, [.int vT, .long vG, .int vM, .int (bi o14_.2.1), .int vN, .int (bi o14_.2.2), .int vA])), (aR, .inr (4, [.ref aRd, .ref aRo, .int rc, .int rl, .int rm]))] ++ bxP L qi qt qc qp) H _ := hW
          have ho := op_thick hJ hB eo14_ c1 c3 c4
          refine lv_iload_n hx hb dL_isDoor_119 rfl (lv_at hl 3 rfl) ?_
          refine lv_if_eq (tgt := 128) hx hb dL_isDoor_120 (by decide) (fun c5 => ?_) (fun c5 => ?_)
          · skip
            refine lv_iload hx hb dL_isDoor_128 (lv_at hl 2 rfl) ?_
            refine lv_if_eq (tgt := 138) hx hb dL_isDoor_130 (by decide) (fun c6 => ?_) (fun c6 => ?_)
            · exact absurd c6 (by decide)
            · skip
              refine lv_bipush (v := -6) hx hb dL_isDoor_133 (by decide) ?_
              refine lv_goto (tgt := 139) hx hb dL_isDoor_135 (by decide) ?_
              refine lv_icmp_ne (tgt := 165) hx hb dL_isDoor_139 (by decide) (fun c7 => ?_) (fun c7 => ?_)
              · exact absurd (by subst ho; rfl) c7
              · skip
                refine lv_aload_n hx hb dL_isDoor_142 rfl (lv_at hl 6 rfl) ?_
                refine lv_bipush (v := 8) hx hb dL_isDoor_143 (by decide) ?_
                refine vp_callSi (va_Run.run (xrunV (As := [.int 8]) (rest := []) ⟨hx, hb, hml, hown, hts⟩ (c_X9_van l D cI cJ cZ cB H.size aX aV aS aSv aL aH aR aRo aP 8 aVk aK aJ aQ tm k1 k2 k3 k4 k5 sf aLr lc vT vG vM o14_.2.1 vN o14_.2.2 vA aRd rc rl rm ro aPc pl (by assumption) _ rfl) (cwV 1 hts gL_isDoor_X9_van rfl rfl rfl (by decide +kernel) ⟨Nat.le_of_ble_eq_true rfl, Nat.le_of_ble_eq_true rfl⟩) hK hG hW.2.2 (xsubQ hW hA [5, 6, 7, 8, 0, 9, 10, 3, 4] rfl (by decide)) (va_recv hK hW.1 (ci := 9) (q0 := 5) rfl rfl) rfl hl.1 rfl (Nat.le_of_ble_eq_true rfl) dL_isDoor_145 ⟨Nat.le_of_ble_eq_true rfl, Nat.le_of_ble_eq_true rfl⟩)) (fun r16 hq => ?_)
                rw [hq, van_8]
                refine lv_iload_n hx hb dL_isDoor_148 rfl (lv_at hl 3 rfl) ?_
                refine lv_if_ne (tgt := 157) hx hb dL_isDoor_149 (by decide) (fun c8 => ?_) (fun c8 => ?_)
                · exact absurd c8 (by decide)
                · skip
                  refine lv_iload hx hb dL_isDoor_152 (lv_at hl 2 rfl) ?_
                  refine lv_if_eq (tgt := 161) hx hb dL_isDoor_154 (by decide) (fun c9 => ?_) (fun c9 => ?_)
                  · exact absurd c9 (by decide)
                  · skip
                    refine lv_iconst (v := 0) hx hb dL_isDoor_157 (by decide) ?_
                    refine lv_goto (tgt := 162) hx hb dL_isDoor_158 (by decide) ?_
                    refine lv_icmp_eq (tgt := 167) hx hb dL_isDoor_162 (by decide) (fun c10 => ?_) (fun c10 => ?_)
                    · skip
                      refine lv_iload_n hx hb dL_isDoor_167 rfl (lv_at hl 3 rfl) ?_
                      refine lv_if_ne (tgt := 180) hx hb dL_isDoor_168 (by decide) (fun c11 => ?_) (fun c11 => ?_)
                      · exact absurd c11 (by decide)
                      · skip
                        refine lv_iload hx hb dL_isDoor_171 (lv_at hl 2 rfl) ?_
                        refine lv_if_eq (tgt := 180) hx hb dL_isDoor_173 (by decide) (fun c12 => ?_) (fun c12 => ?_)
                        · exact absurd c12 (by decide)
                        · skip
                          refine lv_iconst (v := 1) hx hb dL_isDoor_176 (by decide) ?_
                          refine lv_goto (tgt := 181) hx hb dL_isDoor_177 (by decide) ?_
                          refine lv_istore (lv' := [(7, .int 1), (6, .int vN), (5, .int (bi vO)), (4, .int 1), (3, .int 0), (2, .int 0), (1, .int (f_X8_concentration sf vG).toInt32), (0, .ref aX)]) hx hb dL_isDoor_181 hl (by decide) rfl (fun ls hl => ?_)
                          refine lv_aload_n hx hb dL_isDoor_183 rfl (lv_at hl 7 rfl) ?_
                          refine lv_bipush (v := 6) hx hb dL_isDoor_184 (by decide) ?_
                          refine vp_callSi (va_Run.run (xrunV (As := [.int 6]) (rest := []) ⟨hx, hb, hml, hown, hts⟩ (c_X9_van l D cI cJ cZ cB H.size aX aV aS aSv aL aH aR aRo aP 6 aVk aK aJ aQ tm k1 k2 k3 k4 k5 sf aLr lc vT vG vM o14_.2.1 vN o14_.2.2 vA aRd rc rl rm ro aPc pl (by assumption) _ rfl) (cwV 1 hts gL_isDoor_X9_van rfl rfl rfl (by decide +kernel) ⟨Nat.le_of_ble_eq_true rfl, Nat.le_of_ble_eq_true rfl⟩) hK hG hW.2.2 (xsubQ hW hA [5, 6, 7, 8, 0, 9, 10, 3, 4] rfl (by decide)) (va_recv hK hW.1 (ci := 9) (q0 := 5) rfl rfl) rfl hl.1 rfl (Nat.le_of_ble_eq_true rfl) dL_isDoor_186 ⟨Nat.le_of_ble_eq_true rfl, Nat.le_of_ble_eq_true rfl⟩)) (fun r17 hq => ?_)
                          rw [hq, van_6]
                          refine lv_iload hx hb dL_isDoor_189 (lv_at hl 0 rfl) ?_
                          refine lv_if_eq (tgt := 198) hx hb dL_isDoor_191 (by decide) (fun c13 => ?_) (fun c13 => ?_)
                          · exact absurd c13 (by decide)
                          · skip
                            refine lv_iconst (v := 1) hx hb dL_isDoor_194 (by decide) ?_
                            refine lv_goto (tgt := 200) hx hb dL_isDoor_195 (by decide) ?_
                            refine lv_icmp_ne (tgt := 232) hx hb dL_isDoor_200 (by decide) (fun c14 => ?_) (fun c14 => ?_)
                            · exact absurd (by subst ho; rfl) c14
                            · skip
                              refine lv_aload_n hx hb dL_isDoor_203 rfl (lv_at hl 7 rfl) ?_
                              refine lv_bipush (v := 7) hx hb dL_isDoor_204 (by decide) ?_
                              refine vp_callSi (va_Run.run (xrunV (As := [.int 7]) (rest := []) ⟨hx, hb, hml, hown, hts⟩ (c_X9_van l D cI cJ cZ cB H.size aX aV aS aSv aL aH aR aRo aP 7 aVk aK aJ aQ tm k1 k2 k3 k4 k5 sf aLr lc vT vG vM o14_.2.1 vN o14_.2.2 vA aRd rc rl rm ro aPc pl (by assumption) _ rfl) (cwV 1 hts gL_isDoor_X9_van rfl rfl rfl (by decide +kernel) ⟨Nat.le_of_ble_eq_true rfl, Nat.le_of_ble_eq_true rfl⟩) hK hG hW.2.2 (xsubQ hW hA [5, 6, 7, 8, 0, 9, 10, 3, 4] rfl (by decide)) (va_recv hK hW.1 (ci := 9) (q0 := 5) rfl rfl) rfl hl.1 rfl (Nat.le_of_ble_eq_true rfl) dL_isDoor_206 ⟨Nat.le_of_ble_eq_true rfl, Nat.le_of_ble_eq_true rfl⟩)) (fun r18 hq => ?_)
                              rw [hq, van_7]
                              refine lv_iload hx hb dL_isDoor_209 (lv_at hl 0 rfl) ?_
                              refine lv_if_eq (tgt := 223) hx hb dL_isDoor_211 (by decide) (fun c15 => ?_) (fun c15 => ?_)
                              · exact absurd c15 (by decide)
                              · skip
                                refine lv_iload hx hb dL_isDoor_214 (lv_at hl 2 rfl) ?_
                                refine xb_ne (tgt := 223) hx hb dL_isDoor_216 (by decide) (fun c16 => ?_) (fun c16 => ?_)
                                · skip
                                  refine lv_iload hx hb dL_isDoor_223 (lv_at hl 1 rfl) ?_
                                  refine lv_icmp_ne (tgt := 232) hx hb dL_isDoor_225 (by decide) (fun c17 => ?_) (fun c17 => ?_)
                                  · exact absurd (rfl) c17
                                  · skip
                                    refine lv_iconst (v := 1) hx hb dL_isDoor_228 (by decide) ?_
                                    refine lv_goto (tgt := 233) hx hb dL_isDoor_229 (by decide) ?_
                                    have hW := xW_perm (X' := [(aX, .inr (9, [.ref aV, .ref aVk, .ref aK, .ref aJ, .ref aP, .ref aQ])), (aV, .inr (8, [.ref aS, .ref aL, .ref aH, .ref aR, .int tm, .long k1, .long k2, .long k3, .long k4, .long k5])), (aS, .inr (6, [.ref aSv])), (aSv, .inl (cI, 11, .inl sf)), (aL, .inr (2, [.ref aLr, .int lc])), (aLr, .inl (cB, 10, .inr (.inr (.inr (.inr lr))))), (aH, .inr (1, [.int vT, .long vG, .int vM, .int (bi o14_.2.1), .int vN, .int (bi o14_.2.2), .int vA])), (aR, .inr (4, [.ref aRd, .ref aRo, .int rc, .int rl, .int rm])), (aRd, .inl (cI, 12, .inl rd)), (aRo, .inl (cI, 12, .inl ro)), (aP, .inr (3, [.ref aPc, .int pl]))]) hW [5, 6, 7, 8, 0, 1, 9, 10, 2, 3, 4] rfl (by decide)
                                    exact W.zret (v := 1) hx hb hrt rfl (fun t ht hM => ⟨⟨1, (o14_.2.1, o14_.2.2), rfl, ⟨rfl, j_door hJ (by subst ho; exact (fun h => by cases h))⟩, ⟨by rw [ht]; exact hW.1, hW.2.1⟩⟩, hW.2.2.F ht⟩) hW.2.2.2.2 dL_isDoor_233 hlocks
                                · skip
                                  refine lv_iconst (v := 0) hx hb dL_isDoor_219 (by decide) ?_
                                  refine lv_goto (tgt := 225) hx hb dL_isDoor_220 (by decide) ?_
                                  refine lv_icmp_ne (tgt := 232) hx hb dL_isDoor_225 (by decide) (fun c17 => ?_) (fun c17 => ?_)
                                  · exact absurd (j_vO hJ (Bool.not_eq_true _ ▸ c16)) c17
                                  · skip
                                    refine lv_iconst (v := 1) hx hb dL_isDoor_228 (by decide) ?_
                                    refine lv_goto (tgt := 233) hx hb dL_isDoor_229 (by decide) ?_
                                    have hW := xW_perm (X' := [(aX, .inr (9, [.ref aV, .ref aVk, .ref aK, .ref aJ, .ref aP, .ref aQ])), (aV, .inr (8, [.ref aS, .ref aL, .ref aH, .ref aR, .int tm, .long k1, .long k2, .long k3, .long k4, .long k5])), (aS, .inr (6, [.ref aSv])), (aSv, .inl (cI, 11, .inl sf)), (aL, .inr (2, [.ref aLr, .int lc])), (aLr, .inl (cB, 10, .inr (.inr (.inr (.inr lr))))), (aH, .inr (1, [.int vT, .long vG, .int vM, .int (bi o14_.2.1), .int vN, .int (bi o14_.2.2), .int vA])), (aR, .inr (4, [.ref aRd, .ref aRo, .int rc, .int rl, .int rm])), (aRd, .inl (cI, 12, .inl rd)), (aRo, .inl (cI, 12, .inl ro)), (aP, .inr (3, [.ref aPc, .int pl]))]) hW [5, 6, 7, 8, 0, 1, 9, 10, 2, 3, 4] rfl (by decide)
                                    exact W.zret (v := 1) hx hb hrt rfl (fun t ht hM => ⟨⟨1, (o14_.2.1, o14_.2.2), rfl, ⟨rfl, j_door hJ (by subst ho; exact (fun h => by cases h))⟩, ⟨by rw [ht]; exact hW.1, hW.2.1⟩⟩, hW.2.2.F ht⟩) hW.2.2.2.2 dL_isDoor_233 hlocks
                    · exact absurd (by subst ho; rfl) c10
          · exact absurd c5 (by decide)
      · skip
        refine lv_iconst (v := 1) hx hb dL_isDoor_76 (by decide) ?_
        refine lv_goto (tgt := 81) hx hb dL_isDoor_77 (by decide) ?_
        refine lv_istore_n (lv' := [(3, .int 1), (2, .int 0), (1, .int (f_X8_concentration sf vG).toInt32), (0, .ref aX)]) hx hb dL_isDoor_81 rfl hl (by decide) rfl (fun ls hl => ?_)
        refine lv_iload_n hx hb dL_isDoor_82 rfl (lv_at hl 2 rfl) ?_
        refine lv_aload_n hx hb dL_isDoor_83 rfl (lv_at hl 3 rfl) ?_
        refine lv_bipush (v := 23) hx hb dL_isDoor_84 (by decide) ?_
        refine vp_callSi (va_Run.run (xrunV (As := [.int 23]) (rest := [.int (f_X8_concentration sf vG).toInt32]) ⟨hx, hb, hml, hown, hts⟩ (c_X9_van l D cI cJ cZ cB H.size aX aV aS aSv aL aH aR aRo aP 23 aVk aK aJ aQ tm k1 k2 k3 k4 k5 sf aLr lc vT vG vM vO vN vD vA aRd rc rl rm ro aPc pl (by assumption) _ rfl) (cwV 1 hts gL_isDoor_X9_van rfl rfl rfl (by decide +kernel) ⟨Nat.le_of_ble_eq_true rfl, Nat.le_of_ble_eq_true rfl⟩) hK hG hW.2.2 (xsubQ hW hA [0, 1, 2, 3, 4, 6, 7, 9, 10] rfl (by decide)) (va_recv hK hW.1 (ci := 9) (q0 := 0) rfl rfl) rfl hl.1 rfl (Nat.le_of_ble_eq_true rfl) dL_isDoor_86 ⟨Nat.le_of_ble_eq_true rfl, Nat.le_of_ble_eq_true rfl⟩)) (fun r19 hq => ?_)
        rw [hq, van_23]
        refine lv_icmp_lt (tgt := 96) hx hb dL_isDoor_89 (by decide) (fun c4 => ?_) (fun c4 => ?_)
        · skip
          refine lv_iconst (v := 0) hx hb dL_isDoor_96 (by decide) ?_
          refine lv_istore (lv' := [(4, .int 0), (3, .int 1), (2, .int 0), (1, .int (f_X8_concentration sf vG).toInt32), (0, .ref aX)]) hx hb dL_isDoor_97 hl (by decide) rfl (fun ls hl => ?_)
          refine lv_aload_n hx hb dL_isDoor_99 rfl (lv_at hl 4 rfl) ?_
          refine lv_bipush (v := 6) hx hb dL_isDoor_100 (by decide) ?_
          refine vp_callSi (va_Run.run (xrunV (As := [.int 6]) (rest := []) ⟨hx, hb, hml, hown, hts⟩ (c_X9_van l D cI cJ cZ cB H.size aX aV aS aSv aL aH aR aRo aP 6 aVk aK aJ aQ tm k1 k2 k3 k4 k5 sf aLr lc vT vG vM vO vN vD vA aRd rc rl rm ro aPc pl (by assumption) _ rfl) (cwV 1 hts gL_isDoor_X9_van rfl rfl rfl (by decide +kernel) ⟨Nat.le_of_ble_eq_true rfl, Nat.le_of_ble_eq_true rfl⟩) hK hG hW.2.2 (xsubQ hW hA [0, 1, 2, 3, 4, 6, 7, 9, 10] rfl (by decide)) (va_recv hK hW.1 (ci := 9) (q0 := 0) rfl rfl) rfl hl.1 rfl (Nat.le_of_ble_eq_true rfl) dL_isDoor_102 ⟨Nat.le_of_ble_eq_true rfl, Nat.le_of_ble_eq_true rfl⟩)) (fun r20 hq => ?_)
          rw [hq, van_6]
          refine lv_istore (lv' := [(5, .int (bi vO)), (4, .int 0), (3, .int 1), (2, .int 0), (1, .int (f_X8_concentration sf vG).toInt32), (0, .ref aX)]) hx hb dL_isDoor_105 hl (by decide) rfl (fun ls hl => ?_)
          refine lv_aload_n hx hb dL_isDoor_107 rfl (lv_at hl 5 rfl) ?_
          refine lv_bipush (v := 7) hx hb dL_isDoor_108 (by decide) ?_
          refine vp_callSi (va_Run.run (xrunV (As := [.int 7]) (rest := []) ⟨hx, hb, hml, hown, hts⟩ (c_X9_van l D cI cJ cZ cB H.size aX aV aS aSv aL aH aR aRo aP 7 aVk aK aJ aQ tm k1 k2 k3 k4 k5 sf aLr lc vT vG vM vO vN vD vA aRd rc rl rm ro aPc pl (by assumption) _ rfl) (cwV 1 hts gL_isDoor_X9_van rfl rfl rfl (by decide +kernel) ⟨Nat.le_of_ble_eq_true rfl, Nat.le_of_ble_eq_true rfl⟩) hK hG hW.2.2 (xsubQ hW hA [0, 1, 2, 3, 4, 6, 7, 9, 10] rfl (by decide)) (va_recv hK hW.1 (ci := 9) (q0 := 0) rfl rfl) rfl hl.1 rfl (Nat.le_of_ble_eq_true rfl) dL_isDoor_110 ⟨Nat.le_of_ble_eq_true rfl, Nat.le_of_ble_eq_true rfl⟩)) (fun r21 hq => ?_)
          rw [hq, van_7]
          refine lv_istore (lv' := [(6, .int vN), (5, .int (bi vO)), (4, .int 0), (3, .int 1), (2, .int 0), (1, .int (f_X8_concentration sf vG).toInt32), (0, .ref aX)]) hx hb dL_isDoor_113 hl (by decide) rfl (fun ls hl => ?_)
          refine lv_aload_n hx hb dL_isDoor_115 rfl (lv_at hl 6 rfl) ?_
          obtain ⟨o22_, eo22_⟩ : ∃ z9, f_X9_open sf vG vO vD rm = z9 := ⟨_, rfl⟩
          refine xQi (wr := [(aL, .inr (2, [.ref aLr, .int lc])), (aLr, .inl (cB, 10, .inr (.inr (.inr (.inr lr))))), (aRd, .inl (cI, 12, .inl rd)), (aRo, .inl (cI, 12, .inl ro)), (aP, .inr (3, [.ref aPc, .int pl]))]) hW hA [0, 1, 2, 3, 6, 7] [4, 5, 8, 9, 10] rfl rfl (by decide) (by decide) (by decide) (xrunV (As := []) (rest := []) ⟨hx, hb, hml, hown, hts⟩ (c_X9_open l D cI cJ cZ cB H.size aX aV aS aSv aH aR aVk aK aJ aP aQ aL tm k1 k2 k3 k4 k5 sf vT vG vM vO vN vD vA aRd aRo rc rl rm o22_ eo22_) (cwV 0 hts gL_isDoor_X9_open rfl rfl rfl (by decide +kernel) ⟨Nat.le_of_ble_eq_true rfl, Nat.le_of_ble_eq_true rfl⟩) hK hG hW.2.2 (xsubQ hW hA [0, 1, 2, 3, 6, 7] rfl (by decide)) (va_recv hK hW.1 (ci := 9) (q0 := 0) rfl rfl) rfl hl.1 rfl (Nat.le_of_ble_eq_true rfl) dL_isDoor_116 ⟨Nat.le_of_ble_eq_true rfl, Nat.le_of_ble_eq_true rfl⟩) (fun r23 _ H locs hq hW => ?_)
          rw [hq]
          have hW : xW D A s.heap ([(aL, .inr (2, [.ref aLr, .int lc])), (aLr, .inl (cB, 10, .inr (.inr (.inr (.inr lr))))), (aRd, .inl (cI, 12, .inl rd)), (aRo, .inl (cI, 12, .inl ro)), (aP, .inr (3, [.ref aPc, .int pl])), (aX, .inr (9, [.ref aV, .ref aVk, .ref aK, .ref aJ, .ref aP, .ref aQ])), (aV, .inr (8, [.ref aS, .ref aL, .ref aH, .ref aR, .int tm, .long k1, .long k2, .long k3, .long k4, .long k5])), (aS, .inr (6, [.ref aSv])), (aSv, .inl (cI, 11, .inl sf)), (aH, .inr (1, [.int vT, .long vG, .int vM, .int (bi o22_.2.1), .int vN, .int (bi o22_.2.2), .int vA])), (aR, .inr (4, [.ref aRd, .ref aRo, .int rc, .int rl, .int rm]))] ++ bxP L qi qt qc qp) H _ := hW
          have ho := op_away eo22_ c1 c3
          refine lv_iload_n hx hb dL_isDoor_119 rfl (lv_at hl 3 rfl) ?_
          refine lv_if_eq (tgt := 128) hx hb dL_isDoor_120 (by decide) (fun c5 => ?_) (fun c5 => ?_)
          · exact absurd c5 (by decide)
          · skip
            refine lv_bipush (v := -5) hx hb dL_isDoor_123 (by decide) ?_
            refine lv_goto (tgt := 139) hx hb dL_isDoor_125 (by decide) ?_
            refine lv_icmp_ne (tgt := 165) hx hb dL_isDoor_139 (by decide) (fun c6 => ?_) (fun c6 => ?_)
            · exact absurd (by subst ho; rfl) c6
            · skip
              refine lv_aload_n hx hb dL_isDoor_142 rfl (lv_at hl 6 rfl) ?_
              refine lv_bipush (v := 8) hx hb dL_isDoor_143 (by decide) ?_
              refine vp_callSi (va_Run.run (xrunV (As := [.int 8]) (rest := []) ⟨hx, hb, hml, hown, hts⟩ (c_X9_van l D cI cJ cZ cB H.size aX aV aS aSv aL aH aR aRo aP 8 aVk aK aJ aQ tm k1 k2 k3 k4 k5 sf aLr lc vT vG vM o22_.2.1 vN o22_.2.2 vA aRd rc rl rm ro aPc pl (by assumption) _ rfl) (cwV 1 hts gL_isDoor_X9_van rfl rfl rfl (by decide +kernel) ⟨Nat.le_of_ble_eq_true rfl, Nat.le_of_ble_eq_true rfl⟩) hK hG hW.2.2 (xsubQ hW hA [5, 6, 7, 8, 0, 9, 10, 3, 4] rfl (by decide)) (va_recv hK hW.1 (ci := 9) (q0 := 5) rfl rfl) rfl hl.1 rfl (Nat.le_of_ble_eq_true rfl) dL_isDoor_145 ⟨Nat.le_of_ble_eq_true rfl, Nat.le_of_ble_eq_true rfl⟩)) (fun r24 hq => ?_)
              rw [hq, van_8]
              refine lv_iload_n hx hb dL_isDoor_148 rfl (lv_at hl 3 rfl) ?_
              refine lv_if_ne (tgt := 157) hx hb dL_isDoor_149 (by decide) (fun c7 => ?_) (fun c7 => ?_)
              · skip
                refine lv_iconst (v := 0) hx hb dL_isDoor_157 (by decide) ?_
                refine lv_goto (tgt := 162) hx hb dL_isDoor_158 (by decide) ?_
                refine lv_icmp_eq (tgt := 167) hx hb dL_isDoor_162 (by decide) (fun c8 => ?_) (fun c8 => ?_)
                · skip
                  refine lv_iload_n hx hb dL_isDoor_167 rfl (lv_at hl 3 rfl) ?_
                  refine lv_if_ne (tgt := 180) hx hb dL_isDoor_168 (by decide) (fun c9 => ?_) (fun c9 => ?_)
                  · skip
                    refine lv_iconst (v := 0) hx hb dL_isDoor_180 (by decide) ?_
                    refine lv_istore (lv' := [(7, .int 0), (6, .int vN), (5, .int (bi vO)), (4, .int 0), (3, .int 1), (2, .int 0), (1, .int (f_X8_concentration sf vG).toInt32), (0, .ref aX)]) hx hb dL_isDoor_181 hl (by decide) rfl (fun ls hl => ?_)
                    refine lv_aload_n hx hb dL_isDoor_183 rfl (lv_at hl 7 rfl) ?_
                    refine lv_bipush (v := 6) hx hb dL_isDoor_184 (by decide) ?_
                    refine vp_callSi (va_Run.run (xrunV (As := [.int 6]) (rest := []) ⟨hx, hb, hml, hown, hts⟩ (c_X9_van l D cI cJ cZ cB H.size aX aV aS aSv aL aH aR aRo aP 6 aVk aK aJ aQ tm k1 k2 k3 k4 k5 sf aLr lc vT vG vM o22_.2.1 vN o22_.2.2 vA aRd rc rl rm ro aPc pl (by assumption) _ rfl) (cwV 1 hts gL_isDoor_X9_van rfl rfl rfl (by decide +kernel) ⟨Nat.le_of_ble_eq_true rfl, Nat.le_of_ble_eq_true rfl⟩) hK hG hW.2.2 (xsubQ hW hA [5, 6, 7, 8, 0, 9, 10, 3, 4] rfl (by decide)) (va_recv hK hW.1 (ci := 9) (q0 := 5) rfl rfl) rfl hl.1 rfl (Nat.le_of_ble_eq_true rfl) dL_isDoor_186 ⟨Nat.le_of_ble_eq_true rfl, Nat.le_of_ble_eq_true rfl⟩)) (fun r25 hq => ?_)
                    rw [hq, van_6]
                    refine lv_iload hx hb dL_isDoor_189 (lv_at hl 0 rfl) ?_
                    refine lv_if_eq (tgt := 198) hx hb dL_isDoor_191 (by decide) (fun c10 => ?_) (fun c10 => ?_)
                    · skip
                      refine lv_iload hx hb dL_isDoor_198 (lv_at hl 2 rfl) ?_
                      refine lv_icmp_ne (tgt := 232) hx hb dL_isDoor_200 (by decide) (fun c11 => ?_) (fun c11 => ?_)
                      · exact absurd (by subst ho; rfl) c11
                      · skip
                        refine lv_aload_n hx hb dL_isDoor_203 rfl (lv_at hl 7 rfl) ?_
                        refine lv_bipush (v := 7) hx hb dL_isDoor_204 (by decide) ?_
                        refine vp_callSi (va_Run.run (xrunV (As := [.int 7]) (rest := []) ⟨hx, hb, hml, hown, hts⟩ (c_X9_van l D cI cJ cZ cB H.size aX aV aS aSv aL aH aR aRo aP 7 aVk aK aJ aQ tm k1 k2 k3 k4 k5 sf aLr lc vT vG vM o22_.2.1 vN o22_.2.2 vA aRd rc rl rm ro aPc pl (by assumption) _ rfl) (cwV 1 hts gL_isDoor_X9_van rfl rfl rfl (by decide +kernel) ⟨Nat.le_of_ble_eq_true rfl, Nat.le_of_ble_eq_true rfl⟩) hK hG hW.2.2 (xsubQ hW hA [5, 6, 7, 8, 0, 9, 10, 3, 4] rfl (by decide)) (va_recv hK hW.1 (ci := 9) (q0 := 5) rfl rfl) rfl hl.1 rfl (Nat.le_of_ble_eq_true rfl) dL_isDoor_206 ⟨Nat.le_of_ble_eq_true rfl, Nat.le_of_ble_eq_true rfl⟩)) (fun r26 hq => ?_)
                        rw [hq, van_7]
                        refine lv_iload hx hb dL_isDoor_209 (lv_at hl 0 rfl) ?_
                        refine lv_if_eq (tgt := 223) hx hb dL_isDoor_211 (by decide) (fun c12 => ?_) (fun c12 => ?_)
                        · skip
                          refine lv_iload hx hb dL_isDoor_223 (lv_at hl 1 rfl) ?_
                          refine lv_icmp_ne (tgt := 232) hx hb dL_isDoor_225 (by decide) (fun c13 => ?_) (fun c13 => ?_)
                          · exact absurd (rfl) c13
                          · skip
                            refine lv_iconst (v := 1) hx hb dL_isDoor_228 (by decide) ?_
                            refine lv_goto (tgt := 233) hx hb dL_isDoor_229 (by decide) ?_
                            have hW := xW_perm (X' := [(aX, .inr (9, [.ref aV, .ref aVk, .ref aK, .ref aJ, .ref aP, .ref aQ])), (aV, .inr (8, [.ref aS, .ref aL, .ref aH, .ref aR, .int tm, .long k1, .long k2, .long k3, .long k4, .long k5])), (aS, .inr (6, [.ref aSv])), (aSv, .inl (cI, 11, .inl sf)), (aL, .inr (2, [.ref aLr, .int lc])), (aLr, .inl (cB, 10, .inr (.inr (.inr (.inr lr))))), (aH, .inr (1, [.int vT, .long vG, .int vM, .int (bi o22_.2.1), .int vN, .int (bi o22_.2.2), .int vA])), (aR, .inr (4, [.ref aRd, .ref aRo, .int rc, .int rl, .int rm])), (aRd, .inl (cI, 12, .inl rd)), (aRo, .inl (cI, 12, .inl ro)), (aP, .inr (3, [.ref aPc, .int pl]))]) hW [5, 6, 7, 8, 0, 1, 9, 10, 2, 3, 4] rfl (by decide)
                            exact W.zret (v := 1) hx hb hrt rfl (fun t ht hM => ⟨⟨1, (o22_.2.1, o22_.2.2), rfl, ⟨rfl, j_door hJ (by subst ho; exact (j_vO hJ))⟩, ⟨by rw [ht]; exact hW.1, hW.2.1⟩⟩, hW.2.2.F ht⟩) hW.2.2.2.2 dL_isDoor_233 hlocks
                        · exact absurd c12 (by decide)
                    · exact absurd c10 (by decide)
                  · exact absurd c9 (by decide)
                · exact absurd (by subst ho; rfl) c8
              · exact absurd c7 (by decide)
        · skip
          refine lv_iconst (v := 1) hx hb dL_isDoor_92 (by decide) ?_
          refine lv_goto (tgt := 97) hx hb dL_isDoor_93 (by decide) ?_
          refine lv_istore (lv' := [(4, .int 1), (3, .int 1), (2, .int 0), (1, .int (f_X8_concentration sf vG).toInt32), (0, .ref aX)]) hx hb dL_isDoor_97 hl (by decide) rfl (fun ls hl => ?_)
          refine lv_aload_n hx hb dL_isDoor_99 rfl (lv_at hl 4 rfl) ?_
          refine lv_bipush (v := 6) hx hb dL_isDoor_100 (by decide) ?_
          refine vp_callSi (va_Run.run (xrunV (As := [.int 6]) (rest := []) ⟨hx, hb, hml, hown, hts⟩ (c_X9_van l D cI cJ cZ cB H.size aX aV aS aSv aL aH aR aRo aP 6 aVk aK aJ aQ tm k1 k2 k3 k4 k5 sf aLr lc vT vG vM vO vN vD vA aRd rc rl rm ro aPc pl (by assumption) _ rfl) (cwV 1 hts gL_isDoor_X9_van rfl rfl rfl (by decide +kernel) ⟨Nat.le_of_ble_eq_true rfl, Nat.le_of_ble_eq_true rfl⟩) hK hG hW.2.2 (xsubQ hW hA [0, 1, 2, 3, 4, 6, 7, 9, 10] rfl (by decide)) (va_recv hK hW.1 (ci := 9) (q0 := 0) rfl rfl) rfl hl.1 rfl (Nat.le_of_ble_eq_true rfl) dL_isDoor_102 ⟨Nat.le_of_ble_eq_true rfl, Nat.le_of_ble_eq_true rfl⟩)) (fun r27 hq => ?_)
          rw [hq, van_6]
          refine lv_istore (lv' := [(5, .int (bi vO)), (4, .int 1), (3, .int 1), (2, .int 0), (1, .int (f_X8_concentration sf vG).toInt32), (0, .ref aX)]) hx hb dL_isDoor_105 hl (by decide) rfl (fun ls hl => ?_)
          refine lv_aload_n hx hb dL_isDoor_107 rfl (lv_at hl 5 rfl) ?_
          refine lv_bipush (v := 7) hx hb dL_isDoor_108 (by decide) ?_
          refine vp_callSi (va_Run.run (xrunV (As := [.int 7]) (rest := []) ⟨hx, hb, hml, hown, hts⟩ (c_X9_van l D cI cJ cZ cB H.size aX aV aS aSv aL aH aR aRo aP 7 aVk aK aJ aQ tm k1 k2 k3 k4 k5 sf aLr lc vT vG vM vO vN vD vA aRd rc rl rm ro aPc pl (by assumption) _ rfl) (cwV 1 hts gL_isDoor_X9_van rfl rfl rfl (by decide +kernel) ⟨Nat.le_of_ble_eq_true rfl, Nat.le_of_ble_eq_true rfl⟩) hK hG hW.2.2 (xsubQ hW hA [0, 1, 2, 3, 4, 6, 7, 9, 10] rfl (by decide)) (va_recv hK hW.1 (ci := 9) (q0 := 0) rfl rfl) rfl hl.1 rfl (Nat.le_of_ble_eq_true rfl) dL_isDoor_110 ⟨Nat.le_of_ble_eq_true rfl, Nat.le_of_ble_eq_true rfl⟩)) (fun r28 hq => ?_)
          rw [hq, van_7]
          refine lv_istore (lv' := [(6, .int vN), (5, .int (bi vO)), (4, .int 1), (3, .int 1), (2, .int 0), (1, .int (f_X8_concentration sf vG).toInt32), (0, .ref aX)]) hx hb dL_isDoor_113 hl (by decide) rfl (fun ls hl => ?_)
          refine lv_aload_n hx hb dL_isDoor_115 rfl (lv_at hl 6 rfl) ?_
          obtain ⟨o29_, eo29_⟩ : ∃ z9, f_X9_open sf vG vO vD rm = z9 := ⟨_, rfl⟩
          refine xQi (wr := [(aL, .inr (2, [.ref aLr, .int lc])), (aLr, .inl (cB, 10, .inr (.inr (.inr (.inr lr))))), (aRd, .inl (cI, 12, .inl rd)), (aRo, .inl (cI, 12, .inl ro)), (aP, .inr (3, [.ref aPc, .int pl]))]) hW hA [0, 1, 2, 3, 6, 7] [4, 5, 8, 9, 10] rfl rfl (by decide) (by decide) (by decide) (xrunV (As := []) (rest := []) ⟨hx, hb, hml, hown, hts⟩ (c_X9_open l D cI cJ cZ cB H.size aX aV aS aSv aH aR aVk aK aJ aP aQ aL tm k1 k2 k3 k4 k5 sf vT vG vM vO vN vD vA aRd aRo rc rl rm o29_ eo29_) (cwV 0 hts gL_isDoor_X9_open rfl rfl rfl (by decide +kernel) ⟨Nat.le_of_ble_eq_true rfl, Nat.le_of_ble_eq_true rfl⟩) hK hG hW.2.2 (xsubQ hW hA [0, 1, 2, 3, 6, 7] rfl (by decide)) (va_recv hK hW.1 (ci := 9) (q0 := 0) rfl rfl) rfl hl.1 rfl (Nat.le_of_ble_eq_true rfl) dL_isDoor_116 ⟨Nat.le_of_ble_eq_true rfl, Nat.le_of_ble_eq_true rfl⟩) (fun r30 _ H locs hq hW => ?_)
          rw [hq]
          have hW : xW D A s.heap ([(aL, .inr (2, [.ref aLr, .int lc])), (aLr, .inl (cB, 10, .inr (.inr (.inr (.inr lr))))), (aRd, .inl (cI, 12, .inl rd)), (aRo, .inl (cI, 12, .inl ro)), (aP, .inr (3, [.ref aPc, .int pl])), (aX, .inr (9, [.ref aV, .ref aVk, .ref aK, .ref aJ, .ref aP, .ref aQ])), (aV, .inr (8, [.ref aS, .ref aL, .ref aH, .ref aR, .int tm, .long k1, .long k2, .long k3, .long k4, .long k5])), (aS, .inr (6, [.ref aSv])), (aSv, .inl (cI, 11, .inl sf)), (aH, .inr (1, [.int vT, .long vG, .int vM, .int (bi o29_.2.1), .int vN, .int (bi o29_.2.2), .int vA])), (aR, .inr (4, [.ref aRd, .ref aRo, .int rc, .int rl, .int rm]))] ++ bxP L qi qt qc qp) H _ := hW
          have ho := op_away eo29_ c1 c3
          refine lv_iload_n hx hb dL_isDoor_119 rfl (lv_at hl 3 rfl) ?_
          refine lv_if_eq (tgt := 128) hx hb dL_isDoor_120 (by decide) (fun c5 => ?_) (fun c5 => ?_)
          · exact absurd c5 (by decide)
          · skip
            refine lv_bipush (v := -5) hx hb dL_isDoor_123 (by decide) ?_
            refine lv_goto (tgt := 139) hx hb dL_isDoor_125 (by decide) ?_
            refine lv_icmp_ne (tgt := 165) hx hb dL_isDoor_139 (by decide) (fun c6 => ?_) (fun c6 => ?_)
            · exact absurd (by subst ho; rfl) c6
            · skip
              refine lv_aload_n hx hb dL_isDoor_142 rfl (lv_at hl 6 rfl) ?_
              refine lv_bipush (v := 8) hx hb dL_isDoor_143 (by decide) ?_
              refine vp_callSi (va_Run.run (xrunV (As := [.int 8]) (rest := []) ⟨hx, hb, hml, hown, hts⟩ (c_X9_van l D cI cJ cZ cB H.size aX aV aS aSv aL aH aR aRo aP 8 aVk aK aJ aQ tm k1 k2 k3 k4 k5 sf aLr lc vT vG vM o29_.2.1 vN o29_.2.2 vA aRd rc rl rm ro aPc pl (by assumption) _ rfl) (cwV 1 hts gL_isDoor_X9_van rfl rfl rfl (by decide +kernel) ⟨Nat.le_of_ble_eq_true rfl, Nat.le_of_ble_eq_true rfl⟩) hK hG hW.2.2 (xsubQ hW hA [5, 6, 7, 8, 0, 9, 10, 3, 4] rfl (by decide)) (va_recv hK hW.1 (ci := 9) (q0 := 5) rfl rfl) rfl hl.1 rfl (Nat.le_of_ble_eq_true rfl) dL_isDoor_145 ⟨Nat.le_of_ble_eq_true rfl, Nat.le_of_ble_eq_true rfl⟩)) (fun r31 hq => ?_)
              rw [hq, van_8]
              refine lv_iload_n hx hb dL_isDoor_148 rfl (lv_at hl 3 rfl) ?_
              refine lv_if_ne (tgt := 157) hx hb dL_isDoor_149 (by decide) (fun c7 => ?_) (fun c7 => ?_)
              · skip
                refine lv_iconst (v := 0) hx hb dL_isDoor_157 (by decide) ?_
                refine lv_goto (tgt := 162) hx hb dL_isDoor_158 (by decide) ?_
                refine lv_icmp_eq (tgt := 167) hx hb dL_isDoor_162 (by decide) (fun c8 => ?_) (fun c8 => ?_)
                · skip
                  refine lv_iload_n hx hb dL_isDoor_167 rfl (lv_at hl 3 rfl) ?_
                  refine lv_if_ne (tgt := 180) hx hb dL_isDoor_168 (by decide) (fun c9 => ?_) (fun c9 => ?_)
                  · skip
                    refine lv_iconst (v := 0) hx hb dL_isDoor_180 (by decide) ?_
                    refine lv_istore (lv' := [(7, .int 0), (6, .int vN), (5, .int (bi vO)), (4, .int 1), (3, .int 1), (2, .int 0), (1, .int (f_X8_concentration sf vG).toInt32), (0, .ref aX)]) hx hb dL_isDoor_181 hl (by decide) rfl (fun ls hl => ?_)
                    refine lv_aload_n hx hb dL_isDoor_183 rfl (lv_at hl 7 rfl) ?_
                    refine lv_bipush (v := 6) hx hb dL_isDoor_184 (by decide) ?_
                    refine vp_callSi (va_Run.run (xrunV (As := [.int 6]) (rest := []) ⟨hx, hb, hml, hown, hts⟩ (c_X9_van l D cI cJ cZ cB H.size aX aV aS aSv aL aH aR aRo aP 6 aVk aK aJ aQ tm k1 k2 k3 k4 k5 sf aLr lc vT vG vM o29_.2.1 vN o29_.2.2 vA aRd rc rl rm ro aPc pl (by assumption) _ rfl) (cwV 1 hts gL_isDoor_X9_van rfl rfl rfl (by decide +kernel) ⟨Nat.le_of_ble_eq_true rfl, Nat.le_of_ble_eq_true rfl⟩) hK hG hW.2.2 (xsubQ hW hA [5, 6, 7, 8, 0, 9, 10, 3, 4] rfl (by decide)) (va_recv hK hW.1 (ci := 9) (q0 := 5) rfl rfl) rfl hl.1 rfl (Nat.le_of_ble_eq_true rfl) dL_isDoor_186 ⟨Nat.le_of_ble_eq_true rfl, Nat.le_of_ble_eq_true rfl⟩)) (fun r32 hq => ?_)
                    rw [hq, van_6]
                    refine lv_iload hx hb dL_isDoor_189 (lv_at hl 0 rfl) ?_
                    refine lv_if_eq (tgt := 198) hx hb dL_isDoor_191 (by decide) (fun c10 => ?_) (fun c10 => ?_)
                    · skip
                      refine lv_iload hx hb dL_isDoor_198 (lv_at hl 2 rfl) ?_
                      refine lv_icmp_ne (tgt := 232) hx hb dL_isDoor_200 (by decide) (fun c11 => ?_) (fun c11 => ?_)
                      · exact absurd (by subst ho; rfl) c11
                      · skip
                        refine lv_aload_n hx hb dL_isDoor_203 rfl (lv_at hl 7 rfl) ?_
                        refine lv_bipush (v := 7) hx hb dL_isDoor_204 (by decide) ?_
                        refine vp_callSi (va_Run.run (xrunV (As := [.int 7]) (rest := []) ⟨hx, hb, hml, hown, hts⟩ (c_X9_van l D cI cJ cZ cB H.size aX aV aS aSv aL aH aR aRo aP 7 aVk aK aJ aQ tm k1 k2 k3 k4 k5 sf aLr lc vT vG vM o29_.2.1 vN o29_.2.2 vA aRd rc rl rm ro aPc pl (by assumption) _ rfl) (cwV 1 hts gL_isDoor_X9_van rfl rfl rfl (by decide +kernel) ⟨Nat.le_of_ble_eq_true rfl, Nat.le_of_ble_eq_true rfl⟩) hK hG hW.2.2 (xsubQ hW hA [5, 6, 7, 8, 0, 9, 10, 3, 4] rfl (by decide)) (va_recv hK hW.1 (ci := 9) (q0 := 5) rfl rfl) rfl hl.1 rfl (Nat.le_of_ble_eq_true rfl) dL_isDoor_206 ⟨Nat.le_of_ble_eq_true rfl, Nat.le_of_ble_eq_true rfl⟩)) (fun r33 hq => ?_)
                        rw [hq, van_7]
                        refine lv_iload hx hb dL_isDoor_209 (lv_at hl 0 rfl) ?_
                        refine lv_if_eq (tgt := 223) hx hb dL_isDoor_211 (by decide) (fun c12 => ?_) (fun c12 => ?_)
                        · skip
                          refine lv_iload hx hb dL_isDoor_223 (lv_at hl 1 rfl) ?_
                          refine lv_icmp_ne (tgt := 232) hx hb dL_isDoor_225 (by decide) (fun c13 => ?_) (fun c13 => ?_)
                          · exact absurd (rfl) c13
                          · skip
                            refine lv_iconst (v := 1) hx hb dL_isDoor_228 (by decide) ?_
                            refine lv_goto (tgt := 233) hx hb dL_isDoor_229 (by decide) ?_
                            have hW := xW_perm (X' := [(aX, .inr (9, [.ref aV, .ref aVk, .ref aK, .ref aJ, .ref aP, .ref aQ])), (aV, .inr (8, [.ref aS, .ref aL, .ref aH, .ref aR, .int tm, .long k1, .long k2, .long k3, .long k4, .long k5])), (aS, .inr (6, [.ref aSv])), (aSv, .inl (cI, 11, .inl sf)), (aL, .inr (2, [.ref aLr, .int lc])), (aLr, .inl (cB, 10, .inr (.inr (.inr (.inr lr))))), (aH, .inr (1, [.int vT, .long vG, .int vM, .int (bi o29_.2.1), .int vN, .int (bi o29_.2.2), .int vA])), (aR, .inr (4, [.ref aRd, .ref aRo, .int rc, .int rl, .int rm])), (aRd, .inl (cI, 12, .inl rd)), (aRo, .inl (cI, 12, .inl ro)), (aP, .inr (3, [.ref aPc, .int pl]))]) hW [5, 6, 7, 8, 0, 1, 9, 10, 2, 3, 4] rfl (by decide)
                            exact W.zret (v := 1) hx hb hrt rfl (fun t ht hM => ⟨⟨1, (o29_.2.1, o29_.2.2), rfl, ⟨rfl, j_door hJ (by subst ho; exact (j_vO hJ))⟩, ⟨by rw [ht]; exact hW.1, hW.2.1⟩⟩, hW.2.2.F ht⟩) hW.2.2.2.2 dL_isDoor_233 hlocks
                        · exact absurd c12 (by decide)
                    · exact absurd c10 (by decide)
                  · exact absurd c9 (by decide)
                · exact absurd (by subst ho; rfl) c8
              · exact absurd c7 (by decide)
    · exact absurd c2 (by decide)
  · skip
    refine lv_iconst (v := 1) hx hb dL_isDoor_16 (by decide) ?_
    refine lv_goto (tgt := 21) hx hb dL_isDoor_17 (by decide) ?_
    refine lv_istore_n (lv' := [(2, .int 1), (1, .int (f_X8_concentration sf vG).toInt32), (0, .ref aX)]) hx hb dL_isDoor_21 rfl hl (by decide) rfl (fun ls hl => ?_)
    refine lv_iload_n hx hb dL_isDoor_22 rfl (lv_at hl 0 rfl) ?_
    refine lv_if_eq (tgt := 67) hx hb dL_isDoor_23 (by decide) (fun c2 => ?_) (fun c2 => ?_)
    · exact absurd c2 (by decide)
    · skip
      refine lv_aload_n hx hb dL_isDoor_26 rfl (lv_at hl 2 rfl) ?_
      obtain ⟨o34_, eo34_⟩ : ∃ z9, f_X9_open sf vG vO vD rm = z9 := ⟨_, rfl⟩
      refine xQi (wr := [(aL, .inr (2, [.ref aLr, .int lc])), (aLr, .inl (cB, 10, .inr (.inr (.inr (.inr lr))))), (aRd, .inl (cI, 12, .inl rd)), (aRo, .inl (cI, 12, .inl ro)), (aP, .inr (3, [.ref aPc, .int pl]))]) hW hA [0, 1, 2, 3, 6, 7] [4, 5, 8, 9, 10] rfl rfl (by decide) (by decide) (by decide) (xrunV (As := []) (rest := []) ⟨hx, hb, hml, hown, hts⟩ (c_X9_open l D cI cJ cZ cB H.size aX aV aS aSv aH aR aVk aK aJ aP aQ aL tm k1 k2 k3 k4 k5 sf vT vG vM vO vN vD vA aRd aRo rc rl rm o34_ eo34_) (cwV 0 hts gL_isDoor_X9_open rfl rfl rfl (by decide +kernel) ⟨Nat.le_of_ble_eq_true rfl, Nat.le_of_ble_eq_true rfl⟩) hK hG hW.2.2 (xsubQ hW hA [0, 1, 2, 3, 6, 7] rfl (by decide)) (va_recv hK hW.1 (ci := 9) (q0 := 0) rfl rfl) rfl hl.1 rfl (Nat.le_of_ble_eq_true rfl) dL_isDoor_27 ⟨Nat.le_of_ble_eq_true rfl, Nat.le_of_ble_eq_true rfl⟩) (fun r35 _ H locs hq hW => ?_)
      rw [hq]
      have hW : xW D A s.heap ([(aL, .inr (2, [.ref aLr, .int lc])), (aLr, .inl (cB, 10, .inr (.inr (.inr (.inr lr))))), (aRd, .inl (cI, 12, .inl rd)), (aRo, .inl (cI, 12, .inl ro)), (aP, .inr (3, [.ref aPc, .int pl])), (aX, .inr (9, [.ref aV, .ref aVk, .ref aK, .ref aJ, .ref aP, .ref aQ])), (aV, .inr (8, [.ref aS, .ref aL, .ref aH, .ref aR, .int tm, .long k1, .long k2, .long k3, .long k4, .long k5])), (aS, .inr (6, [.ref aSv])), (aSv, .inl (cI, 11, .inl sf)), (aH, .inr (1, [.int vT, .long vG, .int vM, .int (bi o34_.2.1), .int vN, .int (bi o34_.2.2), .int vA])), (aR, .inr (4, [.ref aRd, .ref aRo, .int rc, .int rl, .int rm]))] ++ bxP L qi qt qc qp) H _ := hW
      have ho := op_open eo34_ c1
      refine lv_bipush (v := -5) hx hb dL_isDoor_30 (by decide) ?_
      refine lv_icmp_ne (tgt := 65) hx hb dL_isDoor_32 (by decide) (fun c3 => ?_) (fun c3 => ?_)
      · exact absurd (by subst ho; rfl) c3
      · skip
        refine lv_aload_n hx hb dL_isDoor_35 rfl (lv_at hl 2 rfl) ?_
        refine xQi (wr := [(aL, .inr (2, [.ref aLr, .int lc])), (aLr, .inl (cB, 10, .inr (.inr (.inr (.inr lr))))), (aRd, .inl (cI, 12, .inl rd)), (aRo, .inl (cI, 12, .inl ro)), (aP, .inr (3, [.ref aPc, .int pl])), (aR, .inr (4, [.ref aRd, .ref aRo, .int rc, .int rl, .int rm]))]) hW hA [5, 6, 7, 8, 9] [0, 1, 2, 3, 4, 10] rfl rfl (by decide) (by decide) (by decide) (xrunV (As := []) (rest := []) ⟨hx, hb, hml, hown, hts⟩ (c_X9_shut l D cI cJ cZ cB H.size aX aV aS aSv aH aVk aK aJ aP aQ aL aR tm k1 k2 k3 k4 k5 sf vT vG vM o34_.2.1 vN o34_.2.2 vA _ rfl) (cwV 0 hts gL_isDoor_X9_shut rfl rfl rfl (by decide +kernel) ⟨Nat.le_of_ble_eq_true rfl, Nat.le_of_ble_eq_true rfl⟩) hK hG hW.2.2 (xsubQ hW hA [5, 6, 7, 8, 9] rfl (by decide)) (va_recv hK hW.1 (ci := 9) (q0 := 5) rfl rfl) rfl hl.1 rfl (Nat.le_of_ble_eq_true rfl) dL_isDoor_36 ⟨Nat.le_of_ble_eq_true rfl, Nat.le_of_ble_eq_true rfl⟩) (fun r36 _ H locs hq hW => ?_)
        rw [hq]
        have hW : xW D A s.heap ([(aL, .inr (2, [.ref aLr, .int lc])), (aLr, .inl (cB, 10, .inr (.inr (.inr (.inr lr))))), (aRd, .inl (cI, 12, .inl rd)), (aRo, .inl (cI, 12, .inl ro)), (aP, .inr (3, [.ref aPc, .int pl])), (aR, .inr (4, [.ref aRd, .ref aRo, .int rc, .int rl, .int rm])), (aX, .inr (9, [.ref aV, .ref aVk, .ref aK, .ref aJ, .ref aP, .ref aQ])), (aV, .inr (8, [.ref aS, .ref aL, .ref aH, .ref aR, .int tm, .long k1, .long k2, .long k3, .long k4, .long k5])), (aS, .inr (6, [.ref aSv])), (aSv, .inl (cI, 11, .inl sf)), (aH, .inr (1, [.int vT, .long vG, .int vM, .int (bi o34_.2.1), .int vN, .int (bi (f_X9_shut sf vG o34_.2.2).2), .int vA]))] ++ bxP L qi qt qc qp) H _ := hW
        refine lv_iload_n hx hb dL_isDoor_39 rfl (lv_at hl 1 rfl) ?_
        refine lv_icmp_ne (tgt := 65) hx hb dL_isDoor_40 (by decide) (fun c4 => ?_) (fun c4 => ?_)
        · exact absurd (by subst ho; rfl) c4
        · skip
          refine lv_aload_n hx hb dL_isDoor_43 rfl (lv_at hl 2 rfl) ?_
          refine lv_bipush (v := 8) hx hb dL_isDoor_44 (by decide) ?_
          refine vp_callSi (va_Run.run (xrunV (As := [.int 8]) (rest := []) ⟨hx, hb, hml, hown, hts⟩ (c_X9_van l D cI cJ cZ cB H.size aX aV aS aSv aL aH aR aRo aP 8 aVk aK aJ aQ tm k1 k2 k3 k4 k5 sf aLr lc vT vG vM o34_.2.1 vN (f_X9_shut sf vG o34_.2.2).2 vA aRd rc rl rm ro aPc pl (by assumption) _ rfl) (cwV 1 hts gL_isDoor_X9_van rfl rfl rfl (by decide +kernel) ⟨Nat.le_of_ble_eq_true rfl, Nat.le_of_ble_eq_true rfl⟩) hK hG hW.2.2 (xsubQ hW hA [6, 7, 8, 9, 0, 10, 5, 3, 4] rfl (by decide)) (va_recv hK hW.1 (ci := 9) (q0 := 6) rfl rfl) rfl hl.1 rfl (Nat.le_of_ble_eq_true rfl) dL_isDoor_46 ⟨Nat.le_of_ble_eq_true rfl, Nat.le_of_ble_eq_true rfl⟩)) (fun r37 hq => ?_)
          rw [hq, van_8]
          refine xb_ne (tgt := 65) hx hb dL_isDoor_49 (by decide) (fun c5 => ?_) (fun c5 => ?_)
          · exact absurd c5 (by subst ho; exact Bool.false_ne_true)
          · skip
            refine lv_aload_n hx hb dL_isDoor_52 rfl (lv_at hl 2 rfl) ?_
            refine xQi (wr := [(aL, .inr (2, [.ref aLr, .int lc])), (aLr, .inl (cB, 10, .inr (.inr (.inr (.inr lr))))), (aRd, .inl (cI, 12, .inl rd)), (aRo, .inl (cI, 12, .inl ro)), (aP, .inr (3, [.ref aPc, .int pl])), (aR, .inr (4, [.ref aRd, .ref aRo, .int rc, .int rl, .int rm]))]) hW hA [6, 7, 8, 9, 10] [0, 1, 2, 3, 4, 5] rfl rfl (by decide) (by decide) (by decide) (xrunV (As := []) (rest := []) ⟨hx, hb, hml, hown, hts⟩ (c_X9_shut l D cI cJ cZ cB H.size aX aV aS aSv aH aVk aK aJ aP aQ aL aR tm k1 k2 k3 k4 k5 sf vT vG vM o34_.2.1 vN (f_X9_shut sf vG o34_.2.2).2 vA _ rfl) (cwV 0 hts gL_isDoor_X9_shut rfl rfl rfl (by decide +kernel) ⟨Nat.le_of_ble_eq_true rfl, Nat.le_of_ble_eq_true rfl⟩) hK hG hW.2.2 (xsubQ hW hA [6, 7, 8, 9, 10] rfl (by decide)) (va_recv hK hW.1 (ci := 9) (q0 := 6) rfl rfl) rfl hl.1 rfl (Nat.le_of_ble_eq_true rfl) dL_isDoor_53 ⟨Nat.le_of_ble_eq_true rfl, Nat.le_of_ble_eq_true rfl⟩) (fun r38 _ H locs hq hW => ?_)
            rw [hq]
            have hW : xW D A s.heap ([(aL, .inr (2, [.ref aLr, .int lc])), (aLr, .inl (cB, 10, .inr (.inr (.inr (.inr lr))))), (aRd, .inl (cI, 12, .inl rd)), (aRo, .inl (cI, 12, .inl ro)), (aP, .inr (3, [.ref aPc, .int pl])), (aR, .inr (4, [.ref aRd, .ref aRo, .int rc, .int rl, .int rm])), (aX, .inr (9, [.ref aV, .ref aVk, .ref aK, .ref aJ, .ref aP, .ref aQ])), (aV, .inr (8, [.ref aS, .ref aL, .ref aH, .ref aR, .int tm, .long k1, .long k2, .long k3, .long k4, .long k5])), (aS, .inr (6, [.ref aSv])), (aSv, .inl (cI, 11, .inl sf)), (aH, .inr (1, [.int vT, .long vG, .int vM, .int (bi o34_.2.1), .int vN, .int (bi (f_X9_shut sf vG (f_X9_shut sf vG o34_.2.2).2).2), .int vA]))] ++ bxP L qi qt qc qp) H _ := hW
            refine lv_bipush (v := -5) hx hb dL_isDoor_56 (by decide) ?_
            refine lv_icmp_ne (tgt := 65) hx hb dL_isDoor_58 (by decide) (fun c6 => ?_) (fun c6 => ?_)
            · exact absurd (by subst ho; rfl) c6
            · skip
              refine lv_iconst (v := 1) hx hb dL_isDoor_61 (by decide) ?_
              refine lv_goto (tgt := 66) hx hb dL_isDoor_62 (by decide) ?_
              have hW := xW_perm (X' := [(aX, .inr (9, [.ref aV, .ref aVk, .ref aK, .ref aJ, .ref aP, .ref aQ])), (aV, .inr (8, [.ref aS, .ref aL, .ref aH, .ref aR, .int tm, .long k1, .long k2, .long k3, .long k4, .long k5])), (aS, .inr (6, [.ref aSv])), (aSv, .inl (cI, 11, .inl sf)), (aL, .inr (2, [.ref aLr, .int lc])), (aLr, .inl (cB, 10, .inr (.inr (.inr (.inr lr))))), (aH, .inr (1, [.int vT, .long vG, .int vM, .int (bi o34_.2.1), .int vN, .int (bi (f_X9_shut sf vG (f_X9_shut sf vG o34_.2.2).2).2), .int vA])), (aR, .inr (4, [.ref aRd, .ref aRo, .int rc, .int rl, .int rm])), (aRd, .inl (cI, 12, .inl rd)), (aRo, .inl (cI, 12, .inl ro)), (aP, .inr (3, [.ref aPc, .int pl]))]) hW [6, 7, 8, 9, 0, 1, 10, 5, 2, 3, 4] rfl (by decide)
              exact W.zret (v := 1) hx hb hrt rfl (fun t ht hM => ⟨⟨1, (o34_.2.1, (f_X9_shut sf vG (f_X9_shut sf vG o34_.2.2).2).2), rfl, ⟨rfl, j_door hJ (by subst ho; exact (j_vO hJ))⟩, ⟨by rw [ht]; exact hW.1, hW.2.1⟩⟩, hW.2.2.F ht⟩) hW.2.2.2.2 dL_isDoor_66 hlocks
