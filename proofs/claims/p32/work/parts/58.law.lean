/-! what the law's own body needs -/
theorem room_c {x : Nat} (h : x ≤ 600000) : x ≤ room_1.cells := Nat.le_trans h (Nat.le_of_ble_eq_true rfl)
theorem room_s {x : Nat} (h : x ≤ 7302250) : x ≤ room_1.slots := Nat.le_trans h (Nat.le_of_ble_eq_true rfl)
theorem okR_u {L u : List Nat} (h : u.length = 10) (hs : ∀ x, x ∈ u → x ∈ L) : okR L (fun k => u[k]?) := fun k hk => by
  have hl : k < u.length := by omega
  exact ⟨u[k], hs _ (List.getElem_mem hl), List.getElem?_eq_getElem hl⟩
theorem pre_4 {a b c d : List Nat} (h : a.length = 10) {i : Nat} (hi : i < 10) : (((([] ++ a) ++ b) ++ c) ++ d)[i]? = a[i]? := by
  rw [List.nil_append, List.getElem?_append_left (by rw [List.length_append, List.length_append]; omega), List.getElem?_append_left (by rw [List.length_append]; omega), List.getElem?_append_left (by omega)]
/-- the boxes of a row are all different -/
theorem row_inj {D : va_G} {A : Nat → Prop} {H0 H : Heap} {X : va_W} {L u : List Nat} {i t c p : Nat → Int32} {locs : List Loc} (hW : xW D A H0 (X ++ bxP L i t c p) H locs) (hu : ∀ k, k < 10 → L[k]? = u[k]?) (h10 : u.length = 10) : ∀ a b : Nat, a < 10 → b < 10 → bxa (fun k => u[k]?) a = bxa (fun k => u[k]?) b → a = b := by
  intro a b ha hb e
  have g : ∀ k, k < 10 → ∃ e9, (X ++ bxP L i t c p)[X.length + k]? = some (bxa (fun k => u[k]?) k, e9) := fun k hk => by
    have hl : k < u.length := by omega
    have h1 : L[k]? = some u[k] := (hu k hk).trans (List.getElem?_eq_getElem hl)
    have h2 : bxa (fun k => u[k]?) k = u[k] := by
      show (u[k]?).getD 0 = u[k]
      rw [List.getElem?_eq_getElem hl]; rfl
    refine ⟨bxF i t c p u[k], ?_⟩
    rw [List.getElem?_append_right (Nat.le_add_right _ _), Nat.add_sub_cancel_left, h2]
    show (L.map (fun a => (a, bxF i t c p a)))[k]? = _
    rw [List.getElem?_map, h1]; rfl
  obtain ⟨e1, g1⟩ := g a ha
  obtain ⟨e2, g2⟩ := g b hb
  have h := hW.2.1.1 _ _ _ _ g1 g2 e
  omega
/-- settings stay within their ranges, whatever is set -/
def JS0 (sf : Nat → Int32) : Prop := ∀ k, k < 11 → (sleast k).toInt ≤ (sf k).toInt ∧ (sf k).toInt ≤ (smost k).toInt
theorem js_first : JS0 sfirst := by
  intro k hk
  rcases (show k = 0 ∨ k = 1 ∨ k = 2 ∨ k = 3 ∨ k = 4 ∨ k = 5 ∨ k = 6 ∨ k = 7 ∨ k = 8 ∨ k = 9 ∨ k = 10 by omega) with rfl | rfl | rfl | rfl | rfl | rfl | rfl | rfl | rfl | rfl | rfl <;> decide +kernel
theorem set_js {a b : Int32} {sf : Nat → Int32} (h : JS0 sf) : JS0 (f_X9_set a b sf).2 := by
  unfold f_X9_set
  by_cases c : f_X6_allows a b = true
  · rw [if_pos c]
    show JS0 (f_X6_change a b sf).2
    unfold f_X6_change
    rw [if_pos c]
    have hw := allows_within c
    have h2 : f_X9_within b (sleast a.toNatClampNeg) (smost a.toNatClampNeg) = true := by
      unfold f_X6_allows at c
      rw [if_pos hw] at c
      by_cases q : f_X9_within b (sleast a.toNatClampNeg) (smost a.toNatClampNeg) = true
      · exact q
      · rw [if_neg q] at c; exact absurd c (by decide)
    intro k hk
    show (sleast k).toInt ≤ (upd sf a.toNatClampNeg b k).toInt ∧ (upd sf a.toNatClampNeg b k).toInt ≤ (smost k).toInt
    unfold upd
    by_cases q : k = a.toNatClampNeg
    · rw [if_pos q, q]; exact within_iff.mp h2
    · rw [if_neg q]; exact h k hk
  · rw [if_neg c]; exact h
theorem js_s {sf : Nat → Int32} (h : JS0 sf) : JS sf := by
  have g : ∀ k : Nat, ∀ x y : Int, k < 11 → (sleast k).toInt = x → (smost k).toInt = y → x ≤ (sf k).toInt ∧ (sf k).toInt ≤ y := fun k x y hk e1 e2 => by
    rw [← e1, ← e2]; exact h k hk
  exact ⟨g 0 0 1000 (by decide) (by decide +kernel) (by decide +kernel), g 1 1 100 (by decide) (by decide +kernel) (by decide +kernel), g 2 0 500 (by decide) (by decide +kernel) (by decide +kernel), g 3 0 100 (by decide) (by decide +kernel) (by decide +kernel), g 4 0 900 (by decide) (by decide +kernel) (by decide +kernel), g 8 1 50000 (by decide) (by decide +kernel) (by decide +kernel), g 9 1 200 (by decide) (by decide +kernel) (by decide +kernel), g 10 1 100000 (by decide) (by decide +kernel) (by decide +kernel)⟩
-- the legs
def JL (rc : Int32) (rd ro : Nat → Int32) : Prop := okC rc 12 ∧ ∀ k : Nat, (k : Int) < rc.toInt → (1 ≤ (rd k).toInt ∧ (rd k).toInt ≤ 600) ∧ (-4000 ≤ (ro k).toInt ∧ (ro k).toInt ≤ 5000)
theorem jl_0 : JL 0 (fun _ => 0) (fun _ => 0) := ⟨⟨by decide, by decide⟩, fun k hk => by rw [xI0] at hk; omega⟩
theorem m_b {y : Int32} (h : 0 ≤ y.toInt ∧ y.toInt < 9) : 1 ≤ (1 + y).toInt ∧ (1 + y).toInt ≤ 600 := by
  have e := xI1
  rw [xaddI (by omega) (by omega), e]; omega
theorem o_b {y : Int32} (h : 0 ≤ y.toInt ∧ y.toInt < 9001) : -4000 ≤ (y - 4000).toInt ∧ (y - 4000).toInt ≤ 5000 := by
  have e : (4000 : Int32).toInt = 4000 := by decide
  rw [xsubI (by omega) (by omega), e]; omega
theorem lg_ok {m u rc x : Int32} {rd ro : Nat → Int32} {o : Int32 × Int32 × (Nat → Int32) × (Nat → Int32)} (e : f_X9_leg m u rc rd ro = o) (h : JL rc rd ro) (hr : rc = x) (hx : x.toInt < 5) (hm : 1 ≤ m.toInt ∧ m.toInt ≤ 600) (hu : -4000 ≤ u.toInt ∧ u.toInt ≤ 5000) : o.1 = x ∧ o.2.1 = x + 1 ∧ JL o.2.1 o.2.2.1 o.2.2.2 := by
  subst hr
  have e12 : (12 : Int32).toInt = 12 := by decide
  have e1 := xI1
  have h0 := h.1.1
  have c : rc < 12 := xlt.mpr (by omega)
  have em : f_X9_within m 1 600 = true := within_iff.mpr hm
  have eu : f_X9_within u (-4000) 5000 = true := within_iff.mpr hu
  have hF : f_X9_leg m u rc rd ro = (rc + 1 - 1, rc + 1, upd rd rc.toNatClampNeg m, upd ro rc.toNatClampNeg u) := by
    rw [f_X9_leg, if_pos em, if_pos eu, if_pos c, f_X9_leg_k1, f_X4_append, if_pos c]
  rw [hF] at e
  subst e
  have u1 : (rc + 1).toInt = rc.toInt + 1 := by rw [xaddI (by omega) (by omega), e1]
  refine ⟨tj (by rw [xsubI (by omega) (by omega), u1, e1]; omega), rfl, ⟨by rw [u1]; omega, by rw [u1]; omega⟩, fun k hk => ?_⟩
  have hk2 : (k : Int) < rc.toInt + 1 := by rw [← u1]; exact hk
  show (1 ≤ (upd rd rc.toNatClampNeg m k).toInt ∧ (upd rd rc.toNatClampNeg m k).toInt ≤ 600) ∧ (-4000 ≤ (upd ro rc.toNatClampNeg u k).toInt ∧ (upd ro rc.toNatClampNeg u k).toInt ≤ 5000)
  unfold upd
  by_cases q : k = rc.toNatClampNeg
  · rw [if_pos q, if_pos q]; exact ⟨hm, hu⟩
  · rw [if_neg q, if_neg q]
    exact h.2 k (by
      have e5 : rc.toNatClampNeg = rc.toInt.toNat := rfl
      rw [e5] at q
      omega)
/-- a new van -/
theorem jj_0 {L : List Nat} {lr : Nat → Option Nat} {rc : Int32} {rd ro sf : Nat → Int32} (hr : okR L lr) (hi : ∀ i j : Nat, i < 10 → j < 10 → bxa lr i = bxa lr j → i = j) (hl : JL rc rd ro) (hs : JS0 sf) : JJ 0 0 L 0 lr rc (-1) 0 rd ro sf (f_X1_init ).1 0 (f_X1_init ).2 false 0 false 0 0 0 0 0 0 0 z0 z0 z0 z0 := by
  have e0 := xI0
  have em : (-1 : Int32).toInt = -1 := by decide
  have h0 := hl.1.1
  refine ⟨⟨hr, ⟨by decide, by decide⟩, hi⟩, fun k hk => by rw [xI0] at hk; omega, ⟨hl.1, ⟨by rw [em]; omega, by rw [em]; omega⟩, ⟨by decide, by decide⟩, hl.2⟩, js_s hs, ⟨by decide, by decide, Or.inl rfl, fun _ => rfl, by decide, by decide, by decide⟩, ?_, by decide, by decide, by decide, by decide, by decide⟩
  show (0 : Int64).toInt = smC lr z0 (0 : Int32).toInt.toNat + (0 : Int64).toInt + (0 : Int64).toInt + (0 : Int64).toInt + (0 : Int64).toInt
  rw [xI0, xL0]; rfl
section LW
variable {B Tm : Int} {L : List Nat} {lc : Int32} {lr : Nat → Option Nat} {rc rl rm : Int32} {rd ro sf : Nat → Int32} {vT : Int32} {vG : Int64} {vM : Int32} {vO : Bool} {vN : Int32} {vD : Bool} {vA tm : Int32} {k1 k2 k3 k4 k5 : Int64} {qi qt qc qp : Nat → Int32}
theorem op_0 {o : Int32 × Bool × Bool} (h : JJ B Tm L lc lr rc rl 0 rd ro sf vT 0 vM false vN false vA tm k1 k2 k3 k4 k5 qi qt qc qp) (e : f_X9_open sf 0 false false 0 = o) : o = (0, false, true) := by
  subst e
  have hS := h.2.2.2.1
  have h2 := hS.2.1
  have e2 : (2 : Int64).toInt = 2 := by decide
  have e3 : (2 * (sf 1).toInt64).toInt = 2 * (sf 1).toInt := by rw [xmulL (by rw [e2, tL]; omega) (by rw [e2, tL]; omega), e2, tL]
  have hc : f_X8_concentration sf 0 = 0 := by
    rw [conc_e hS]
    exact tjL (by rw [xdivL (by rw [e3]; omega), xL0, Int.zero_tdiv])
  have h8 := hS.2.2.2.2.2.1
  have hn : ¬ (f_X6_value 8 sf).toInt64 ≤ f_X8_concentration sf 0 := by
    rw [hc, val_8, xnleL, tL, xL0]; omega
  rw [f_X9_open, f_X4_isOnTheWay, if_pos (Int32.le_refl _), if_neg (by decide), if_neg (by decide), f_X8_isSafe, if_neg hn, if_pos rfl, hc]
  rfl
theorem i_c {y : Int32} (h : 0 ≤ y.toInt ∧ y.toInt < 100) : 1 ≤ (1 + y).toInt ∧ (1 + y).toInt ≤ 100 := by
  have e := xI1
  rw [xaddI (by omega) (by omega), e]; omega
theorem t_b {y : Int32} (h : 0 ≤ y.toInt ∧ y.toInt < 1000) : 0 ≤ y.toInt ∧ y.toInt ≤ 5000000 := by omega
theorem q_b {y : Int32} (h : 0 ≤ y.toInt ∧ y.toInt < 3000000) : 0 ≤ y.toInt ∧ y.toInt ≤ 3000000 := by omega
theorem b_5 {x : Int32} (e : lc = x) (h : x.toInt < 5) : ¬ 10 ≤ lc := fun q => by
  have h1 := xle.mp q
  have e10 : (10 : Int32).toInt = 10 := by decide
  rw [e] at h1
  omega
theorem ix_l {x a : Int32} {J : Int} (ha : a.toInt = J) (h0 : 0 ≤ x.toInt) (h5 : x.toInt < 5) (hJ : 0 ≤ J ∧ J ≤ 100) : 0 ≤ (a + x).toInt ∧ (a + x).toInt ≤ 1000 := by
  rw [xaddI (by omega) (by omega)]; omega
theorem lt_24 {k : Int32} (c : ¬ 24 ≤ k) : k.toInt < 24 := by
  have h := xnle.mp c
  have e : (24 : Int32).toInt = 24 := by decide
  omega
theorem at_v {k : Int32} (h0 : 0 ≤ k.toInt) (h : k.toInt < 24) : (45 + (6 * k)).toInt = 45 + 6 * k.toInt := by
  have e45 : (45 : Int32).toInt = 45 := by decide
  have e6 : (6 : Int32).toInt = 6 := by decide
  have a : (6 * k).toInt = 6 * k.toInt := by rw [xmulI (by rw [e6]; omega) (by rw [e6]; omega), e6]
  rw [xaddI (by omega) (by omega), a, e45]
theorem ix_k {k : Int32} (h0 : 0 ≤ k.toInt) (h : k.toInt < 24) : 0 ≤ (45 + (6 * k)).toInt ∧ (45 + (6 * k)).toInt ≤ 1000 := by
  rw [at_v h0 h]; omega
theorem ix_j {k j : Int32} {J : Int} (hj : j.toInt = J) (h0 : 0 ≤ k.toInt) (h : k.toInt < 24) (hJ : 0 ≤ J ∧ J ≤ 10) : 0 ≤ ((45 + (6 * k)) + j).toInt ∧ ((45 + (6 * k)) + j).toInt ≤ 1000 := by
  have a := at_v h0 h
  rw [xaddI (by omega) (by omega), a]; omega
theorem at_b {k : Int32} (h0 : 0 ≤ k.toInt) (h : k.toInt < 24) : 0 ≤ ((45 + (6 * k)) + 1).toInt ∧ ((45 + (6 * k)) + 1).toInt ≤ 300 := by
  have a := at_v h0 h
  have e := xI1
  rw [xaddI (by omega) (by omega), a]; omega
theorem ne_w {x a b : Int32} (h : x = a) (hn : ¬ a = b) : ¬ x = b := fun q => hn (h.symm.trans q)
theorem sa_b {y : Int32} (h : 0 ≤ y.toInt ∧ y.toInt < 2500000) : 1 ≤ (1 + y).toInt ∧ (1 + y).toInt ≤ 50000000 := by
  have e := xI1
  rw [xaddI (by omega) (by omega), e]; omega
-- a departure
theorem dp_away {o : Int32 × Int32 × Int32} (h : JJ B Tm L lc lr rc rl rm rd ro sf vT vG vM vO vN vD vA tm k1 k2 k3 k4 k5 qi qt qc qp) (e : f_X9_depart vD rc rl rm rd = o) (a : ¬ rm = 0) : o = (-5, rl, rm) := by
  subst e
  have h1 := h.2.2.1.2.2.1
  have a2 : ¬ rm ≤ 0 := fun q => a (tj (by have := xle.mp q; rw [xI0] at this ⊢; omega))
  rw [f_X9_depart, f_X4_isOnTheWay, if_neg a2, if_pos rfl]
theorem rm_0 (a : rm = 0) : ¬ f_X4_isOnTheWay rm = true := by
  rw [a, f_X4_isOnTheWay, if_pos (Int32.le_refl _)]; decide
theorem dp_door {o : Int32 × Int32 × Int32} (e : f_X9_depart vD rc rl rm rd = o) (a : rm = 0) (hd : vD = true) : o = (-5, rl, rm) := by
  subst e
  rw [f_X9_depart, if_neg (rm_0 a), if_pos hd]
theorem nx_w {x y : Int32} (h : JJ B Tm L lc lr rc rl rm rd ro sf vT vG vM vO vN vD vA tm k1 k2 k3 k4 k5 qi qt qc qp) (hx : x.toInt = rl.toInt + 1) (hy : rc = y) : rl + 1 = x ∧ (f_X4_hasNextLeg rc rl = true ↔ ¬ y ≤ x) := by
  have hw := h.2.2.1
  have e1 := xI1
  have h12 := hw.1.2
  have h2 := hw.2.1
  have h3 := hw.1.1
  have e : rl + 1 = x := tj (by rw [xaddI (by omega) (by omega)]; omega)
  refine ⟨e, ?_⟩
  have em : (rc - 1).toInt = rc.toInt - 1 := m1_i hw.1
  rw [f_X4_hasNextLeg, f_X4_hasLeg, e, within_iff, xI0, em, xnle, ← hy]
  omega
theorem dp_none {o : Int32 × Int32 × Int32} {x y : Int32} (h : JJ B Tm L lc lr rc rl rm rd ro sf vT vG vM vO vN vD vA tm k1 k2 k3 k4 k5 qi qt qc qp) (hx : x.toInt = rl.toInt + 1) (hy : rc = y) (e : f_X9_depart vD rc rl rm rd = o) (a : rm = 0) (hd : ¬ vD = true) (c : y ≤ x) : o = (-5, rl, rm) := by
  subst e
  have hn : ¬ f_X4_hasNextLeg rc rl = true := fun q => (nx_w h hx hy).2.mp q c
  rw [f_X9_depart, if_neg (rm_0 a), if_neg hd, if_neg hn]
theorem dp_w {x y : Int32} (h : JJ B Tm L lc lr rc rl rm rd ro sf vT vG vM vO vN vD vA tm k1 k2 k3 k4 k5 qi qt qc qp) (hx : x.toInt = rl.toInt + 1) (hy : rc = y) (c : ¬ y ≤ x) : f_X9_within x 0 (rc - 1) = true := by
  have h1 := (nx_w h hx hy).2.mpr c
  rw [f_X4_hasNextLeg, f_X4_hasLeg, (nx_w h hx hy).1] at h1
  exact h1
theorem dp_ok {o : Int32 × Int32 × Int32} {x y : Int32} (h : JJ B Tm L lc lr rc rl rm rd ro sf vT vG vM vO vN vD vA tm k1 k2 k3 k4 k5 qi qt qc qp) (hx : x.toInt = rl.toInt + 1) (hy : rc = y) (e : f_X9_depart vD rc rl rm rd = o) (a : rm = 0) (hd : ¬ vD = true) (c : ¬ y ≤ x) :
    o.1 = x ∧ (if 0 ≤ o.2.1 then o.2.1 else -1000000006) = x ∧ o.2.2 = rd x.toNatClampNeg ∧ f_X4_outsideNow rc o.2.1 ro = ro x.toNatClampNeg ∧ (x + 1).toInt = o.2.1.toInt + 1 ∧ JJ B Tm L lc lr rc o.2.1 o.2.2 rd ro sf vT vG vM vO vN vD vA tm k1 k2 k3 k4 k5 qi qt qc qp := by
  obtain ⟨n1, n2⟩ := nx_w h hx hy
  have hn := n2.mpr c
  have hw := dp_w h hx hy c
  have hF : f_X9_depart vD rc rl rm rd = (x, x, rd x.toNatClampNeg) := by
    rw [f_X9_depart, if_neg (rm_0 a), if_neg hd, if_pos hn, f_X4_beginNextLeg, if_pos hn, n1]
  rw [hF] at e
  subst e
  have g := within_iff.mp hw
  have e1 := xI1
  obtain ⟨hR, hX, hW, hS, hH, hA⟩ := h
  have em : (rc - 1).toInt = rc.toInt - 1 := m1_i hW.1
  rw [xI0, em] at g
  have hr := hW.2.2.2 x.toNatClampNeg (by show ((x.toInt.toNat : Nat) : Int) < rc.toInt; omega)
  have h12 := hW.1.2
  refine ⟨rfl, if_pos (xle.mpr (by rw [xI0]; exact g.1)), rfl, ?_, by rw [xaddI (by omega) (by omega), e1], hR, hX, ⟨hW.1, ⟨?_, ?_⟩, ⟨?_, ?_⟩, hW.2.2.2⟩, hS, hH, hA⟩
  · show f_X4_outsideNow rc x ro = _
    rw [f_X4_outsideNow, f_X4_hasLeg, if_pos hw]
  · show -1 ≤ x.toInt; omega
  · show x.toInt < rc.toInt; omega
  · show 0 ≤ (rd x.toNatClampNeg).toInt; omega
  · show (rd x.toNatClampNeg).toInt ≤ 600; omega
-- the vent's mode
theorem ve_all {o : Int32 × Int32 × Bool × Int32} {y : Int32} (h : JJ B Tm L lc lr rc rl rm rd ro sf vT vG vM vO vN vD vA tm k1 k2 k3 k4 k5 qi qt qc qp) (hy : 0 ≤ y.toInt ∧ y.toInt < 3) (e : f_X9_vent y vM vO vN = o) :
    o.1 = vM ∧ o.2.1 = y ∧ (y = 0 → o.2.2.1 = vO ∧ o.2.2.2 = vN) ∧ (¬ y = 0 → (bi o.2.2.1) = (y - 1)) ∧ (y = 2 → (bi vO) = 1 → o.2.2.2 = vN) ∧ (y = 2 → ¬ (bi vO) = 1 → o.2.2.2 = 0) ∧ (¬ y = 0 → ¬ y = 2 → o.2.2.2 = 0) ∧ JJ B Tm L lc lr rc rl rm rd ro sf vT vG o.2.1 o.2.2.1 o.2.2.2 vD vA tm k1 k2 k3 k4 k5 qi qt qc qp := by
  have hv := j_vO h
  have e2 : (2 : Int32).toInt = 2 := by decide
  have hw : f_X9_within y 0 2 = true := within_iff.mpr ⟨by rw [xI0]; exact hy.1, by rw [e2]; omega⟩
  obtain ⟨hR, hX, hW, hS, ⟨g1, g2, g3, g4, g5, g6⟩, hA⟩ := h
  have hc : ∀ k : Int32, y.toInt = k.toInt → y = k := fun k q => tj q
  rcases (show y.toInt = 0 ∨ y.toInt = 1 ∨ y.toInt = 2 by omega) with q | q | q
  · have ey := hc 0 (q.trans (by decide))
    subst ey
    have hF : f_X9_vent 0 vM vO vN = (vM, 0, vO, vN) := by
      rw [f_X9_vent, if_pos hw, f_X9_vent_k1, f_X1_setVentMode, f_X1_keepToMode, if_neg (by decide), if_neg (by decide)]
    rw [hF] at e
    subst e
    exact ⟨rfl, rfl, fun _ => ⟨rfl, rfl⟩, fun q => absurd rfl q, fun q => absurd q (by decide), fun q => absurd q (by decide), fun q => absurd rfl q, hR, hX, hW, hS, ⟨g1, g2, Or.inl rfl, g4, g5, g6⟩, hA⟩
  · have ey := hc 1 (q.trans (by decide))
    subst ey
    have hF : f_X9_vent 1 vM vO vN = (vM, 1, false, 0) := by
      rw [f_X9_vent, if_pos hw, f_X9_vent_k1, f_X1_setVentMode, f_X1_keepToMode, if_neg (by decide), if_pos rfl]
      rfl
    rw [hF] at e
    subst e
    have e0 := xI0
    exact ⟨rfl, rfl, fun q => absurd q (by decide), fun _ => (show (bi false) = (1 : Int32) - 1 from by decide), fun q => absurd q (by decide), fun q => absurd q (by decide), fun _ _ => rfl, hR, hX, hW, hS, ⟨g1, g2, Or.inr (Or.inl rfl), fun _ => rfl, ⟨(show (0 : Int) ≤ (0 : Int32).toInt from by decide), by show (0 : Int32).toInt ≤ tm.toInt; omega⟩, g6⟩, hA⟩
  · have ey := hc 2 (q.trans (by decide))
    subst ey
    have hF : f_X9_vent 2 vM vO vN = (vM, 2, true, vN) := by
      rw [f_X9_vent, if_pos hw, f_X9_vent_k1, f_X1_setVentMode, f_X1_keepToMode, if_pos rfl]
      rfl
    rw [hF] at e
    subst e
    exact ⟨rfl, rfl, fun q => absurd q (by decide), fun _ => (show (bi true) = (2 : Int32) - 1 from by decide), fun _ _ => rfl, fun _ q => hv (vD_0 q), fun _ q => absurd rfl q, hR, hX, hW, hS, ⟨g1, g2, Or.inr (Or.inr rfl), (fun q => Bool.noConfusion (show true = false from q)), g5, g6⟩, hA⟩
end LW
