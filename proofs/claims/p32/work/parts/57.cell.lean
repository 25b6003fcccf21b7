/-! the law's cell, and calls that hand on the script -/
def cellf (L : Nat) (xs : Nat → Int32) (k n : Int32) : Int32 :=
  if Int32.ofNat L = 0 then (k * 37 + 5) - (k * 37 + 5) / n * n else ((xs (k - k / Int32.ofNat L * Int32.ofNat L).toNatClampNeg) >>> ((k - k / 7 * 7) &&& 31) &&& 4194303) - ((xs (k - k / Int32.ofNat L * Int32.ofNat L).toNatClampNeg) >>> ((k - k / 7 * 7) &&& 31) &&& 4194303) / n * n
/-- what is left over is less than what divides -/
theorem rem_b {x n : Int32} (h0 : 0 ≤ x.toInt) (hn : 1 ≤ n.toInt) : 0 ≤ (x - x / n * n).toInt ∧ (x - x / n * n).toInt < n.toInt := by
  have h1 := xdivI (x := x) hn
  have hr := xrng x
  have e : x.toInt.tdiv n.toInt = x.toInt / n.toInt := Int.tdiv_eq_ediv_of_nonneg h0
  rw [e] at h1
  have h2 : x.toInt / n.toInt * n.toInt ≤ x.toInt := Int.ediv_mul_le _ (by omega)
  have h3 : x.toInt < (x.toInt / n.toInt + 1) * n.toInt := Int.lt_ediv_add_one_mul_self _ (by omega)
  have h4 : 0 ≤ x.toInt / n.toInt := Int.ediv_nonneg h0 (by omega)
  have h5 : 0 ≤ x.toInt / n.toInt * n.toInt := Int.mul_nonneg h4 (by omega)
  have h6 : (x / n * n).toInt = x.toInt / n.toInt * n.toInt := by rw [xmulI (by rw [h1]; omega) (by rw [h1]; omega), h1]
  have h7 : (x.toInt / n.toInt + 1) * n.toInt = x.toInt / n.toInt * n.toInt + n.toInt := by rw [Int.add_mul]; omega
  rw [xsubI (by omega) (by omega), h6]
  omega
theorem and_b {x : Int32} : 0 ≤ (x &&& 4194303).toInt := by
  have h1 : (x &&& 4194303).toInt = ((x.toBitVec &&& (4194303#32))).toInt := rfl
  have h2 : ((x.toBitVec &&& (4194303#32))).toNat ≤ 4194303 := by
    rw [BitVec.toNat_and]
    exact Nat.le_trans Nat.and_le_right (by decide)
  rw [h1, BitVec.toInt_eq_toNat_of_lt (by omega)]
  omega
theorem cell_b {L : Nat} {xs : Nat → Int32} {k n y : Int32} {N : Int} (hk : 0 ≤ k.toInt ∧ k.toInt ≤ 1000) (hn : n.toInt = N) (h1 : 1 ≤ N) (e : cellf L xs k n = y) : 0 ≤ y.toInt ∧ y.toInt < N := by
  have e37 : (37 : Int32).toInt = 37 := by decide
  have e5 : (5 : Int32).toInt = 5 := by decide
  have a1 : (k * 37).toInt = k.toInt * 37 := by rw [xmulI (by rw [e37]; omega) (by rw [e37]; omega), e37]
  have a2 : (k * 37 + 5).toInt = k.toInt * 37 + 5 := by rw [xaddI (by omega) (by omega), a1, e5]
  rw [← e, ← hn]
  unfold cellf
  by_cases c : Int32.ofNat L = 0
  · rw [if_pos c]; exact rem_b (by omega) (by omega)
  · rw [if_neg c]; exact rem_b and_b (by omega)
theorem ck_a {a j : Int32} {J : Int} (h : 0 ≤ a.toInt ∧ a.toInt ≤ 300) (hj : j.toInt = J) (h1 : 0 ≤ J ∧ J ≤ 10) : 0 ≤ (a + j).toInt ∧ (a + j).toInt ≤ 1000 := by
  rw [xaddI (by omega) (by omega)]; omega
theorem ck_0 {a : Int32} (h : 0 ≤ a.toInt ∧ a.toInt ≤ 300) : 0 ≤ a.toInt ∧ a.toInt ≤ 1000 := by omega
theorem ck_1 {a : Int32} (h : 0 ≤ a.toInt ∧ a.toInt ≤ 300) : 0 ≤ (a + 1).toInt ∧ (a + 1).toInt ≤ 1000 := ck_a (J := 1) h (by decide) (by decide)
theorem ck_2 {a : Int32} (h : 0 ≤ a.toInt ∧ a.toInt ≤ 300) : 0 ≤ (a + 2).toInt ∧ (a + 2).toInt ≤ 1000 := ck_a (J := 2) h (by decide) (by decide)
theorem ck_3 {a : Int32} (h : 0 ≤ a.toInt ∧ a.toInt ≤ 300) : 0 ≤ (a + 3).toInt ∧ (a + 3).toInt ≤ 1000 := ck_a (J := 3) h (by decide) (by decide)
theorem i_b {y : Int32} (h : 0 ≤ y.toInt ∧ y.toInt < 20) : 1 ≤ (1 + y).toInt ∧ (1 + y).toInt ≤ 100 := by
  have e := xI1
  rw [xaddI (by omega) (by omega), e]; omega
theorem a_b {y : Int32} (h : 0 ≤ y.toInt ∧ y.toInt < 300000) : 1 ≤ (1 + y).toInt ∧ (1 + y).toInt ≤ 20000000 := by
  have e := xI1
  rw [xaddI (by omega) (by omega), e]; omega
theorem p_b {y : Int32} (h : 0 ≤ y.toInt ∧ y.toInt < 2000000) : 0 ≤ y.toInt ∧ y.toInt ≤ 3000000 := by omega
theorem sh_lt {a b : Int32} (h : ¬ a = b) (hle : b ≤ a) : b.toInt < a.toInt := by
  have h1 := xle.mp hle
  have h2 : a.toInt ≠ b.toInt := fun q => h (tj q)
  omega
theorem k_0 {k : Int64} : k = k + (0 : Int32).toInt64 := by
  have e : (0 : Int32).toInt64 = 0 := by decide
  rw [e, Int64.add_zero]
/-- the contract of cell: the script's row stands outside the world -/
def pcX (b L : Nat) (xs : Nat → Int32) (av : List Value) : Array Value → State → Prop := va_Pc av (fun U => va_X b L xs U U.heap)
theorem pcX_blind {b L : Nat} {xs : Nat → Int32} {av : List Value} : FrameBlind (pcX b L xs av) := by
  intro a U g mk q
  obtain ⟨q0, q1⟩ := q
  exact ⟨q0, va_X.moved (u := U) (U := U.calling g mk a) (Vm.Alike.refl U.vm) q1⟩
theorem ofN_i {L : Nat} (h : L ≤ 260) : (Int32.ofNat L).toInt = L := Int32.toInt_ofNat_of_lt (by omega)
theorem cell_in {L : Nat} {k : Int32} (hL : L ≤ 260) (hk : 0 ≤ k.toInt ∧ k.toInt ≤ 1000) (h : ¬ Int32.ofNat L = 0) : vp_in (k - k / Int32.ofNat L * Int32.ofNat L) L := by
  have e := ofN_i hL
  have h1 : 1 ≤ (Int32.ofNat L).toInt := by
    rw [e]
    by_cases q : L = 0
    · subst q; exact absurd rfl h
    · omega
  have h2 := rem_b hk.1 h1
  exact vp_in_iff.mpr ⟨h2.1, by rw [e] at h2; exact h2.2⟩
set_option maxHeartbeats 4000000 in
set_option maxRecDepth 100000 in
theorem cell_walk {p : Program} {l : Launch} {e : Env} {s : State} {m : MethodId} {below : List Frame} {meth : Method} {c : Code} {b L : Nat} {xs : Nat → Int32} {k n : Int32} {args : Array Value} {ls : Array Slot} (hL : L ≤ 260) (hk : 0 ≤ k.toInt ∧ k.toInt ≤ 1000) (hn : 1 ≤ n.toInt) (hx : p.tables.exec = Jvm.exec) (hb : c.code = cL_cell) (hown : s.vm.findClass RL = some m.cls) (hts : ∀ w ∈ wsL_cell, w.before args s = true) (hrt : meth.sig.returnType = (some .int)) (hlocks : meth.locks = false) (hX : va_X b L xs s s.heap) (hl : lv_has ls 3 [(0, .ref b), (1, .int k), (2, .int n)]) : W p l e ({ frames := 1, cells := 0, slots := 0, locals := 40 } : Room) s m args below meth c s.heap [] 0 0 (MQ below (vp_Si (fun r => r = cellf L xs k n)) args s 0 0 (fun _ => False)) (F0 m 0 ls []) := by
  have hbl : b < s.heap.size := by
    obtain ⟨scr, h1, -⟩ := hX
    exact (Array.getElem?_eq_some_iff.mp h1).1
  have hbA : ¬ (fun q => s.heap.size ≤ q) b := Nat.not_le.mpr hbl
  have hS : va_S (fun q => s.heap.size ≤ q) s.heap s.heap [] := va_S.rf
  have w1 := hts (.constant RL 7 (4194303)) (by decide +kernel)
  have hn0 : ¬ n = 0 := fun q => by rw [q, xI0] at hn; omega
  refine lv_aload_n hx hb dL_cell_0 rfl (lv_at hl 0 rfl) ?_
  refine va_slen hx hb hX hbl hbA hS dL_cell_1 ?_
  refine lv_if_ne (tgt := 14) hx hb dL_cell_2 (by decide) (fun c1 => ?_) (fun c1 => ?_)
  · refine lv_aload_n hx hb dL_cell_14 rfl (lv_at hl 0 rfl) ?_
    refine lv_iload_n hx hb dL_cell_15 rfl (lv_at hl 1 rfl) ?_
    refine lv_aload_n hx hb dL_cell_16 rfl (lv_at hl 0 rfl) ?_
    refine va_slen hx hb hX hbl hbA hS dL_cell_17 ?_
    refine lv_irem hx hb dL_cell_18 c1 ?_
    refine va_sld hx hb hX hbl hbA hS (cell_in hL hk c1) dL_cell_19 ?_
    refine lv_iload_n hx hb dL_cell_20 rfl (lv_at hl 1 rfl) ?_
    refine lv_bipush (v := 7) hx hb dL_cell_21 (by decide) ?_
    refine lv_irem hx hb dL_cell_23 (by decide) ?_
    refine lv_ishr hx hb dL_cell_24 ?_
    refine lv_ldc hx hb hown w1 dL_cell_25 ?_
    refine lv_iand hx hb dL_cell_27 ?_
    refine lv_iload_n hx hb dL_cell_28 rfl (lv_at hl 2 rfl) ?_
    refine lv_irem hx hb dL_cell_29 hn0 ?_
    exact W.iret hx hb hrt (fun t ht hM => ⟨_, rfl, by rw [cellf, if_neg c1], ht⟩) (fun q h => by cases h) dL_cell_30 hlocks
  · refine lv_iload_n hx hb dL_cell_5 rfl (lv_at hl 1 rfl) ?_
    refine lv_bipush (v := 37) hx hb dL_cell_6 (by decide) ?_
    refine lv_imul hx hb dL_cell_8 ?_
    refine lv_iconst (v := 5) hx hb dL_cell_9 (by decide) ?_
    refine lv_iadd hx hb dL_cell_10 ?_
    refine lv_goto (tgt := 28) hx hb dL_cell_11 (by decide) ?_
    refine lv_iload_n hx hb dL_cell_28 rfl (lv_at hl 2 rfl) ?_
    refine lv_irem hx hb dL_cell_29 hn0 ?_
    exact W.iret hx hb hrt (fun t ht hM => ⟨_, rfl, by rw [cellf, if_pos c1], ht⟩) (fun q h => by cases h) dL_cell_30 hlocks
theorem c_L_cell (l : Launch) (b L : Nat) (xs : Nat → Int32) (hL : L ≤ 260) (k n : Int32) (hk : 0 ≤ k.toInt ∧ k.toInt ≤ 1000) (hn : 1 ≤ n.toInt) : Met l yL_cell wsL_cell ({ frames := 1, cells := 0, slots := 0, locals := 40 } : Room) (pcX b L xs [.ref b, .int k, .int n]) (vp_Si (fun r => r = cellf L xs k n)) 0 0 (fun _ => False) := by
  refine Met.ofW (cc := cL_cell) (maxL := 3) (ret := (some .int)) (by decide) rfl ?_
  intro p e s m args below meth c s₁ B hml hv
  obtain ⟨rfl, hX⟩ := hv
  have hl := lv_entry [Value.ref b, .int k, .int n] (n := 3) (Nat.le_of_ble_eq_true rfl)
  rw [lg_entry_eq]
  exact cell_walk hL hk hn B.exec B.bytes (findClass_of_methodNamed B.named) (atoms_spec (ws := wsL_cell) B.pre) B.returns B.notSynchronized hX hl
/-- a method that gets the script beside its world -/
def xPreX (D : va_G) (tys : List (ClassId × FieldType)) (av : List Value) (Wc : va_W) (sz b L : Nat) (xs : Nat → Int32) : Array Value → State → Prop := va_Pc av (fun U => (U.heap.size = sz ∧ va_P D vwCl Wc U.heap ∧ va_K D vwCl tys U ∧ va_D (fun _ => True) Wc ∧ gd (va_A Wc sz) U U.heap) ∧ va_X b L xs U U.heap ∧ ¬ va_A Wc sz b)
theorem xPreX_blind {D : va_G} {tys : List (ClassId × FieldType)} {av : List Value} {Wc : va_W} {sz b L : Nat} {xs : Nat → Int32} : FrameBlind (xPreX D tys av Wc sz b L xs) := by
  intro a U g mk q
  obtain ⟨q0, ⟨q1, qP, qK, qD, qG⟩, qX, qb⟩ := q
  exact ⟨q0, ⟨q1, qP, va_K.moved (u := U) (U := U.calling g mk a) (Vm.Alike.refl U.vm) qK, qD, gd_same (s := U) (U := U.calling g mk a) rfl rfl qG⟩, va_X.moved (u := U) (U := U.calling g mk a) (Vm.Alike.refl U.vm) qX, qb⟩
theorem xPreX_of {D : va_G} {tys : List (ClassId × FieldType)} {av : List Value} {Wc : va_W} {A : Nat → Prop} {s : State} {H : Heap} {locs : List Loc} {b L : Nat} {xs : Nat → Int32} (hK : va_K D vwCl tys s) (hG : gd A s s.heap) (hS : va_S A s.heap H locs) (hw : xSub D A Wc H) (hX : va_X b L xs s s.heap) (hbl : b < s.heap.size) (hbA : ¬ A b) : ∀ U : State, U.heap = H → s.WarmedH U.vm → xPreX D tys av Wc H.size b L xs av.toArray U :=
  fun U hU hW => ⟨rfl, ⟨by rw [hU], by rw [hU]; exact hw.1, va_K.moved hW.alike hK, hw.2.1.weaken (fun _ _ _ _ => trivial), gd_call hG hS hW hU hw.2.2⟩, by rw [hU]; exact (va_X.moved hW.alike hX).kept (hS.2.1 b hbl hbA), fun q => hbA (hw.2.2 b q)⟩
theorem xofWX {l : Launch} {y : MethodName} {ws ws' : List Cond} {rm : Room} {D : va_G} {tys : List (ClassId × FieldType)} {av : List Value} {Wc : va_W} {sz b L : Nat} {xs : Nat → Int32} {Qc : (Nat → Prop) → Array Value → State → Outcome → State → Prop} {fr : (Nat → Prop) → Nat → Prop} {mc ms : Nat} {cc : ByteArray} {maxL : Nat} {ret : Option FieldType} (hy : plainName y.cls = true) (hw : ws = Cond.code y cc maxL ret :: ws') (hn : (lg_sl av).length ≤ maxL)
    (body : ∀ (p : Program) (e : Env) (s : State) (m : MethodId) (below : List Frame) (meth : Method) (c : Code) (A : Nat → Prop), CallFix p m c cc maxL s av.toArray ws y.cls → meth.sig.returnType = ret → meth.locks = false → meth.name = y.name → s.heap.size = sz → va_K D vwCl tys s → xW D A s.heap Wc s.heap [] → (∀ q, s.heap.size ≤ q → A q) → gd A s s.heap → va_X b L xs s s.heap → b < s.heap.size → ¬ A b → ∀ ls : Array Slot, lv_has ls maxL (lv_args 0 av) → W p l e rm s m av.toArray below meth c s.heap [] 0 0 (MQ below (Qc A) av.toArray s mc ms (fr A)) (F0 m 0 ls [])) : Met l y ws rm (xPreX D tys av Wc sz b L xs) (Qc (va_A Wc sz)) mc ms (fr (va_A Wc sz)) := by
  refine Met.ofW (cc := cc) (maxL := maxL) (ret := ret) hy hw ?_
  intro p e s m args below meth c s₁ B hml hv
  obtain ⟨rfl, ⟨hsz, hP, hK, hD0, hG⟩, hX, hbA⟩ := hv
  have hts := atoms_spec (ws := ws) B.pre
  have hl := lv_entry av (n := maxL) hn
  subst hsz
  rw [lg_entry_eq]
  have hbl : b < s.heap.size := by
    obtain ⟨scr, h1, -⟩ := hX
    exact (Array.getElem?_eq_some_iff.mp h1).1
  exact body p e s m below meth c _ ⟨B.exec, B.bytes, hml, findClass_of_methodNamed B.named, hts⟩ B.returns B.notSynchronized (name_of_methodNamed B.named B.method).1 rfl hK ⟨hP, hD0.self, va_S.rf⟩ (fun q h => Or.inr h) hG hX hbl hbA _ hl
section XCC
variable {p : Program} {l : Launch} {e : Env} {R : Room} {s : State} {m : MethodId} {args : Array Value} {below : List Frame} {meth : Method} {c : Code} {H : Heap} {locs : List Loc} {cells slots : Nat} {Q : State → Prop}
variable {y : MethodName} {bytes cc : ByteArray} {maxL nL mc ms nA index b L : Nat} {xs : Nat → Int32} {ret : Option FieldType} {ws : List Cond} {rm : Room} {Qc : Array Value → State → Outcome → State → Prop} {free : Addr → Prop} {Ts : List Cond} {own : String} {As rest st0 : List Value} {pc : Nat} {ls : Array Slot} {D : va_G} {tys : List (ClassId × FieldType)} {A : Nat → Prop} {Wc : va_W}
theorem xrunSX (S : CallFix p m c cc nL s args Ts own) (hM : Met l y ws rm (xPreX D tys As Wc H.size b L xs) Qc mc ms free) (cw : CallB R s args own index y bytes maxL ret ws rm mc ms nA ∧ (Cond.static y).before args s = true) (hK : va_K D vwCl tys s) (hG : gd A s s.heap) (hS : va_S A s.heap H locs) (hw : xSub D A Wc H) (hX : va_X b L xs s s.heap) (hbl : b < s.heap.size) (hbA : ¬ A b)
    (hn : As.length = nA) (hl : ls.size = nL) (hst : st0 = As.reverse ++ rest) (h8 : (rest.map fun v => v.category).sum ≤ 8) (hdg : decode cc pc = .ok (.invokestatic index, 3)) (hf : cells + mc ≤ R.cells ∧ slots + ms ≤ R.slots) :
    va_Run p l e R s m args below meth c H locs cells slots mc ms (F0 m pc ls st0) rest (Qc As.toArray) free :=
  va_runS S hM cw ⟨xPreX_blind, xPreX_of hK hG hS hw hX hbl hbA⟩ rfl hn hl hst (lv_room h8) hdg hf
theorem xcell {k n : Int32} (S : CallFix p m c cc nL s args Ts own) (cw : CallB R s args own index yL_cell cL_cell 3 (some .int) wsL_cell ({ frames := 1, cells := 0, slots := 0, locals := 40 } : Room) 0 0 3 ∧ (Cond.static yL_cell).before args s = true) (hX : va_X b L xs s s.heap) (hbl : b < s.heap.size) (hbA : ¬ A b) (hL : L ≤ 260) (hS : va_S A s.heap H locs) (hk : 0 ≤ k.toInt ∧ k.toInt ≤ 1000) (hn : 1 ≤ n.toInt) (hl : ls.size = nL) (h8 : (rest.map fun v => v.category).sum ≤ 8) (hdg : decode cc pc = .ok (.invokestatic index, 3)) (hf : cells ≤ R.cells ∧ slots ≤ R.slots)
    (kk : W p l e R s m args below meth c H locs cells slots Q (F0 m (pc + 3) ls (.int (cellf L xs k n) :: rest))) : W p l e R s m args below meth c H locs cells slots Q (F0 m pc ls (.int n :: .int k :: .ref b :: rest)) := by
  refine vp_callSi (va_Run.run (va_runS (As := [.ref b, .int k, .int n]) (rest := rest) S (c_L_cell l b L xs hL k n hk hn) cw ⟨pcX_blind, fun U hU hW => ⟨rfl, by show va_X b L xs U U.heap; rw [hU]; exact (va_X.moved hW.alike hX).kept (hS.2.1 b hbl hbA)⟩⟩ rfl rfl hl rfl (lv_room h8) hdg hf)) (fun r hq => ?_)
  rw [hq]
  exact kk
end XCC
