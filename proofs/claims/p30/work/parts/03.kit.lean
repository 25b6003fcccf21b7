abbrev vwCl : List vw_C := [(RX0, TX0, 4), (RX1, TX1, 7), (RX2, TX2, 2), (RX3, TX3, 2), (RX4, TX4, 5), (RX5, TX5, 7), (RX6, TX6, 1), (RX7, TX7, 2), (RX8, TX8, 10), (RX9, TX9, 6), (RX10, TX10, 10)]
/-! rows of our own over the kit: a world X ++ Z (cells, and a pool of boxes or nothing), one bundle a fact -/
def bi (b : Bool) : Int32 := if b then 1 else 0
theorem bi_nar (b : Bool) : narrow .boolean (.int (bi b)) = .int (bi b) := by cases b <;> rfl
theorem bi_fit (b : Bool) : fits .boolean (.int (bi b)) = true := by cases b <;> rfl
abbrev xT (cI cJ cZ cB : ClassId) : List (ClassId × FieldType) := [(cI, .int), (cJ, .long), (cZ, .boolean), (cB, .object RX0)]
def xW (D : va_G) (A : Nat → Prop) (H0 : Heap) (ws : va_W) (H : Heap) (locs : List Loc) : Prop := va_P D vwCl ws H ∧ va_D A ws ∧ va_S A H0 H locs
/-- the words that speak of nest mates, and of clone -/
def gN : List Cond := [.methodLinkNest RX0 26 yX9_quotient "DryIceLane", .methodLinkNest RX1 43 yX9_quotient "DryIceLane", .methodLinkNest RX2 17 yX0_init "DryIceLane", .methodLinkNest RX2 26 yX9_within "DryIceLane", .methodLinkNest RX3 19 yX9_within "DryIceLane", .methodLinkNest RX4 34 yX9_within "DryIceLane", .methodLinkNest RX5 42 yX9_within "DryIceLane", .methodLinkNest RX6 29 yX9_within "DryIceLane", .methodLinkNest RX7 9 yX8_init "DryIceLane", .methodLinkNest RX8 11 yX6_init "DryIceLane", .methodLinkNest RX8 27 yX1_init "DryIceLane", .methodLinkNest RX8 34 yX4_init "DryIceLane", .methodLinkNest RX9 9 yX8_init "DryIceLane", .methodLinkNest RX9 21 yX7_init "DryIceLane", .methodLinkNest RX9 31 yX3_init "DryIceLane", .methodLinkNest RX9 38 yX5_init "DryIceLane", .fieldLinkNest RX6 9 "DryIceLane" "SETTING_FIRST" "[I" "DryIceLane", .fieldLinkNest RX6 33 "DryIceLane" "SETTING_LEAST" "[I" "DryIceLane", .fieldLinkNest RX6 36 "DryIceLane" "SETTING_MOST" "[I" "DryIceLane", .castable "[I" "java/lang/Cloneable"]
def gK (w : Cond) : Prop := (∃ a i x h, w = .methodLinkNest a i x h) ∨ (∃ a i b n d h, w = .fieldLinkNest a i b n d h) ∨ (∃ a b, w = .castable a b)
theorem gN_kind : ∀ w ∈ gN, gK w := by
  have hm : ∀ a i x h, gK (.methodLinkNest a i x h) := fun a i x h => Or.inl ⟨a, i, x, h, rfl⟩
  have hf : ∀ a i b n d h, gK (.fieldLinkNest a i b n d h) := fun a i b n d h => Or.inr (Or.inl ⟨a, i, b, n, d, h, rfl⟩)
  have hc : ∀ a b, gK (.castable a b) := fun a b => Or.inr (Or.inr ⟨a, b, rfl⟩)
  unfold gN
  repeat (first | refine List.forall_mem_cons.mpr ⟨hm _ _ _ _, ?_⟩ | refine List.forall_mem_cons.mpr ⟨hf _ _ _ _ _ _, ?_⟩ | refine List.forall_mem_cons.mpr ⟨hc _ _, ?_⟩)
  exact fun _ h => absurd h List.not_mem_nil
def gF (U : State) : Prop := (∀ w ∈ gN, va_Nw w U) ∧ va_AO RX0 U
theorem gF_warm {s U : State} (hW : s.WarmedH U.vm) (h : gF s) : gF U := by
  refine ⟨fun w hw => ?_, h.2.moved hW.alike⟩
  have h1 := h.1 w hw
  rcases gN_kind w hw with ⟨a, i, x, hh, rfl⟩ | ⟨a, i, b, n, d, hh, rfl⟩ | ⟨a, b, rfl⟩
  · exact h1.warmM hW
  · exact h1.warmF hW
  · exact h1.warmC hW
theorem gF_same {s U : State} (hv : s.vm = U.vm) (h : gF s) : gF U := by
  refine ⟨fun w hw => ?_, h.2.moved (by rw [hv]; exact Vm.Alike.refl U.vm)⟩
  have h1 := h.1 w hw
  rcases gN_kind w hw with ⟨a, i, x, hh, rfl⟩ | ⟨a, i, b, n, d, hh, rfl⟩ | ⟨a, b, rfl⟩
  · exact h1.same rfl hv
  · exact h1.same rfl hv
  · exact h1.same rfl hv
/-- a static table of eleven ints -/
def gT (n : String) (f : Nat → Int32) (A : Nat → Prop) (U : State) (H : Heap) : Prop := ∃ t : Nat, va_Z "DryIceLane" n "[I" (.ref t) A U H ∧ va_T .int t 11 (fun j => .int (f j)) A U H ∧ ∃ cell : Cell, H[t]? = some cell ∧ cell.slots.size = 11 ∧ cell.vm.isStatics = false ∧ U.vm.findClass "[I" = some cell.cls
theorem gT_to {n : String} {f : Nat → Int32} {A B : Nat → Prop} {U V : State} {H H1 : Heap} (h : gT n f A U H) (hvm : U.vm.Alike V.vm) (hq : ∀ a : Nat, a < H.size → ¬ A a → H1[a]? = H[a]?) (hAB : ∀ q, B q → A q) : gT n f B V H1 := by
  obtain ⟨t, hz, ht, cell, h1, h2, h3, h4⟩ := h
  have hA : ¬ A t := by
    obtain ⟨_, _, _, _, _, _, _, h7⟩ := ht
    exact h7
  exact ⟨t, ((hz.kept hq).moved hvm).narrow hAB, ((ht.kept hq).moved hvm).narrow hAB, cell, by rw [hq t (Array.getElem?_eq_some_iff.mp h1).1 hA]; exact h1, h2, h3, by rw [hvm.findClass]; exact h4⟩
def sfirst : Nat → Int32 := fun k => ([100, 10, 100, 5, 300, 5000, 1000, 5, 5000, 20, 5000] : List Int32).getD k 0
def sleast : Nat → Int32 := fun k => ([0, 1, 0, 0, 0, 1, 0, 0, 1, 1, 1] : List Int32).getD k 0
def smost : Nat → Int32 := fun k => ([1000, 100, 500, 100, 900, 50000, 50000, 100, 50000, 200, 100000] : List Int32).getD k 0
def gd (A : Nat → Prop) (U : State) (H : Heap) : Prop := gF U ∧ gT "SETTING_FIRST" sfirst A U H ∧ gT "SETTING_LEAST" sleast A U H ∧ gT "SETTING_MOST" smost A U H
theorem gd_call {A B : Nat → Prop} {s U : State} {H : Heap} {locs : List Loc} (h : gd A s s.heap) (hS : va_S A s.heap H locs) (hW : s.WarmedH U.vm) (hU : U.heap = H) (hAB : ∀ q, B q → A q) : gd B U U.heap := by
  obtain ⟨h1, h2, h3, h4⟩ := h
  rw [hU]
  exact ⟨gF_warm hW h1, gT_to h2 hW.alike hS.2.1 hAB, gT_to h3 hW.alike hS.2.1 hAB, gT_to h4 hW.alike hS.2.1 hAB⟩
theorem gd_same {A : Nat → Prop} {s U : State} (hv : s.vm = U.vm) (hh : s.heap = U.heap) (h : gd A s s.heap) : gd A U U.heap := by
  obtain ⟨h1, h2, h3, h4⟩ := h
  have ha : s.vm.Alike U.vm := by rw [hv]; exact Vm.Alike.refl U.vm
  rw [← hh]
  exact ⟨gF_same hv h1, gT_to h2 ha (fun _ _ _ => rfl) (fun _ q => q), gT_to h3 ha (fun _ _ _ => rfl) (fun _ q => q), gT_to h4 ha (fun _ _ _ => rfl) (fun _ q => q)⟩
/-- a method's start: its arguments, its world, what is known of classes, the tables -/
def xPre (D : va_G) (tys : List (ClassId × FieldType)) (av : List Value) (Wc : va_W) (sz : Nat) : Array Value → State → Prop := va_Pc av (fun U => U.heap.size = sz ∧ va_P D vwCl Wc U.heap ∧ va_K D vwCl tys U ∧ va_D (fun _ => True) Wc ∧ gd (va_A Wc sz) U U.heap)
theorem xPre_blind {D : va_G} {tys : List (ClassId × FieldType)} {av : List Value} {Wc : va_W} {sz : Nat} : FrameBlind (xPre D tys av Wc sz) := by
  intro a U g mk q
  obtain ⟨q0, q1, qP, qK, qD, qG⟩ := q
  exact ⟨q0, q1, qP, va_K.moved (u := U) (U := U.calling g mk a) (Vm.Alike.refl U.vm) qK, qD, gd_same (s := U) (U := U.calling g mk a) rfl rfl qG⟩
/-- a part of a world, as a callee gets it -/
def xSub (D : va_G) (A : Nat → Prop) (Wc : va_W) (H : Heap) : Prop := va_P D vwCl Wc H ∧ va_D A Wc ∧ ∀ q, va_A Wc H.size q → A q
theorem xPre_of {D : va_G} {tys : List (ClassId × FieldType)} {av : List Value} {Wc : va_W} {A : Nat → Prop} {s : State} {H : Heap} {locs : List Loc} (hK : va_K D vwCl tys s) (hG : gd A s s.heap) (hS : va_S A s.heap H locs) (hw : xSub D A Wc H) : ∀ U : State, U.heap = H → s.WarmedH U.vm → xPre D tys av Wc H.size av.toArray U :=
  fun U hU hW => ⟨rfl, by rw [hU], by rw [hU]; exact hw.1, va_K.moved hW.alike hK, hw.2.1.weaken (fun _ _ _ _ => trivial), gd_call hG hS hW hU hw.2.2⟩
theorem xsubQ {D : va_G} {A : Nat → Prop} {X Z cx : va_W} {H0 H : Heap} {locs : List Loc} (hW : xW D A H0 (X ++ Z) H locs) (hA : ∀ q, H0.size ≤ q → A q) (is : List Nat) (hC : is.map (fun i => X[i]?) = cx.map some) (hn : va_nd is = true) : xSub D A cx H := by
  obtain ⟨hP, hD, hS⟩ := hW
  have at' : ∀ (k : Nat) (q : Nat × va_E), cx[k]? = some q → ∃ i, is[k]? = some i ∧ (X ++ Z)[i]? = some q := fun k q hk => by
    obtain ⟨i, h1, h2⟩ := va_in_of is hC hk
    exact ⟨i, h1, by rw [List.getElem?_append_left (List.getElem?_eq_some_iff.mp h2).1]; exact h2⟩
  refine ⟨fun k q hk => ?_, ⟨fun i j p q hi hj e => ?_, fun k q hk => ?_⟩, fun q h => ?_⟩
  · obtain ⟨i, -, h2⟩ := at' k q hk
    exact hP i q h2
  · obtain ⟨a, h1, h2⟩ := at' i p hi
    obtain ⟨b, h3, h4⟩ := at' j q hj
    have hab := hD.1 a b p q h2 h4 e
    subst hab
    exact va_nd_inj is hn i j a h1 h3
  · obtain ⟨i, -, h2⟩ := at' k q hk
    exact hD.2 i q h2
  · rcases h with ⟨k, e, h⟩ | h
    · obtain ⟨i, -, h2⟩ := at' k (q, e) h
      exact hD.2 i (q, e) h2
    · exact hA q (Nat.le_trans hS.1 h)
theorem xsubP {D : va_G} {A : Nat → Prop} {X Z cx : va_W} {H0 H : Heap} {locs : List Loc} (hW : xW D A H0 (X ++ Z) H locs) (hA : ∀ q, H0.size ≤ q → A q) (is : List Nat) (hC : is.map (fun i => X[i]?) = cx.map some) (hn : va_nd is = true) : xSub D A (cx ++ Z) H :=
  ⟨hW.1.part is hC, hW.2.1.part is hn hC, va_freeP hW.2.1 hW.2.2 hA is hC⟩
/-- the same world, its cells in another order, or fewer -/
theorem xW_perm {D : va_G} {A : Nat → Prop} {X Z X' : va_W} {H0 H : Heap} {locs : List Loc} (hW : xW D A H0 (X ++ Z) H locs) (is : List Nat) (hC : is.map (fun i => X[i]?) = X'.map some) (hn : va_nd is = true) : xW D A H0 (X' ++ Z) H locs := ⟨hW.1.part is hC, hW.2.1.part is hn hC, hW.2.2⟩
theorem xW_swap {D : va_G} {A : Nat → Prop} {X Z Y : va_W} {H0 H : Heap} {locs : List Loc} (hP : va_P D vwCl ((X ++ Z) ++ Y) H) (hD : va_D A ((X ++ Z) ++ Y)) (hS : va_S A H0 H locs) : xW D A H0 ((X ++ Y) ++ Z) H locs := ⟨hP.swap, hD.swap, hS⟩
/-- a method's body, out of its contract's start -/
theorem xofW {l : Launch} {y : MethodName} {ws ws' : List Cond} {rm : Room} {D : va_G} {tys : List (ClassId × FieldType)} {av : List Value} {Wc : va_W} {sz : Nat} {Qc : (Nat → Prop) → Array Value → State → Outcome → State → Prop} {fr : (Nat → Prop) → Nat → Prop} {mc ms : Nat} {cc : ByteArray} {maxL : Nat} {ret : Option FieldType} (hy : plainName y.cls = true) (hw : ws = Cond.code y cc maxL ret :: ws') (hn : (lg_sl av).length ≤ maxL)
    (body : ∀ (p : Program) (e : Env) (s : State) (m : MethodId) (below : List Frame) (meth : Method) (c : Code) (A : Nat → Prop), CallFix p m c cc maxL s av.toArray ws y.cls → meth.sig.returnType = ret → meth.locks = false → meth.name = y.name → s.heap.size = sz → va_K D vwCl tys s → xW D A s.heap Wc s.heap [] → (∀ q, s.heap.size ≤ q → A q) → gd A s s.heap → ∀ ls : Array Slot, lv_has ls maxL (lv_args 0 av) → W p l e rm s m av.toArray below meth c s.heap [] 0 0 (MQ below (Qc A) av.toArray s mc ms (fr A)) (F0 m 0 ls [])) : Met l y ws rm (xPre D tys av Wc sz) (Qc (va_A Wc sz)) mc ms (fr (va_A Wc sz)) := by
  refine Met.ofW (cc := cc) (maxL := maxL) (ret := ret) hy hw ?_
  intro p e s m args below meth c s₁ B hml hv
  obtain ⟨rfl, hsz, hP, hK, hD0, hG⟩ := hv
  have hts := atoms_spec (ws := ws) B.pre
  have hl := lv_entry av (n := maxL) hn
  subst hsz
  rw [lg_entry_eq]
  exact body p e s m below meth c _ ⟨B.exec, B.bytes, hml, findClass_of_methodNamed B.named, hts⟩ B.returns B.notSynchronized (name_of_methodNamed B.named B.method).1 rfl hK ⟨hP, hD0.self, va_S.rf⟩ (fun q h => Or.inr h) hG _ hl
section XC
variable {p : Program} {l : Launch} {e : Env} {R : Room} {s : State} {m : MethodId} {args : Array Value} {below : List Frame} {meth : Method} {c : Code} {H : Heap} {locs : List Loc} {cells slots : Nat} {Q : State → Prop}
variable {y : MethodName} {bytes cc : ByteArray} {maxL nL mc ms n index : Nat} {ret : Option FieldType} {ws : List Cond} {rm : Room} {Qc : Array Value → State → Outcome → State → Prop} {free : Addr → Prop} {Ts : List Cond} {own C host : String} {b : Addr} {As rest st0 : List Value} {pc : Nat} {ls : Array Slot} {D : va_G} {tys : List (ClassId × FieldType)} {A : Nat → Prop} {Wc X Z cx wr : va_W}
theorem xrunV (S : CallFix p m c cc nL s args Ts own) (hM : Met l y ws rm (xPre D tys (.ref b :: As) Wc H.size) Qc mc ms free) (cw : CallW R s args own C index y bytes maxL ret ws rm mc ms n) (hK : va_K D vwCl tys s) (hG : gd A s s.heap) (hS : va_S A s.heap H locs) (hw : xSub D A Wc H) (hv : ∃ cell : Cell, H[b]? = some cell ∧ cell.vm.isStatics = false ∧ s.vm.findClass C = some cell.cls)
    (hn : As.length = n) (hl : ls.size = nL) (hst : st0 = As.reverse ++ .ref b :: rest) (h8 : (rest.map fun v => v.category).sum ≤ 8) (hdg : decode cc pc = .ok (.invokevirtual index, 3)) (hf : cells + mc ≤ R.cells ∧ slots + ms ≤ R.slots) :
    va_Run p l e R s m args below meth c H locs cells slots mc ms (F0 m pc ls st0) rest (Qc (Value.ref b :: As).toArray) free :=
  va_runV S hM cw ⟨xPre_blind, hv, xPre_of hK hG hS hw⟩ rfl hn hl hst (lv_room h8) hdg hf
theorem xrunS (S : CallFix p m c cc nL s args Ts own) (hM : Met l y ws rm (xPre D tys As Wc H.size) Qc mc ms free) (cw : CallB R s args own index y bytes maxL ret ws rm mc ms n ∧ (Cond.static y).before args s = true) (hK : va_K D vwCl tys s) (hG : gd A s s.heap) (hS : va_S A s.heap H locs) (hw : xSub D A Wc H)
    (hn : As.length = n) (hl : ls.size = nL) (hst : st0 = As.reverse ++ rest) (h8 : (rest.map fun v => v.category).sum ≤ 8) (hdg : decode cc pc = .ok (.invokestatic index, 3)) (hf : cells + mc ≤ R.cells ∧ slots + ms ≤ R.slots) :
    va_Run p l e R s m args below meth c H locs cells slots mc ms (F0 m pc ls st0) rest (Qc As.toArray) free :=
  va_runS S hM cw ⟨xPre_blind, xPre_of hK hG hS hw⟩ rfl hn hl hst (lv_room h8) hdg hf
theorem xrunSN (S : CallFix p m c cc nL s args Ts own) (hM : Met l y ws rm (xPre D tys As Wc H.size) Qc mc ms free) (cw : va_CN R s args own index y host bytes maxL ret ws rm mc ms n ∧ (Cond.static y).before args s = true ∧ True) (hK : va_K D vwCl tys s) (hG : gd A s s.heap) (hS : va_S A s.heap H locs) (hw : xSub D A Wc H)
    (hn : As.length = n) (hl : ls.size = nL) (hst : st0 = As.reverse ++ rest) (h8 : (rest.map fun v => v.category).sum ≤ 8) (hdg : decode cc pc = .ok (.invokestatic index, 3)) (hf : cells + mc ≤ R.cells ∧ slots + ms ≤ R.slots) :
    va_Run p l e R s m args below meth c H locs cells slots mc ms (F0 m pc ls st0) rest (Qc As.toArray) free :=
  va_runSN S hM cw ⟨xPre_blind, xPre_of hK hG hS hw⟩ rfl hn hl hst (lv_room h8) hdg hf
theorem xrunIN (S : CallFix p m c cc nL s args Ts own) (hM : Met l y ws rm (xPre D tys (.ref b :: As) Wc H.size) Qc mc ms free) (cw : va_CN R s args own index y host bytes maxL none ws rm mc ms n ∧ y.name = "<init>" ∧ (Cond.instanceMethod y).before args s = true) (hK : va_K D vwCl tys s) (hG : gd A s s.heap) (hS : va_S A s.heap H locs) (hw : xSub D A Wc H)
    (hn : As.length = n) (hl : ls.size = nL) (hst : st0 = As.reverse ++ .ref b :: rest) (h8 : (rest.map fun v => v.category).sum ≤ 8) (hdg : decode cc pc = .ok (.invokespecial index, 3)) (hf : cells + mc ≤ R.cells ∧ slots + ms ≤ R.slots) :
    va_Run p l e R s m args below meth c H locs cells slots mc ms (F0 m pc ls st0) rest (Qc (Value.ref b :: As).toArray) free :=
  va_runIN S hM cw ⟨xPre_blind, xPre_of hK hG hS hw⟩ rfl hn hl hst (lv_room h8) hdg hf
theorem xrunI (S : CallFix p m c cc nL s args Ts own) (hM : Met l y ws rm (xPre D tys (.ref b :: As) Wc H.size) Qc mc ms free) (cw : CallB R s args own index y bytes maxL none ws rm mc ms n ∧ y.name = "<init>" ∧ (Cond.instanceMethod y).before args s = true) (hK : va_K D vwCl tys s) (hG : gd A s s.heap) (hS : va_S A s.heap H locs) (hw : xSub D A Wc H)
    (hn : As.length = n) (hl : ls.size = nL) (hst : st0 = As.reverse ++ .ref b :: rest) (h8 : (rest.map fun v => v.category).sum ≤ 8) (hdg : decode cc pc = .ok (.invokespecial index, 3)) (hf : cells + mc ≤ R.cells ∧ slots + ms ≤ R.slots) :
    va_Run p l e R s m args below meth c H locs cells slots mc ms (F0 m pc ls st0) rest (Qc (Value.ref b :: As).toArray) free :=
  va_runI S hM cw ⟨xPre_blind, xPre_of hK hG hS hw⟩ rfl hn hl hst (lv_room h8) hdg hf
/-- behind a call that changes its part of the world -/
def xB (D : va_G) (W' : va_W) (A : Nat → Prop) (t : State) : Prop := va_P D vwCl W' t.heap ∧ va_D A W'
variable {a : Array Value}
theorem xQv {S : Type} {post : S → Prop} {rx : S → va_W} (hW : xW D A s.heap (X ++ Z) H locs) (hA : ∀ q, s.heap.size ≤ q → A q) (isC isR : List Nat) (hC : isC.map (fun i => X[i]?) = cx.map some) (hR : isR.map (fun i => X[i]?) = wr.map some) (hnC : va_nd isC = true) (hnR : va_nd isR = true) (hdis : ∀ i ∈ isR, i ∉ isC)
    (hr : va_Run p l e R s m args below meth c H locs cells slots mc ms (F0 m pc ls st0) rest (va_Qv post (fun u t => xB D (rx u) (va_A cx H.size) t) (va_A cx H.size) a) (va_A cx H.size))
    (kk : ∀ (u : S) (H1 : Heap) (locs1 : List Loc), post u → xW D A s.heap ((wr ++ rx u) ++ Z) H1 locs1 → W p l e R s m args below meth c H1 locs1 (cells + mc) (slots + ms) Q (F0 m (pc + 3) ls rest)) : W p l e R s m args below meth c H locs cells slots Q (F0 m pc ls st0) := by
  have hF := (xsubQ hW hA isC hC hnC).2.2
  refine va_callv hr hW.2.2 (fun q _ h => hF q h) hF (fun u t H1 locs1 ht hvm hq hB hz hk hS => ?_)
  obtain ⟨hP, hD⟩ := va_joinQ hW.1 hW.2.1 isC isR hC hR hnR hdis hk hF (by rw [← ht]; exact hB.1) hB.2
  exact kk u H1 locs1 hq ⟨hP, hD, hS⟩
theorem xQi {S : Type} {post : Int32 → S → Prop} {rx : S → va_W} (hW : xW D A s.heap (X ++ Z) H locs) (hA : ∀ q, s.heap.size ≤ q → A q) (isC isR : List Nat) (hC : isC.map (fun i => X[i]?) = cx.map some) (hR : isR.map (fun i => X[i]?) = wr.map some) (hnC : va_nd isC = true) (hnR : va_nd isR = true) (hdis : ∀ i ∈ isR, i ∉ isC)
    (hr : va_Run p l e R s m args below meth c H locs cells slots mc ms (F0 m pc ls st0) rest (va_Qi post (fun u t => xB D (rx u) (va_A cx H.size) t) (va_A cx H.size) a) (va_A cx H.size))
    (kk : ∀ (r : Int32) (u : S) (H1 : Heap) (locs1 : List Loc), post r u → xW D A s.heap ((wr ++ rx u) ++ Z) H1 locs1 → W p l e R s m args below meth c H1 locs1 (cells + mc) (slots + ms) Q (F0 m (pc + 3) ls (.int r :: rest))) : W p l e R s m args below meth c H locs cells slots Q (F0 m pc ls st0) := by
  have hF := (xsubQ hW hA isC hC hnC).2.2
  refine va_calli hr hW.2.2 (fun q _ h => hF q h) hF (fun r u t H1 locs1 ht hvm hq hB hz hk hS => ?_)
  obtain ⟨hP, hD⟩ := va_joinQ hW.1 hW.2.1 isC isR hC hR hnR hdis hk hF (by rw [← ht]; exact hB.1) hB.2
  exact kk r u H1 locs1 hq ⟨hP, hD, hS⟩
theorem xQl {S : Type} {post : Int64 → S → Prop} {rx : S → va_W} (hW : xW D A s.heap (X ++ Z) H locs) (hA : ∀ q, s.heap.size ≤ q → A q) (isC isR : List Nat) (hC : isC.map (fun i => X[i]?) = cx.map some) (hR : isR.map (fun i => X[i]?) = wr.map some) (hnC : va_nd isC = true) (hnR : va_nd isR = true) (hdis : ∀ i ∈ isR, i ∉ isC)
    (hr : va_Run p l e R s m args below meth c H locs cells slots mc ms (F0 m pc ls st0) rest (va_Ql post (fun u t => xB D (rx u) (va_A cx H.size) t) (va_A cx H.size) a) (va_A cx H.size))
    (kk : ∀ (r : Int64) (u : S) (H1 : Heap) (locs1 : List Loc), post r u → xW D A s.heap ((wr ++ rx u) ++ Z) H1 locs1 → W p l e R s m args below meth c H1 locs1 (cells + mc) (slots + ms) Q (F0 m (pc + 3) ls (.long r :: rest))) : W p l e R s m args below meth c H locs cells slots Q (F0 m pc ls st0) := by
  have hF := (xsubQ hW hA isC hC hnC).2.2
  refine va_calll hr hW.2.2 (fun q _ h => hF q h) hF (fun r u t H1 locs1 ht hvm hq hB hz hk hS => ?_)
  obtain ⟨hP, hD⟩ := va_joinQ hW.1 hW.2.1 isC isR hC hR hnR hdis hk hF (by rw [← ht]; exact hB.1) hB.2
  exact kk r u H1 locs1 hq ⟨hP, hD, hS⟩
theorem xPv {S : Type} {post : S → Prop} {rx pl1 : S → va_W} (hW : xW D A s.heap (X ++ Z) H locs) (hA : ∀ q, s.heap.size ≤ q → A q) (isC isR : List Nat) (hC : isC.map (fun i => X[i]?) = cx.map some) (hR : isR.map (fun i => X[i]?) = wr.map some) (hnC : va_nd isC = true) (hnR : va_nd isR = true) (hdis : ∀ i ∈ isR, i ∉ isC)
    (hr : va_Run p l e R s m args below meth c H locs cells slots mc ms (F0 m pc ls st0) rest (va_Qv post (fun u t => xB D (rx u ++ pl1 u) (va_A (cx ++ Z) H.size) t) (va_A (cx ++ Z) H.size) a) (va_A (cx ++ Z) H.size))
    (kk : ∀ (u : S) (H1 : Heap) (locs1 : List Loc), post u → xW D A s.heap ((wr ++ rx u) ++ pl1 u) H1 locs1 → W p l e R s m args below meth c H1 locs1 (cells + mc) (slots + ms) Q (F0 m (pc + 3) ls rest)) : W p l e R s m args below meth c H locs cells slots Q (F0 m pc ls st0) := by
  have hF := (xsubP hW hA isC hC hnC).2.2
  refine va_callv hr hW.2.2 (fun q _ h => hF q h) hF (fun u t H1 locs1 ht hvm hq hB hz hk hS => ?_)
  obtain ⟨hP, hD⟩ := va_joinP hW.1 hW.2.1 isC isR hC hR hnR hdis hk hF (by rw [← ht]; exact hB.1) hB.2
  exact kk u H1 locs1 hq ⟨hP, hD, hS⟩
theorem xPi {S : Type} {post : Int32 → S → Prop} {rx pl1 : S → va_W} (hW : xW D A s.heap (X ++ Z) H locs) (hA : ∀ q, s.heap.size ≤ q → A q) (isC isR : List Nat) (hC : isC.map (fun i => X[i]?) = cx.map some) (hR : isR.map (fun i => X[i]?) = wr.map some) (hnC : va_nd isC = true) (hnR : va_nd isR = true) (hdis : ∀ i ∈ isR, i ∉ isC)
    (hr : va_Run p l e R s m args below meth c H locs cells slots mc ms (F0 m pc ls st0) rest (va_Qi post (fun u t => xB D (rx u ++ pl1 u) (va_A (cx ++ Z) H.size) t) (va_A (cx ++ Z) H.size) a) (va_A (cx ++ Z) H.size))
    (kk : ∀ (r : Int32) (u : S) (H1 : Heap) (locs1 : List Loc), post r u → xW D A s.heap ((wr ++ rx u) ++ pl1 u) H1 locs1 → W p l e R s m args below meth c H1 locs1 (cells + mc) (slots + ms) Q (F0 m (pc + 3) ls (.int r :: rest))) : W p l e R s m args below meth c H locs cells slots Q (F0 m pc ls st0) := by
  have hF := (xsubP hW hA isC hC hnC).2.2
  refine va_calli hr hW.2.2 (fun q _ h => hF q h) hF (fun r u t H1 locs1 ht hvm hq hB hz hk hS => ?_)
  obtain ⟨hP, hD⟩ := va_joinP hW.1 hW.2.1 isC isR hC hR hnR hdis hk hF (by rw [← ht]; exact hB.1) hB.2
  exact kk r u H1 locs1 hq ⟨hP, hD, hS⟩
/-- branches over longs and truth values -/
theorem xlc_lt (hexec : p.tables.exec = Jvm.exec) (hb : c.code = cc) {x y : Int64} {off : Int} {tgt : Nat} (d1 : decode cc pc = .ok (.lcmp, 1)) (d2 : decode cc (pc + 1) = .ok (.ifCond .lt off, 3)) (ht : ((pc + 1 : Nat) : Int) + off = (tgt : Int))
    (kt : x < y → W p l e R s m args below meth c H locs cells slots Q (F0 m tgt ls rest)) (kf : ¬ x < y → W p l e R s m args below meth c H locs cells slots Q (F0 m (pc + 4) ls rest)) : W p l e R s m args below meth c H locs cells slots Q (F0 m pc ls (.long y :: .long x :: rest)) :=
  W.lcmp hexec hb d1 (lv_if_lt hexec hb d2 ht (fun h => kt ((lg_cmp_lt x y).mp h)) (fun h => kf (fun q => h ((lg_cmp_lt x y).mpr q))))
theorem xlc_ge (hexec : p.tables.exec = Jvm.exec) (hb : c.code = cc) {x y : Int64} {off : Int} {tgt : Nat} (d1 : decode cc pc = .ok (.lcmp, 1)) (d2 : decode cc (pc + 1) = .ok (.ifCond .ge off, 3)) (ht : ((pc + 1 : Nat) : Int) + off = (tgt : Int))
    (kt : y ≤ x → W p l e R s m args below meth c H locs cells slots Q (F0 m tgt ls rest)) (kf : ¬ y ≤ x → W p l e R s m args below meth c H locs cells slots Q (F0 m (pc + 4) ls rest)) : W p l e R s m args below meth c H locs cells slots Q (F0 m pc ls (.long y :: .long x :: rest)) :=
  W.lcmp hexec hb d1 (lv_if_ge hexec hb d2 ht (fun h => kt ((lg_cmp_ge x y).mp h)) (fun h => kf (fun q => h ((lg_cmp_ge x y).mpr q))))
theorem xlc_gt (hexec : p.tables.exec = Jvm.exec) (hb : c.code = cc) {x y : Int64} {off : Int} {tgt : Nat} (d1 : decode cc pc = .ok (.lcmp, 1)) (d2 : decode cc (pc + 1) = .ok (.ifCond .gt off, 3)) (ht : ((pc + 1 : Nat) : Int) + off = (tgt : Int))
    (kt : y < x → W p l e R s m args below meth c H locs cells slots Q (F0 m tgt ls rest)) (kf : ¬ y < x → W p l e R s m args below meth c H locs cells slots Q (F0 m (pc + 4) ls rest)) : W p l e R s m args below meth c H locs cells slots Q (F0 m pc ls (.long y :: .long x :: rest)) :=
  W.lcmp hexec hb d1 (lv_if_gt hexec hb d2 ht (fun h => kt ((lg_cmp_gt x y).mp h)) (fun h => kf (fun q => h ((lg_cmp_gt x y).mpr q))))
theorem xlc_le (hexec : p.tables.exec = Jvm.exec) (hb : c.code = cc) {x y : Int64} {off : Int} {tgt : Nat} (d1 : decode cc pc = .ok (.lcmp, 1)) (d2 : decode cc (pc + 1) = .ok (.ifCond .le off, 3)) (ht : ((pc + 1 : Nat) : Int) + off = (tgt : Int))
    (kt : x ≤ y → W p l e R s m args below meth c H locs cells slots Q (F0 m tgt ls rest)) (kf : ¬ x ≤ y → W p l e R s m args below meth c H locs cells slots Q (F0 m (pc + 4) ls rest)) : W p l e R s m args below meth c H locs cells slots Q (F0 m pc ls (.long y :: .long x :: rest)) :=
  W.lcmp hexec hb d1 (lv_if_le hexec hb d2 ht (fun h => kt ((lg_cmp_le x y).mp h)) (fun h => kf (fun q => h ((lg_cmp_le x y).mpr q))))
theorem xlc_eq (hexec : p.tables.exec = Jvm.exec) (hb : c.code = cc) {x y : Int64} {off : Int} {tgt : Nat} (d1 : decode cc pc = .ok (.lcmp, 1)) (d2 : decode cc (pc + 1) = .ok (.ifCond .eq off, 3)) (ht : ((pc + 1 : Nat) : Int) + off = (tgt : Int))
    (kt : x = y → W p l e R s m args below meth c H locs cells slots Q (F0 m tgt ls rest)) (kf : ¬ x = y → W p l e R s m args below meth c H locs cells slots Q (F0 m (pc + 4) ls rest)) : W p l e R s m args below meth c H locs cells slots Q (F0 m pc ls (.long y :: .long x :: rest)) :=
  W.lcmp hexec hb d1 (lv_if_eq hexec hb d2 ht (fun h => kt ((lg_cmp_eq x y).mp h)) (fun h => kf (fun q => h ((lg_cmp_eq x y).mpr q))))
theorem xlc_ne (hexec : p.tables.exec = Jvm.exec) (hb : c.code = cc) {x y : Int64} {off : Int} {tgt : Nat} (d1 : decode cc pc = .ok (.lcmp, 1)) (d2 : decode cc (pc + 1) = .ok (.ifCond .ne off, 3)) (ht : ((pc + 1 : Nat) : Int) + off = (tgt : Int))
    (kt : ¬ x = y → W p l e R s m args below meth c H locs cells slots Q (F0 m tgt ls rest)) (kf : x = y → W p l e R s m args below meth c H locs cells slots Q (F0 m (pc + 4) ls rest)) : W p l e R s m args below meth c H locs cells slots Q (F0 m pc ls (.long y :: .long x :: rest)) :=
  W.lcmp hexec hb d1 (lv_if_ne hexec hb d2 ht (fun h => kt (fun q => h ((lg_cmp_eq x y).mpr q))) (fun h => kf ((lg_cmp_eq x y).mp h)))
theorem xb_eq (hexec : p.tables.exec = Jvm.exec) (hb : c.code = cc) {x : Bool} {off : Int} {tgt : Nat} (hdg : decode cc pc = .ok (.ifCond .eq off, 3)) (ht : (pc : Int) + off = (tgt : Int))
    (kt : ¬ x = true → W p l e R s m args below meth c H locs cells slots Q (F0 m tgt ls rest)) (kf : x = true → W p l e R s m args below meth c H locs cells slots Q (F0 m (pc + 3) ls rest)) : W p l e R s m args below meth c H locs cells slots Q (F0 m pc ls (.int (bi x) :: rest)) :=
  lv_if_eq hexec hb hdg ht (fun h => kt (fun q => by subst q; exact absurd h (by decide))) (fun h => kf (by cases x; exact absurd rfl h; rfl))
theorem xb_ne (hexec : p.tables.exec = Jvm.exec) (hb : c.code = cc) {x : Bool} {off : Int} {tgt : Nat} (hdg : decode cc pc = .ok (.ifCond .ne off, 3)) (ht : (pc : Int) + off = (tgt : Int))
    (kt : x = true → W p l e R s m args below meth c H locs cells slots Q (F0 m tgt ls rest)) (kf : ¬ x = true → W p l e R s m args below meth c H locs cells slots Q (F0 m (pc + 3) ls rest)) : W p l e R s m args below meth c H locs cells slots Q (F0 m pc ls (.int (bi x) :: rest)) :=
  lv_if_ne hexec hb hdg ht (fun h => kt (by cases x; exact absurd rfl h; rfl)) (fun h => kf (fun q => by subst q; exact absurd h (by decide)))
/-- loads with the place's number given -/
theorem xiald (hexec : p.tables.exec = Jvm.exec) (hb : c.code = cc) (hK : va_K D vwCl tys s) (hP : va_P D vwCl Wc H) (q0 t0 : Nat) {cA : ClassId} {N : Nat} {f : Nat → Int32} {ar : Nat} (ha : Wc[q0]? = some (ar, .inl (cA, N, .inl f))) (ht : tys[t0]? = some (cA, .int)) {i : Int32} (hin : vp_in i N) (k : Nat) (hk : i.toNatClampNeg = k) {v : Int32} (hv : f k = v) (hdg : decode cc pc = .ok (.iaload, 1))
    (kk : W p l e R s m args below meth c H locs cells slots Q (F0 m (pc + 1) ls (.int v :: rest))) : W p l e R s m args below meth c H locs cells slots Q (F0 m pc ls (.int i :: .ref ar :: rest)) := by
  subst hk; subst hv; exact va_iald hexec hb hK hP q0 t0 ha ht hin hdg kk
theorem xlald (hexec : p.tables.exec = Jvm.exec) (hb : c.code = cc) (hK : va_K D vwCl tys s) (hP : va_P D vwCl Wc H) (q0 t0 : Nat) {cA : ClassId} {N : Nat} {f : Nat → Int64} {ar : Nat} (ha : Wc[q0]? = some (ar, .inl (cA, N, .inr (.inl f)))) (ht : tys[t0]? = some (cA, .long)) {i : Int32} (hin : vp_in i N) (k : Nat) (hk : i.toNatClampNeg = k) {v : Int64} (hv : f k = v) (hdg : decode cc pc = .ok (.laload, 1))
    (kk : W p l e R s m args below meth c H locs cells slots Q (F0 m (pc + 1) ls (.long v :: rest))) : W p l e R s m args below meth c H locs cells slots Q (F0 m pc ls (.int i :: .ref ar :: rest)) := by
  subst hk; subst hv; exact va_lald hexec hb hK hP q0 t0 ha ht hin hdg kk
theorem xzald (hexec : p.tables.exec = Jvm.exec) (hb : c.code = cc) (hK : va_K D vwCl tys s) (hP : va_P D vwCl Wc H) (q0 t0 : Nat) {cA : ClassId} {N : Nat} {f : Nat → Int32} {ar : Nat} (ha : Wc[q0]? = some (ar, .inl (cA, N, .inl f))) (ht : tys[t0]? = some (cA, .boolean)) {i : Int32} (hin : vp_in i N) (k : Nat) (hk : i.toNatClampNeg = k) {v : Int32} (hv : f k = v) (hdg : decode cc pc = .ok (.baload, 1))
    (kk : W p l e R s m args below meth c H locs cells slots Q (F0 m (pc + 1) ls (.int v :: rest))) : W p l e R s m args below meth c H locs cells slots Q (F0 m pc ls (.int i :: .ref ar :: rest)) := by
  subst hk; subst hv; exact va_zald hexec hb hK hP q0 t0 ha ht hin hdg kk
theorem xzast (hexec : p.tables.exec = Jvm.exec) (hb : c.code = cc) (hK : va_K D vwCl tys s) (hW : xW D A s.heap (X ++ Z) H locs) (q0 t0 : Nat) {cA : ClassId} {N : Nat} {f : Nat → Int32} {ar : Nat} (ha : (X ++ Z)[q0]? = some (ar, .inl (cA, N, .inl f))) (hq : q0 < X.length) (ht : tys[t0]? = some (cA, .boolean)) {i x : Int32} (hx : vp_nar .boolean x = x) (hin : vp_in i N) (k : Nat) (hk : i.toNatClampNeg = k) (hdg : decode cc pc = .ok (.bastore, 1))
    (kk : ∀ (H1 : Heap) (locs1 : List Loc), xW D A s.heap (X.set q0 (ar, .inl (cA, N, .inl (upd f k x))) ++ Z) H1 locs1 → W p l e R s m args below meth c H1 locs1 cells slots Q (F0 m (pc + 1) ls rest)) : W p l e R s m args below meth c H locs cells slots Q (F0 m pc ls (.int x :: .int i :: .ref ar :: rest)) := by
  subst hk
  refine va_zast hexec hb hK hW.1 hW.2.1 hW.2.2 q0 t0 ha ht hin hdg (fun H1 locs1 hP hD hS => kk H1 locs1 ?_)
  rw [hx] at hP hD
  rw [List.set_append_left _ _ hq] at hP hD
  exact ⟨hP, hD, hS⟩
theorem xiast (hexec : p.tables.exec = Jvm.exec) (hb : c.code = cc) (hK : va_K D vwCl tys s) (hW : xW D A s.heap (X ++ Z) H locs) (q0 t0 : Nat) {cA : ClassId} {N : Nat} {f : Nat → Int32} {ar : Nat} (ha : (X ++ Z)[q0]? = some (ar, .inl (cA, N, .inl f))) (hq : q0 < X.length) (ht : tys[t0]? = some (cA, .int)) {i x : Int32} (hin : vp_in i N) (k : Nat) (hk : i.toNatClampNeg = k) (hdg : decode cc pc = .ok (.iastore, 1))
    (kk : ∀ (H1 : Heap) (locs1 : List Loc), xW D A s.heap (X.set q0 (ar, .inl (cA, N, .inl (upd f k x))) ++ Z) H1 locs1 → W p l e R s m args below meth c H1 locs1 cells slots Q (F0 m (pc + 1) ls rest)) : W p l e R s m args below meth c H locs cells slots Q (F0 m pc ls (.int x :: .int i :: .ref ar :: rest)) := by
  subst hk
  refine va_iast hexec hb hK hW.1 hW.2.1 hW.2.2 q0 t0 ha ht hin hdg (fun H1 locs1 hP hD hS => kk H1 locs1 ?_)
  rw [List.set_append_left _ _ hq] at hP hD
  exact ⟨hP, hD, hS⟩
theorem xlast (hexec : p.tables.exec = Jvm.exec) (hb : c.code = cc) (hK : va_K D vwCl tys s) (hW : xW D A s.heap (X ++ Z) H locs) (q0 t0 : Nat) {cA : ClassId} {N : Nat} {f : Nat → Int64} {ar : Nat} (ha : (X ++ Z)[q0]? = some (ar, .inl (cA, N, .inr (.inl f)))) (hq : q0 < X.length) (ht : tys[t0]? = some (cA, .long)) {i : Int32} {x : Int64} (hin : vp_in i N) (k : Nat) (hk : i.toNatClampNeg = k) (hdg : decode cc pc = .ok (.lastore, 1))
    (kk : ∀ (H1 : Heap) (locs1 : List Loc), xW D A s.heap (X.set q0 (ar, .inl (cA, N, .inr (.inl (vp_updL f k x)))) ++ Z) H1 locs1 → W p l e R s m args below meth c H1 locs1 cells slots Q (F0 m (pc + 1) ls rest)) : W p l e R s m args below meth c H locs cells slots Q (F0 m pc ls (.long x :: .int i :: .ref ar :: rest)) := by
  subst hk
  refine va_last hexec hb hK hW.1 hW.2.1 hW.2.2 q0 t0 ha ht hin hdg (fun H1 locs1 hP hD hS => kk H1 locs1 ?_)
  rw [List.set_append_left _ _ hq] at hP hD
  exact ⟨hP, hD, hS⟩
/-- fields of the cells of X -/
theorem xget (hexec : p.tables.exec = Jvm.exec) (hb : c.code = cc) {own C : String} {T : u_T} {N ci index : Nat} {Ts : List Cond} (hts : ∀ w ∈ Ts, w.before args s = true) (hin : ∀ w ∈ u_ws C T N, w ∈ Ts) (hown : s.vm.findClass own = some m.cls) (hK : va_K D vwCl tys s) (hP : va_P D vwCl Wc H) (q0 : Nat) {ar : Nat} {fs : List Value} (he : Wc[q0]? = some (ar, .inr (ci, fs))) (hc : vwCl[ci]? = some (C, T, N)) (k : Nat) (hk : k < N) (hlink : (Cond.fieldLink own index (T k).1 (T k).2.1 (T k).2.2.1).before args s = true) {v : Value} (hv : fs[k]? = some v) (hdg : decode cc pc = .ok (.getfield index, 3))
    (kk : W p l e R s m args below meth c H locs cells slots Q (F0 m (pc + 3) ls (v :: rest))) : W p l e R s m args below meth c H locs cells slots Q (F0 m pc ls (.ref ar :: rest)) :=
  va_get hexec hb hts hin hown hK hP q0 he hc k hk hlink (fun _ h => h) hv hdg kk
theorem xput (hexec : p.tables.exec = Jvm.exec) (hb : c.code = cc) {own C : String} {T : u_T} {N ci index : Nat} {Ts : List Cond} (hts : ∀ w ∈ Ts, w.before args s = true) (hin : ∀ w ∈ u_ws C T N, w ∈ Ts) (ty0 : Nat → FieldType) (hty : ∀ k, k < N → parseFieldDescriptor (T k).2.2.1 = some (ty0 k)) (hnm : ∀ a, a < N → ∀ b, b < N → a ≠ b → (T a).2.1 ≠ (T b).2.1) (hown : s.vm.findClass own = some m.cls) (hK : va_K D vwCl tys s) (hW : xW D A s.heap (X ++ Z) H locs) (q0 : Nat) {ar : Nat} {fs : List Value} (he : (X ++ Z)[q0]? = some (ar, .inr (ci, fs))) (hq : q0 < X.length) (hc : vwCl[ci]? = some (C, T, N)) (k : Nat) (hk : k < N) (hlink : (Cond.fieldLink own index (T k).1 (T k).2.1 (T k).2.2.1).before args s = true) (hfin : (T k).2.2.2 = false) {ty : FieldType} {v : Value} (hd : parseFieldDescriptor (T k).2.2.1 = some ty) (hn : narrow ty v = v) (hfit : fits ty v = true) (hl : k < fs.length) (hdg : decode cc pc = .ok (.putfield index, 3))
    (kk : ∀ (H1 : Heap) (locs1 : List Loc), xW D A s.heap (X.set q0 (ar, .inr (ci, fs.set k v)) ++ Z) H1 locs1 → W p l e R s m args below meth c H1 locs1 cells slots Q (F0 m (pc + 3) ls rest)) : W p l e R s m args below meth c H locs cells slots Q (F0 m pc ls (v :: .ref ar :: rest)) := by
  refine va_put hexec hb hts hin ty0 hty hnm hown hK hW.1 hW.2.1 hW.2.2 q0 he hc k hk hlink (fun _ h => h) hfin hd hn hfit hl hdg (fun H1 locs1 hP hD hS => kk H1 locs1 ?_)
  rw [List.set_append_left _ _ hq] at hP hD
  exact ⟨hP, hD, hS⟩
theorem xputF (hexec : p.tables.exec = Jvm.exec) (hb : c.code = cc) {own C : String} {T : u_T} {N ci index : Nat} {Ts : List Cond} (hts : ∀ w ∈ Ts, w.before args s = true) (hin : ∀ w ∈ u_ws C T N, w ∈ Ts) (ty0 : Nat → FieldType) (hty : ∀ k, k < N → parseFieldDescriptor (T k).2.2.1 = some (ty0 k)) (hnm : ∀ a, a < N → ∀ b, b < N → a ≠ b → (T a).2.1 ≠ (T b).2.1) (hown : s.vm.findClass own = some m.cls) (hK : va_K D vwCl tys s) (hW : xW D A s.heap (X ++ Z) H locs) (q0 : Nat) {ar : Nat} {fs : List Value} (he : (X ++ Z)[q0]? = some (ar, .inr (ci, fs))) (hq : q0 < X.length) (hc : vwCl[ci]? = some (C, T, N)) (k : Nat) (hk : k < N) (hlink : (Cond.fieldLink own index (T k).1 (T k).2.1 (T k).2.2.1).before args s = true) (hfin : (T k).2.2.2 = true) (hin2 : meth.name = "<init>") (hdecl : (T k).1 = own) {ty : FieldType} {v : Value} (hd : parseFieldDescriptor (T k).2.2.1 = some ty) (hn : narrow ty v = v) (hfit : fits ty v = true) (hl : k < fs.length) (hdg : decode cc pc = .ok (.putfield index, 3))
    (kk : ∀ (H1 : Heap) (locs1 : List Loc), xW D A s.heap (X.set q0 (ar, .inr (ci, fs.set k v)) ++ Z) H1 locs1 → W p l e R s m args below meth c H1 locs1 cells slots Q (F0 m (pc + 3) ls rest)) : W p l e R s m args below meth c H locs cells slots Q (F0 m pc ls (v :: .ref ar :: rest)) := by
  refine va_putF hexec hb hts hin ty0 hty hnm hown hK hW.1 hW.2.1 hW.2.2 q0 he hc k hk hlink (fun _ h => h) hfin hin2 hdecl hd hn hfit hl hdg (fun H1 locs1 hP hD hS => kk H1 locs1 ?_)
  rw [List.set_append_left _ _ hq] at hP hD
  exact ⟨hP, hD, hS⟩
end XC
