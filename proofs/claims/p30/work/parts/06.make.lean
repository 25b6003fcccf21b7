/-! what is made: objects, rows of numbers, boxes of the pool, a copy of a static table -/
abbrev z0 : Nat → Int32 := fun _ => 0
section XM
variable {p : Program} {l : Launch} {e : Env} {R : Room} {s : State} {m : MethodId} {args : Array Value} {below : List Frame} {meth : Method} {c : Code} {H : Heap} {locs : List Loc} {cells slots : Nat} {Q : State → Prop}
variable {cc : ByteArray} {index : Nat} {Ts : List Cond} {own : String} {rest : List Value} {pc : Nat} {ls : Array Slot} {D : va_G} {cI cJ cZ cB : ClassId} {A : Nat → Prop} {X Z : va_W} {L : List Nat}
theorem xnew (hexec : p.tables.exec = Jvm.exec) (hb : c.code = cc) {C : String} {T : u_T} {N ci : Nat} (hts : ∀ w ∈ Ts, w.before args s = true) (hin : ∀ w ∈ u_ws C T N, w ∈ Ts) (ty : Nat → FieldType) (hty : ∀ k, k < N → parseFieldDescriptor (T k).2.2.1 = some (ty k)) (hown : s.vm.findClass own = some m.cls) (hcl : (Cond.classLink own index C).before args s = true) (hinst : (Cond.instantiable C N).before args s = true) (hini : (Cond.initialized C).before args s = true)
    (hK : va_K D vwCl (xT cI cJ cZ cB) s) (hW : xW D A s.heap (X ++ Z) H locs) (hA : ∀ q, s.heap.size ≤ q → A q) (hc : vwCl[ci]? = some (C, T, N)) {fs : List Value} (hfs : ∀ j, j < N → defaultValue (ty j) = vp_V fs j) (hcells : cells + 1 ≤ R.cells) (hslots : slots + N ≤ R.slots) (hdg : decode cc pc = .ok (.new index, 3))
    (kk : ∀ (q : Nat) (H1 : Heap), xW D A s.heap ((X ++ [(q, .inr (ci, fs))]) ++ Z) H1 locs → W p l e R s m args below meth c H1 locs (cells + 1) (slots + N) Q (F0 m (pc + 3) ls (.ref q :: rest))) : W p l e R s m args below meth c H locs cells slots Q (F0 m pc ls rest) :=
  va_new hexec hb hts hin ty hty hown hcl hinst hini hK hW.1 hW.2.1 hW.2.2 hA hc hfs hcells hslots hdg (fun q H1 hP hD hS => kk q H1 (xW_swap hP hD hS))
theorem bxa_new (a b : Nat) : va_up (bxF z0 z0 z0 z0) a (.inr (0, [.int 0, .int 0, .int 0, .int 0])) b = bxF z0 z0 z0 z0 b := by
  by_cases hb : b = a
  · subst hb; simp [bxF, va_up]
  · simp [bxF, va_up, hb]
theorem xnewbox (hexec : p.tables.exec = Jvm.exec) (hb : c.code = cc) (hts : ∀ w ∈ Ts, w.before args s = true) (hin : ∀ w ∈ u_ws RX0 TX0 4, w ∈ Ts) (hown : s.vm.findClass own = some m.cls) (hcl : (Cond.classLink own index RX0).before args s = true) (hinst : (Cond.instantiable RX0 4).before args s = true) (hini : (Cond.initialized RX0).before args s = true)
    (hK : va_K D vwCl (xT cI cJ cZ cB) s) (hW : xW D A s.heap (X ++ bxP L z0 z0 z0 z0) H locs) (hA : ∀ q, s.heap.size ≤ q → A q) (hcells : cells + 1 ≤ R.cells) (hslots : slots + 4 ≤ R.slots) (hdg : decode cc pc = .ok (.new index, 3))
    (kk : ∀ (q : Nat) (H1 : Heap), xW D A s.heap (X ++ bxP (L ++ [q]) z0 z0 z0 z0) H1 locs → W p l e R s m args below meth c H1 locs (cells + 1) (slots + 4) Q (F0 m (pc + 3) ls (.ref q :: rest))) : W p l e R s m args below meth c H locs cells slots Q (F0 m pc ls rest) := by
  refine va_new (ci := 0) (fs := [.int 0, .int 0, .int 0, .int 0]) (C := RX0) (T := TX0) (N := 4) hexec hb hts hin tyX0 tyX0_ok hown hcl hinst hini hK hW.1 hW.2.1 hW.2.2 hA rfl (fun j hj => by rcases (show j = 0 ∨ j = 1 ∨ j = 2 ∨ j = 3 by omega) with rfl | rfl | rfl | rfl <;> rfl) hcells hslots hdg (fun q H1 hP hD hS => kk q H1 ?_)
  have hq : q ∉ L := va_pl_fresh2 hD
  have he : (X ++ bxP L z0 z0 z0 z0) ++ [(q, Sum.inr (0, [Value.int 0, Value.int 0, Value.int 0, Value.int 0]))] = X ++ bxP (L ++ [q]) z0 z0 z0 z0 := by
    rw [List.append_assoc]
    unfold bxP
    rw [va_pl_push hq]
    exact congrArg (fun l => X ++ l) (va_pl_congr (bxa_new q))
  exact ⟨he ▸ hP, he ▸ hD, hS⟩
theorem xnewI (hexec : p.tables.exec = Jvm.exec) (hb : c.code = cc) (harr : (Cond.arrayClass .int).before args s = true) (hK : va_K D vwCl (xT cI cJ cZ cB) s) (hW : xW D A s.heap (X ++ Z) H locs) (hA : ∀ q, s.heap.size ≤ q → A q)
    {n : Int32} {N : Nat} (hn : ¬ n < 0) (hN : n.toNatClampNeg = N) (hbytes : N * componentBytes .int ≤ 536870912) (hcells : cells + 1 ≤ R.cells) (hslots : slots + N ≤ R.slots) (hdg : decode cc pc = .ok (.newarray .int, 2))
    (kk : ∀ (q : Nat) (H1 : Heap), xW D A s.heap ((X ++ [(q, .inl (cI, N, .inl (fun _ => 0)))]) ++ Z) H1 locs → W p l e R s m args below meth c H1 locs (cells + 1) (slots + N) Q (F0 m (pc + 2) ls (.ref q :: rest))) : W p l e R s m args below meth c H locs cells slots Q (F0 m pc ls (.int n :: rest)) := by
  refine va_newa (atype := .int) (ty := .int) (a0 := (N, .inl (fun _ => 0))) hexec hb harr rfl hK hW.1 hW.2.1 hW.2.2 hA (fun _ => rfl) hn hN hbytes hcells hslots hdg (fun q cA H1 hK' hP hD hS => ?_)
  have e : cA = cI := Option.some.inj ((hK'.2 4 (cA, .int) rfl).2.symm.trans (hK'.2 0 (cI, .int) rfl).2)
  subst e
  exact kk q H1 (xW_swap hP hD hS)
theorem xnewJ (hexec : p.tables.exec = Jvm.exec) (hb : c.code = cc) (harr : (Cond.arrayClass .long).before args s = true) (hK : va_K D vwCl (xT cI cJ cZ cB) s) (hW : xW D A s.heap (X ++ Z) H locs) (hA : ∀ q, s.heap.size ≤ q → A q)
    {n : Int32} {N : Nat} (hn : ¬ n < 0) (hN : n.toNatClampNeg = N) (hbytes : N * componentBytes .long ≤ 536870912) (hcells : cells + 1 ≤ R.cells) (hslots : slots + N ≤ R.slots) (hdg : decode cc pc = .ok (.newarray .long, 2))
    (kk : ∀ (q : Nat) (H1 : Heap), xW D A s.heap ((X ++ [(q, .inl (cJ, N, .inr (.inl (fun _ => 0))))]) ++ Z) H1 locs → W p l e R s m args below meth c H1 locs (cells + 1) (slots + N) Q (F0 m (pc + 2) ls (.ref q :: rest))) : W p l e R s m args below meth c H locs cells slots Q (F0 m pc ls (.int n :: rest)) := by
  refine va_newa (atype := .long) (ty := .long) (a0 := (N, .inr (.inl (fun _ => 0)))) hexec hb harr rfl hK hW.1 hW.2.1 hW.2.2 hA (fun _ => rfl) hn hN hbytes hcells hslots hdg (fun q cA H1 hK' hP hD hS => ?_)
  have e : cA = cJ := Option.some.inj ((hK'.2 4 (cA, .long) rfl).2.symm.trans (hK'.2 1 (cJ, .long) rfl).2)
  subst e
  exact kk q H1 (xW_swap hP hD hS)
theorem xnewZ (hexec : p.tables.exec = Jvm.exec) (hb : c.code = cc) (harr : (Cond.arrayClass .boolean).before args s = true) (hK : va_K D vwCl (xT cI cJ cZ cB) s) (hW : xW D A s.heap (X ++ Z) H locs) (hA : ∀ q, s.heap.size ≤ q → A q)
    {n : Int32} {N : Nat} (hn : ¬ n < 0) (hN : n.toNatClampNeg = N) (hbytes : N * componentBytes .boolean ≤ 536870912) (hcells : cells + 1 ≤ R.cells) (hslots : slots + N ≤ R.slots) (hdg : decode cc pc = .ok (.newarray .boolean, 2))
    (kk : ∀ (q : Nat) (H1 : Heap), xW D A s.heap ((X ++ [(q, .inl (cZ, N, .inl (fun _ => 0)))]) ++ Z) H1 locs → W p l e R s m args below meth c H1 locs (cells + 1) (slots + N) Q (F0 m (pc + 2) ls (.ref q :: rest))) : W p l e R s m args below meth c H locs cells slots Q (F0 m pc ls (.int n :: rest)) := by
  refine va_newa (atype := .boolean) (ty := .boolean) (a0 := (N, .inl (fun _ => 0))) hexec hb harr rfl hK hW.1 hW.2.1 hW.2.2 hA (fun _ => rfl) hn hN hbytes hcells hslots hdg (fun q cA H1 hK' hP hD hS => ?_)
  have e : cA = cZ := Option.some.inj ((hK'.2 4 (cA, .boolean) rfl).2.symm.trans (hK'.2 2 (cZ, .boolean) rfl).2)
  subst e
  exact kk q H1 (xW_swap hP hD hS)
theorem xnewB (hexec : p.tables.exec = Jvm.exec) (hb : c.code = cc) (hown : s.vm.findClass own = some m.cls) (hclink : (Cond.classLink own index RX0).before args s = true) (hover : va_AO RX0 s) (hK : va_K D vwCl (xT cI cJ cZ cB) s) (hW : xW D A s.heap (X ++ Z) H locs) (hA : ∀ q, s.heap.size ≤ q → A q)
    {n : Int32} {N : Nat} (hn : ¬ n < 0) (hN : n.toNatClampNeg = N) (hbytes : N * 4 ≤ 536870912) (hcells : cells + 1 ≤ R.cells) (hslots : slots + N ≤ R.slots) (hdg : decode cc pc = .ok (.anewarray index, 3))
    (kk : ∀ (q : Nat) (H1 : Heap), xW D A s.heap ((X ++ [(q, .inl (cB, N, .inr (.inr (.inr (.inr (fun _ => none))))))]) ++ Z) H1 locs → W p l e R s m args below meth c H1 locs (cells + 1) (slots + N) Q (F0 m (pc + 3) ls (.ref q :: rest))) : W p l e R s m args below meth c H locs cells slots Q (F0 m pc ls (.int n :: rest)) := by
  refine va_newq hexec hb hown hclink hover hK hW.1 hW.2.1 hW.2.2 hA hn hN hbytes hcells hslots hdg (fun q cA H1 hK' hP hD hS => ?_)
  obtain ⟨_, _, _, _, _, h1⟩ := (hK'.2 4 (cA, .object RX0) rfl).2
  obtain ⟨_, _, _, _, _, h2⟩ := (hK'.2 3 (cB, .object RX0) rfl).2
  have e : cA = cB := Option.some.inj (h1.symm.trans h2)
  subst e
  exact kk q H1 (xW_swap hP hD hS)
/-- clone() of a static table of eleven ints -/
theorem xcloneT (hexec : p.tables.exec = Jvm.exec) (hb : c.code = cc) (hml : c.maxLocals = ls.size) (hown : s.vm.findClass own = some m.cls)
    (hlink : (Cond.methodLink own index ⟨"[I", "clone", "()Ljava/lang/Object;"⟩).before args s = true) (hsame : (Cond.sameMethod "[I" "java/lang/Object" "clone" "()Ljava/lang/Object;").before args s = true)
    (hnat : (Cond.native ⟨"java/lang/Object", "clone", "()Ljava/lang/Object;"⟩).before args s = true) (hinst : (Cond.instanceMethod ⟨"java/lang/Object", "clone", "()Ljava/lang/Object;"⟩).before args s = true)
    (hsel : (Cond.selects "[I" ⟨"[I", "clone", "()Ljava/lang/Object;"⟩ ⟨"java/lang/Object", "clone", "()Ljava/lang/Object;"⟩).before args s = true) (hcl : va_Nw (.castable "[I" "java/lang/Cloneable") s)
    (hK : va_K D vwCl (xT cI cJ cZ cB) s) (hW : xW D A s.heap (X ++ Z) H locs) (hA : ∀ q, s.heap.size ≤ q → A q) {t : Nat} {f : Nat → Int32} (hT : va_T .int t 11 (fun j => .int (f j)) A s s.heap) (hC : ∃ cell : Cell, s.heap[t]? = some cell ∧ cell.slots.size = 11 ∧ cell.vm.isStatics = false ∧ s.vm.findClass "[I" = some cell.cls)
    (hframes : 1 ≤ R.frames) (hlocals : (rest.map fun v => v.category).sum + 14 ≤ R.locals) (hcells : cells + 1 ≤ R.cells) (hslots : slots + 11 ≤ R.slots) (hdg : decode cc pc = .ok (.invokevirtual index, 3))
    (kk : ∀ (q : Nat) (H1 : Heap), xW D A s.heap ((X ++ [(q, .inl (cI, 11, .inl f))]) ++ Z) H1 locs → W p l e R s m args below meth c H1 locs (cells + 1) (slots + 11) Q (F0 m (pc + 3) ls (.ref q :: rest))) : W p l e R s m args below meth c H locs cells slots Q (F0 m pc ls (.ref t :: rest)) := by
  obtain ⟨hP, hD, hS⟩ := hW
  obtain ⟨cell, h1, h2, h3, h4, h5, h6, h7⟩ := hT
  obtain ⟨cell', g1, g2, g3, g4⟩ := hC
  cases h1.symm.trans g1
  have hcI : cell.cls = cI := Option.some.inj (g4.symm.trans (hK.2 0 (cI, .int) rfl).2)
  have hcellE : ({ cls := cell.cls, slots := cell.slots } : Cell) = vp_cell cI (11, .inl f) := by
    rw [vp_cell_i, hcI]
    unfold arrV
    congr 1
    apply Array.ext_getElem?
    intro j
    by_cases hj : j < 11
    · rw [h6 j hj]
      simp [hj]
    · rw [Array.getElem?_eq_none (by omega), Array.getElem?_eq_none (by simp; omega)]
  obtain ⟨c0, t0', f1, f2, f3⟩ := Cond.castable_spec (va_Nw.use (A := args) rfl hcl)
  cases g4.symm.trans f1
  intro T hT X'
  have hcellT : T.heap[t]? = some cell := by rw [hT, hS.2.1 t (Array.getElem?_eq_some_iff.mp h1).1 h7]; exact h1
  obtain ⟨-, kA, hkA, comp, hkind⟩ := State.isArrayOf_alike X'.warmed.alike h2
  obtain ⟨-, kS, hkS, compS, hkindS⟩ := h2
  obtain ⟨vm', X2, st⟩ := X'.cloneArray hexec hown hlink hsame hnat hinst hsel (a := t) (cell := cell) hcellT (fun k h => by rw [h] at g3; cases g3) h3 g4 f2 f3
    (fun i v hv => by
      have hk' : T.vm.classes[cell.cls]? = some kA := hkA
      have hi : i < 11 := by rw [← g2]; exact (Array.getElem?_eq_some_iff.mp hv).1
      have hv2 : v = .int (f i) := Option.some.inj (hv.symm.trans (h6 i hi))
      subst hv2
      simp [State.fitsSlot, State.slotType?, hk', hkind, fits])
    (g := F0 m pc ls (.ref t :: rest)) rfl (by rw [hml]) rfl (by rw [hb]; exact hdg) hframes (by show 2 * 0 + _ + 14 ≤ _; omega) hcells (by rw [g2]; exact hslots) (hloader := Vm.clonesLoader_of_array hkS hkindS)
  rw [hcellE, g2] at X2
  generalize hH1 : H.push (vp_cell cI (11, .inl f)) = H1
  have z1 : H1.size = H.size + 1 := by rw [← hH1, Array.size_push]
  have e1 : H1[H.size]? = some (vp_cell cI (11, .inl f)) := by rw [← hH1, Array.getElem?_push_size]
  have o1 : ∀ q : Nat, q < H.size → H1[q]? = H[q]? := fun q hq => by rw [← hH1, Array.getElem?_push, if_neg (Nat.ne_of_lt hq)]
  have hk : ∀ (k : Nat) (y : Nat × va_E), (X ++ Z)[k]? = some y → H1[y.1]? = H[y.1]? := fun k y hy => o1 y.1 ((hP k y hy).lt)
  obtain ⟨t9, b1, b2⟩ := kk H.size H1 (xW_swap ((hP.kept hk).app (fun k y hy => by
      have hz : k < 1 := (List.getElem?_eq_some_iff.mp hy).1
      rw [show k = 0 by omega] at hy
      cases hy
      exact e1)) (hD.push hP rfl (hA _ hS.1)) ⟨Nat.le_trans hS.1 (by omega), fun y h1 h2 => (o1 y (Nat.lt_of_lt_of_le h1 hS.1)).trans (hS.2.1 y h1 h2), hS.2.2⟩)
    ((T.setVm vm').pushCell (vp_cell cI (11, .inl f))) (by rw [← hH1, ← hT]; rfl) X2
  refine ⟨t9, st t9 ?_, b2⟩
  rw [hcellE, hT]
  exact b1
end XM
