/-! the pool of boxes, arrays of them, copies, what is made -/
def bxF (i t c p : Nat → Int32) : Nat → va_E := fun a => .inr (0, [.int (i a), .int (t a), .int (c a), .int (p a)])
def bxP (L : List Nat) (i t c p : Nat → Int32) : va_W := va_pl L (bxF i t c p)
def bxa (f : Nat → Option Nat) (k : Nat) : Nat := (f k).getD 0
theorem bxF_0 (i t c p : Nat → Int32) (a : Nat) (v : Int32) (b : Nat) : va_up (bxF i t c p) a (.inr (0, [.int v, .int (t a), .int (c a), .int (p a)])) b = bxF (va_up i a v) t c p b := by
  by_cases hb : b = a
  · subst hb; simp [bxF, va_up]
  · simp [bxF, va_up, hb]
theorem bxF_1 (i t c p : Nat → Int32) (a : Nat) (v : Int32) (b : Nat) : va_up (bxF i t c p) a (.inr (0, [.int (i a), .int v, .int (c a), .int (p a)])) b = bxF i (va_up t a v) c p b := by
  by_cases hb : b = a
  · subst hb; simp [bxF, va_up]
  · simp [bxF, va_up, hb]
theorem bxF_2 (i t c p : Nat → Int32) (a : Nat) (v : Int32) (b : Nat) : va_up (bxF i t c p) a (.inr (0, [.int (i a), .int (t a), .int v, .int (p a)])) b = bxF i t (va_up c a v) p b := by
  by_cases hb : b = a
  · subst hb; simp [bxF, va_up]
  · simp [bxF, va_up, hb]
theorem bxF_3 (i t c p : Nat → Int32) (a : Nat) (v : Int32) (b : Nat) : va_up (bxF i t c p) a (.inr (0, [.int (i a), .int (t a), .int (c a), .int v])) b = bxF i t c (va_up p a v) b := by
  by_cases hb : b = a
  · subst hb; simp [bxF, va_up]
  · simp [bxF, va_up, hb]
theorem bx_at {X : va_W} {L : List Nat} {i t c p : Nat → Int32} {a : Nat} (ha : a ∈ L) : ∃ k : Nat, (X ++ bxP L i t c p)[k]? = some (a, .inr (0, [.int (i a), .int (t a), .int (c a), .int (p a)])) := va_pl_get (X := X) (f := bxF i t c p) ha
theorem bx_set {X : va_W} {L : List Nat} {i t c p i2 t2 c2 p2 : Nat → Int32} {A : Nat → Prop} {a k : Nat} {e : va_E} (hD : va_D A (X ++ bxP L i t c p)) (ha : a ∈ L) (hk : (X ++ bxP L i t c p)[k]? = some (a, .inr (0, [.int (i a), .int (t a), .int (c a), .int (p a)]))) (he : ∀ b, va_up (bxF i t c p) a e b = bxF i2 t2 c2 p2 b) : (X ++ bxP L i t c p).set k (a, e) = X ++ bxP L i2 t2 c2 p2 :=
  (va_pl_set hD ha hk).trans (congrArg (fun l => X ++ l) (va_pl_congr he))
theorem xsw (x : Int32) (lo hi : Int) (h : ∀ k : Int, lo ≤ k ∧ k ≤ hi → ¬ x.toInt = k) : x.toInt < lo ∨ hi < x.toInt := by
  rcases Int.lt_or_le x.toInt lo with q | q
  · exact Or.inl q
  · rcases Int.lt_or_le hi x.toInt with r | r
    · exact Or.inr r
    · exact absurd rfl (h x.toInt ⟨q, r⟩)
theorem xsne {x k : Int32} {a : Int} (h : ¬ x = k) (hk : k.toInt = a) : ¬ x.toInt = a := lv_neT h hk
section XD
variable {p : Program} {l : Launch} {e : Env} {R : Room} {s : State} {m : MethodId} {args : Array Value} {below : List Frame} {meth : Method} {c : Code} {H : Heap} {locs : List Loc} {cells slots : Nat} {Q : State → Prop}
variable {cc : ByteArray} {index : Nat} {Ts : List Cond} {own : String} {rest : List Value} {pc : Nat} {ls : Array Slot} {D : va_G} {cI cJ cZ cB : ClassId} {A : Nat → Prop} {X Z : va_W} {L : List Nat} {qi qt qc qp : Nat → Int32} {a : Nat}
theorem xbrecv (hK : va_K D vwCl (xT cI cJ cZ cB) s) (hP : va_P D vwCl (X ++ bxP L qi qt qc qp) H) (ha : a ∈ L) : ∃ cell : Cell, H[a]? = some cell ∧ cell.vm.isStatics = false ∧ s.vm.findClass RX0 = some cell.cls := by
  obtain ⟨k, hk⟩ := bx_at (X := X) (i := qi) (t := qt) (c := qc) (p := qp) ha
  exact va_recv hK hP (ci := 0) (q := (RX0, TX0, 4)) (q0 := k) rfl hk
theorem xbget0 (hexec : p.tables.exec = Jvm.exec) (hb : c.code = cc) (hts : ∀ w ∈ Ts, w.before args s = true) (hin : ∀ w ∈ u_ws RX0 TX0 4, w ∈ Ts) (hown : s.vm.findClass own = some m.cls) (hK : va_K D vwCl (xT cI cJ cZ cB) s) (hW : xW D A s.heap (X ++ bxP L qi qt qc qp) H locs) (ha : a ∈ L) (hlink : (Cond.fieldLink own index "DryIceLane$Box" "insulation" "I").before args s = true) (hdg : decode cc pc = .ok (.getfield index, 3))
    (kk : W p l e R s m args below meth c H locs cells slots Q (F0 m (pc + 3) ls (.int (qi a) :: rest))) : W p l e R s m args below meth c H locs cells slots Q (F0 m pc ls (.ref a :: rest)) := by
  obtain ⟨k, hk⟩ := bx_at (X := X) (i := qi) (t := qt) (c := qc) (p := qp) ha
  exact va_get (ci := 0) (C := RX0) (T := TX0) (N := 4) hexec hb hts hin hown hK hW.1 k hk rfl 0 (by decide) hlink (fun _ h => h) rfl hdg kk
theorem xbget1 (hexec : p.tables.exec = Jvm.exec) (hb : c.code = cc) (hts : ∀ w ∈ Ts, w.before args s = true) (hin : ∀ w ∈ u_ws RX0 TX0 4, w ∈ Ts) (hown : s.vm.findClass own = some m.cls) (hK : va_K D vwCl (xT cI cJ cZ cB) s) (hW : xW D A s.heap (X ++ bxP L qi qt qc qp) H locs) (ha : a ∈ L) (hlink : (Cond.fieldLink own index "DryIceLane$Box" "tare" "I").before args s = true) (hdg : decode cc pc = .ok (.getfield index, 3))
    (kk : W p l e R s m args below meth c H locs cells slots Q (F0 m (pc + 3) ls (.int (qt a) :: rest))) : W p l e R s m args below meth c H locs cells slots Q (F0 m pc ls (.ref a :: rest)) := by
  obtain ⟨k, hk⟩ := bx_at (X := X) (i := qi) (t := qt) (c := qc) (p := qp) ha
  exact va_get (ci := 0) (C := RX0) (T := TX0) (N := 4) hexec hb hts hin hown hK hW.1 k hk rfl 1 (by decide) hlink (fun _ h => h) rfl hdg kk
theorem xbget2 (hexec : p.tables.exec = Jvm.exec) (hb : c.code = cc) (hts : ∀ w ∈ Ts, w.before args s = true) (hin : ∀ w ∈ u_ws RX0 TX0 4, w ∈ Ts) (hown : s.vm.findClass own = some m.cls) (hK : va_K D vwCl (xT cI cJ cZ cB) s) (hW : xW D A s.heap (X ++ bxP L qi qt qc qp) H locs) (ha : a ∈ L) (hlink : (Cond.fieldLink own index "DryIceLane$Box" "ice" "I").before args s = true) (hdg : decode cc pc = .ok (.getfield index, 3))
    (kk : W p l e R s m args below meth c H locs cells slots Q (F0 m (pc + 3) ls (.int (qc a) :: rest))) : W p l e R s m args below meth c H locs cells slots Q (F0 m pc ls (.ref a :: rest)) := by
  obtain ⟨k, hk⟩ := bx_at (X := X) (i := qi) (t := qt) (c := qc) (p := qp) ha
  exact va_get (ci := 0) (C := RX0) (T := TX0) (N := 4) hexec hb hts hin hown hK hW.1 k hk rfl 2 (by decide) hlink (fun _ h => h) rfl hdg kk
theorem xbget3 (hexec : p.tables.exec = Jvm.exec) (hb : c.code = cc) (hts : ∀ w ∈ Ts, w.before args s = true) (hin : ∀ w ∈ u_ws RX0 TX0 4, w ∈ Ts) (hown : s.vm.findClass own = some m.cls) (hK : va_K D vwCl (xT cI cJ cZ cB) s) (hW : xW D A s.heap (X ++ bxP L qi qt qc qp) H locs) (ha : a ∈ L) (hlink : (Cond.fieldLink own index "DryIceLane$Box" "paper" "I").before args s = true) (hdg : decode cc pc = .ok (.getfield index, 3))
    (kk : W p l e R s m args below meth c H locs cells slots Q (F0 m (pc + 3) ls (.int (qp a) :: rest))) : W p l e R s m args below meth c H locs cells slots Q (F0 m pc ls (.ref a :: rest)) := by
  obtain ⟨k, hk⟩ := bx_at (X := X) (i := qi) (t := qt) (c := qc) (p := qp) ha
  exact va_get (ci := 0) (C := RX0) (T := TX0) (N := 4) hexec hb hts hin hown hK hW.1 k hk rfl 3 (by decide) hlink (fun _ h => h) rfl hdg kk
theorem xbput0 (hexec : p.tables.exec = Jvm.exec) (hb : c.code = cc) (hts : ∀ w ∈ Ts, w.before args s = true) (hin : ∀ w ∈ u_ws RX0 TX0 4, w ∈ Ts) (hown : s.vm.findClass own = some m.cls) (hK : va_K D vwCl (xT cI cJ cZ cB) s) (hW : xW D A s.heap (X ++ bxP L qi qt qc qp) H locs) (ha : a ∈ L) (hlink : (Cond.fieldLink own index "DryIceLane$Box" "insulation" "I").before args s = true) {x : Int32} (hdg : decode cc pc = .ok (.putfield index, 3))
    (kk : ∀ (H1 : Heap) (locs1 : List Loc), xW D A s.heap (X ++ bxP L (va_up qi a x) qt qc qp) H1 locs1 → W p l e R s m args below meth c H1 locs1 cells slots Q (F0 m (pc + 3) ls rest)) : W p l e R s m args below meth c H locs cells slots Q (F0 m pc ls (.int x :: .ref a :: rest)) := by
  obtain ⟨k, hk⟩ := bx_at (X := X) (i := qi) (t := qt) (c := qc) (p := qp) ha
  refine va_put (ci := 0) (ty := .int) (C := RX0) (T := TX0) (N := 4) hexec hb hts hin tyX0 tyX0_ok nmX0 hown hK hW.1 hW.2.1 hW.2.2 k hk rfl 0 (by decide) hlink (fun _ h => h) rfl (by decide +kernel) rfl rfl (Nat.le_of_ble_eq_true rfl) hdg (fun H1 locs1 hP hD hS => kk H1 locs1 ?_)
  have he := bx_set (i2 := va_up qi a x) (t2 := qt) (c2 := qc) (p2 := qp) hW.2.1 ha hk (bxF_0 qi qt qc qp a x)
  exact ⟨he ▸ hP, he ▸ hD, hS⟩
theorem xbput1 (hexec : p.tables.exec = Jvm.exec) (hb : c.code = cc) (hts : ∀ w ∈ Ts, w.before args s = true) (hin : ∀ w ∈ u_ws RX0 TX0 4, w ∈ Ts) (hown : s.vm.findClass own = some m.cls) (hK : va_K D vwCl (xT cI cJ cZ cB) s) (hW : xW D A s.heap (X ++ bxP L qi qt qc qp) H locs) (ha : a ∈ L) (hlink : (Cond.fieldLink own index "DryIceLane$Box" "tare" "I").before args s = true) {x : Int32} (hdg : decode cc pc = .ok (.putfield index, 3))
    (kk : ∀ (H1 : Heap) (locs1 : List Loc), xW D A s.heap (X ++ bxP L qi (va_up qt a x) qc qp) H1 locs1 → W p l e R s m args below meth c H1 locs1 cells slots Q (F0 m (pc + 3) ls rest)) : W p l e R s m args below meth c H locs cells slots Q (F0 m pc ls (.int x :: .ref a :: rest)) := by
  obtain ⟨k, hk⟩ := bx_at (X := X) (i := qi) (t := qt) (c := qc) (p := qp) ha
  refine va_put (ci := 0) (ty := .int) (C := RX0) (T := TX0) (N := 4) hexec hb hts hin tyX0 tyX0_ok nmX0 hown hK hW.1 hW.2.1 hW.2.2 k hk rfl 1 (by decide) hlink (fun _ h => h) rfl (by decide +kernel) rfl rfl (Nat.le_of_ble_eq_true rfl) hdg (fun H1 locs1 hP hD hS => kk H1 locs1 ?_)
  have he := bx_set (i2 := qi) (t2 := va_up qt a x) (c2 := qc) (p2 := qp) hW.2.1 ha hk (bxF_1 qi qt qc qp a x)
  exact ⟨he ▸ hP, he ▸ hD, hS⟩
theorem xbput2 (hexec : p.tables.exec = Jvm.exec) (hb : c.code = cc) (hts : ∀ w ∈ Ts, w.before args s = true) (hin : ∀ w ∈ u_ws RX0 TX0 4, w ∈ Ts) (hown : s.vm.findClass own = some m.cls) (hK : va_K D vwCl (xT cI cJ cZ cB) s) (hW : xW D A s.heap (X ++ bxP L qi qt qc qp) H locs) (ha : a ∈ L) (hlink : (Cond.fieldLink own index "DryIceLane$Box" "ice" "I").before args s = true) {x : Int32} (hdg : decode cc pc = .ok (.putfield index, 3))
    (kk : ∀ (H1 : Heap) (locs1 : List Loc), xW D A s.heap (X ++ bxP L qi qt (va_up qc a x) qp) H1 locs1 → W p l e R s m args below meth c H1 locs1 cells slots Q (F0 m (pc + 3) ls rest)) : W p l e R s m args below meth c H locs cells slots Q (F0 m pc ls (.int x :: .ref a :: rest)) := by
  obtain ⟨k, hk⟩ := bx_at (X := X) (i := qi) (t := qt) (c := qc) (p := qp) ha
  refine va_put (ci := 0) (ty := .int) (C := RX0) (T := TX0) (N := 4) hexec hb hts hin tyX0 tyX0_ok nmX0 hown hK hW.1 hW.2.1 hW.2.2 k hk rfl 2 (by decide) hlink (fun _ h => h) rfl (by decide +kernel) rfl rfl (Nat.le_of_ble_eq_true rfl) hdg (fun H1 locs1 hP hD hS => kk H1 locs1 ?_)
  have he := bx_set (i2 := qi) (t2 := qt) (c2 := va_up qc a x) (p2 := qp) hW.2.1 ha hk (bxF_2 qi qt qc qp a x)
  exact ⟨he ▸ hP, he ▸ hD, hS⟩
theorem xbput3 (hexec : p.tables.exec = Jvm.exec) (hb : c.code = cc) (hts : ∀ w ∈ Ts, w.before args s = true) (hin : ∀ w ∈ u_ws RX0 TX0 4, w ∈ Ts) (hown : s.vm.findClass own = some m.cls) (hK : va_K D vwCl (xT cI cJ cZ cB) s) (hW : xW D A s.heap (X ++ bxP L qi qt qc qp) H locs) (ha : a ∈ L) (hlink : (Cond.fieldLink own index "DryIceLane$Box" "paper" "I").before args s = true) {x : Int32} (hdg : decode cc pc = .ok (.putfield index, 3))
    (kk : ∀ (H1 : Heap) (locs1 : List Loc), xW D A s.heap (X ++ bxP L qi qt qc (va_up qp a x)) H1 locs1 → W p l e R s m args below meth c H1 locs1 cells slots Q (F0 m (pc + 3) ls rest)) : W p l e R s m args below meth c H locs cells slots Q (F0 m pc ls (.int x :: .ref a :: rest)) := by
  obtain ⟨k, hk⟩ := bx_at (X := X) (i := qi) (t := qt) (c := qc) (p := qp) ha
  refine va_put (ci := 0) (ty := .int) (C := RX0) (T := TX0) (N := 4) hexec hb hts hin tyX0 tyX0_ok nmX0 hown hK hW.1 hW.2.1 hW.2.2 k hk rfl 3 (by decide) hlink (fun _ h => h) rfl (by decide +kernel) rfl rfl (Nat.le_of_ble_eq_true rfl) hdg (fun H1 locs1 hP hD hS => kk H1 locs1 ?_)
  have he := bx_set (i2 := qi) (t2 := qt) (c2 := qc) (p2 := va_up qp a x) hW.2.1 ha hk (bxF_3 qi qt qc qp a x)
  exact ⟨he ▸ hP, he ▸ hD, hS⟩
/-- a box out of the lane's row: which one -/
theorem xaald (hexec : p.tables.exec = Jvm.exec) (hb : c.code = cc) (hK : va_K D vwCl (xT cI cJ cZ cB) s) {Wc : va_W} (hP : va_P D vwCl Wc H) (q0 t0 : Nat) {N : Nat} {f : Nat → Option Nat} {ar : Nat} (ha : Wc[q0]? = some (ar, .inl (cB, N, .inr (.inr (.inr (.inr f)))))) (ht : (xT cI cJ cZ cB)[t0]? = some (cB, .object RX0)) {i : Int32} (hin : vp_in i N) (k : Nat) (hk : i.toNatClampNeg = k) (hs : ∃ x, f k = some x) (hdg : decode cc pc = .ok (.aaload, 1))
    (kk : W p l e R s m args below meth c H locs cells slots Q (F0 m (pc + 1) ls (.ref (bxa f k) :: rest))) : W p l e R s m args below meth c H locs cells slots Q (F0 m pc ls (.int i :: .ref ar :: rest)) := by
  subst hk
  refine va_aldq hexec hb hK hP q0 t0 ha ht hin hdg ?_
  obtain ⟨x, hx⟩ := hs
  rw [bxa, hx] at kk
  rw [hx]
  exact kk
theorem xaast (hexec : p.tables.exec = Jvm.exec) (hb : c.code = cc) (hK : va_K D vwCl (xT cI cJ cZ cB) s) (hW : xW D A s.heap (X ++ bxP L qi qt qc qp) H locs) (q0 t0 : Nat) {v : Nat} (hv : v ∈ L) {N : Nat} {f : Nat → Option Nat} {ar : Nat} (ha : (X ++ bxP L qi qt qc qp)[q0]? = some (ar, .inl (cB, N, .inr (.inr (.inr (.inr f)))))) (hq : q0 < X.length) (ht : (xT cI cJ cZ cB)[t0]? = some (cB, .object RX0)) {i : Int32} (hin : vp_in i N) (k : Nat) (hk : i.toNatClampNeg = k) (hdg : decode cc pc = .ok (.aastore, 1))
    (kk : ∀ (H1 : Heap) (locs1 : List Loc), xW D A s.heap (X.set q0 (ar, .inl (cB, N, .inr (.inr (.inr (.inr (va_up f k (some v))))))) ++ bxP L qi qt qc qp) H1 locs1 → W p l e R s m args below meth c H1 locs1 cells slots Q (F0 m (pc + 1) ls rest)) : W p l e R s m args below meth c H locs cells slots Q (F0 m pc ls (.ref v :: .int i :: .ref ar :: rest)) := by
  subst hk
  obtain ⟨kq, hkq⟩ := bx_at (X := X) (i := qi) (t := qt) (c := qc) (p := qp) hv
  refine va_astq (r := (RX0, TX0, 4)) hexec hb hK hW.1 hW.2.1 hW.2.2 q0 t0 kq 0 ha ht hkq rfl hin hdg (fun H1 locs1 hP hD hS => kk H1 locs1 ?_)
  rw [List.set_append_left _ _ hq] at hP hD
  exact ⟨hP, hD, hS⟩
theorem xq_split {r : Option Nat} (kn : r = none → W p l e R s m args below meth c H locs cells slots Q (F0 m pc ls (.null :: rest))) (ks : ¬ r = none → W p l e R s m args below meth c H locs cells slots Q (F0 m pc ls (.ref (r.getD 0) :: rest))) : W p l e R s m args below meth c H locs cells slots Q (F0 m pc ls (va_rf r :: rest)) := by
  cases r with
  | none => exact kn rfl
  | some a => exact ks (fun h => by cases h)
theorem xcopy (hexec : p.tables.exec = Jvm.exec) (hb : c.code = cc) (hml : c.maxLocals = ls.size) (hown : s.vm.findClass own = some m.cls) (hlink : (Cond.methodLink own index arraycopyName).before args s = true) (hnat : (Cond.native arraycopyName).before args s = true) (hstat : (Cond.static arraycopyName).before args s = true) (hini : (Cond.initialized "java/lang/System").before args s = true)
    (hK : va_K D vwCl (xT cI cJ cZ cB) s) (hW : xW D A s.heap (X ++ Z) H locs) (q0 q1 t0 t1 : Nat) {a0 a1 : Nat} {n0 n1 : Nat} {f g : Nat → Int32} (ha0 : (X ++ Z)[q0]? = some (a0, .inl (cI, n0, .inl f))) (ha1 : (X ++ Z)[q1]? = some (a1, .inl (cI, n1, .inl g))) (hq : q1 < X.length) (ht0 : (xT cI cJ cZ cB)[t0]? = some (cI, .int)) (ht1 : (xT cI cJ cZ cB)[t1]? = some (cI, .int))
    {sp dp n : Int32} (h1 : ¬ sp < 0) (h2 : ¬ dp < 0) (h3 : ¬ n < 0) (h4 : sp.toNatClampNeg + n.toNatClampNeg ≤ n0) (h5 : dp.toNatClampNeg + n.toNatClampNeg ≤ n1)
    (hframes : 1 ≤ R.frames) (hlocals : (rest.map fun v => v.category).sum + (nativeFrameWords "java/lang/System" "arraycopy" 5 + 11) ≤ R.locals) (hdg : decode cc pc = .ok (.invokestatic index, 3))
    (kk : ∀ (H1 : Heap) (locs1 : List Loc), xW D A s.heap (X.set q1 (a1, .inl (cI, n1, .inl (va_cpy f g sp.toNatClampNeg dp.toNatClampNeg n.toNatClampNeg))) ++ Z) H1 locs1 → W p l e R s m args below meth c H1 locs1 cells slots Q (F0 m (pc + 3) ls rest)) : W p l e R s m args below meth c H locs cells slots Q (F0 m pc ls (.int n :: .int dp :: .ref a1 :: .int sp :: .ref a0 :: rest)) := by
  refine va_copyi hexec hb hml hown hlink hnat hstat hini hK hW.1 hW.2.1 hW.2.2 q0 q1 t0 t1 ha0 ha1 ht0 ht1 rfl h1 h2 h3 h4 h5 (fun _ _ => rfl) hframes hlocals hdg (fun H1 locs1 hP hD hS => kk H1 locs1 ?_)
  rw [List.set_append_left _ _ hq] at hP hD
  exact ⟨hP, hD, hS⟩
end XD
