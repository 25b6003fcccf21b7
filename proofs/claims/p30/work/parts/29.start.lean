/-! what holds at the law's entry, in our words -/
theorem len_small {args : Array Value} {s : State} {tm : Term} {t : Nat} {v : Value} {cell : Cell} (ht : tm.eval args s none [] s = some (.ref t)) (g2 : s.arrayAt? t = some cell) (hl : (Term.length tm).eval args s none [] s = some v) : cell.slots.size < 2 ^ 31 := by
  simp only [Term.eval, ht, g2, Option.bind_eq_bind, Option.bind_some] at hl
  by_cases hlt : cell.slots.size < 2147483648
  · exact hlt
  · simp [hlt] at hl
theorem gT_start {args : Array Value} {s : State} {n : String} {f : Nat → Int32} {A : Nat → Prop} (hlay : (Cond.laysStatic "DryIceLane" n "[I").before args s = true) (hini : (Cond.initialized "DryIceLane").before args s = true) (hex : (Cond.exactly (.static "DryIceLane" n "[I") "[I").before args s = true) (harr : (Cond.arrayOf (.static "DryIceLane" n "[I") .int).before args s = true) (hlen : (Cond.eq (.length (.static "DryIceLane" n "[I")) (.int 11)).before args s = true)
    (hel : ∀ j : Nat, j < 11 → (Cond.eq (.elem (.static "DryIceLane" n "[I") (.int (Int32.ofNat j))) (.int (f j))).before args s = true) (hA : ∀ a : Nat, a < s.heap.size → ¬ A a) : gT n f A s s.heap := by
  have hl : (Term.length (.static "DryIceLane" n "[I")).eval args s none [] s = some (.int 11) := Cond.eq_int hlen rfl
  obtain ⟨t, ht, hT⟩ := va_Tof (N := 11) (f := fun j => .int (f j)) (A := A) (by decide) harr hl (fun j hj => Cond.eq_int (hel j hj) rfl) hA
  obtain ⟨a, c, cell, k, e1, e2, e3, e4, e5, e6, -⟩ := Cond.exactly_spec hex
  cases ht.symm.trans e1
  refine ⟨t, va_Zof hlay hini ht hA, hT, cell, e3, ?_, e5, by rw [e6]; exact e2⟩
  obtain ⟨b, cell2, g1, g2, g3⟩ := Term.length_spec hl
  cases ht.symm.trans g1
  cases e3.symm.trans (State.arrayAt?_spec g2).1
  have hsz : cell.slots.size < 2 ^ 31 := len_small ht g2 hl
  have h11 : cell.slots.size.toInt32 = 11 := (Value.int.inj g3).symm
  have h12 : (Int32.ofNat cell.slots.size).toInt = 11 := by
    have := congrArg Int32.toInt h11
    exact this
  rw [Int32.toInt_ofNat_small hsz] at h12
  omega
theorem xkn_start {s : State} {b : Nat} (hts : ∀ w ∈ lw_tbl, w.before #[Value.ref b] s = true) : ∃ (D : va_G) (cI cJ cZ cB : ClassId), va_K D vwCl (xT cI cJ cZ cB) s := by
  obtain ⟨c0, i0, k0⟩ := u_known (C := RX0) (T := TX0) (N := 4) hts (by decide +kernel) (hts (.instantiable RX0 4) (by decide +kernel))
  obtain ⟨c1, i1, k1⟩ := u_known (C := RX1) (T := TX1) (N := 7) hts (by decide +kernel) (hts (.instantiable RX1 7) (by decide +kernel))
  obtain ⟨c2, i2, k2⟩ := u_known (C := RX2) (T := TX2) (N := 2) hts (by decide +kernel) (hts (.instantiable RX2 2) (by decide +kernel))
  obtain ⟨c3, i3, k3⟩ := u_known (C := RX3) (T := TX3) (N := 2) hts (by decide +kernel) (hts (.instantiable RX3 2) (by decide +kernel))
  obtain ⟨c4, i4, k4⟩ := u_known (C := RX4) (T := TX4) (N := 5) hts (by decide +kernel) (hts (.instantiable RX4 5) (by decide +kernel))
  obtain ⟨c5, i5, k5⟩ := u_known (C := RX5) (T := TX5) (N := 7) hts (by decide +kernel) (hts (.instantiable RX5 7) (by decide +kernel))
  obtain ⟨c6, i6, k6⟩ := u_known (C := RX6) (T := TX6) (N := 1) hts (by decide +kernel) (hts (.instantiable RX6 1) (by decide +kernel))
  obtain ⟨c7, i7, k7⟩ := u_known (C := RX7) (T := TX7) (N := 2) hts (by decide +kernel) (hts (.instantiable RX7 2) (by decide +kernel))
  obtain ⟨c8, i8, k8⟩ := u_known (C := RX8) (T := TX8) (N := 10) hts (by decide +kernel) (hts (.instantiable RX8 10) (by decide +kernel))
  obtain ⟨c9, i9, k9⟩ := u_known (C := RX9) (T := TX9) (N := 6) hts (by decide +kernel) (hts (.instantiable RX9 6) (by decide +kernel))
  obtain ⟨c10, i10, k10⟩ := u_known (C := RX10) (T := TX10) (N := 10) hts (by decide +kernel) (hts (.instantiable RX10 10) (by decide +kernel))
  obtain ⟨cI, kI, pI, a1, a2, a3⟩ := Cond.arrayClass_spec (hts (.arrayClass .int) (by decide +kernel))
  obtain ⟨cJ, kJ, pJ, b1, b2, b3⟩ := Cond.arrayClass_spec (hts (.arrayClass .long) (by decide +kernel))
  obtain ⟨cZ, kZ, pZ, d1, d2, d3⟩ := Cond.arrayClass_spec (hts (.arrayClass .boolean) (by decide +kernel))
  obtain ⟨pB, cB, kB, f1, f2, f3, f4, f5⟩ := Cond.arrayOver_spec (hts (.arrayOver (.object RX0)) (by decide +kernel))
  refine ⟨(fun c => match c with | 0 => c0 | 1 => c1 | 2 => c2 | 3 => c3 | 4 => c4 | 5 => c5 | 6 => c6 | 7 => c7 | 8 => c8 | 9 => c9 | _ => c10, fun c => match c with | 0 => i0 | 1 => i1 | 2 => i2 | 3 => i3 | 4 => i4 | 5 => i5 | 6 => i6 | 7 => i7 | 8 => i8 | 9 => i9 | _ => i10), cI, cJ, cZ, cB, ?_, ?_⟩
  · intro c q hq
    have hc : c < 11 := (List.getElem?_eq_some_iff.mp hq).1
    rcases (show c = 0 ∨ c = 1 ∨ c = 2 ∨ c = 3 ∨ c = 4 ∨ c = 5 ∨ c = 6 ∨ c = 7 ∨ c = 8 ∨ c = 9 ∨ c = 10 by omega) with rfl | rfl | rfl | rfl | rfl | rfl | rfl | rfl | rfl | rfl | rfl <;> cases hq
    · exact k0
    · exact k1
    · exact k2
    · exact k3
    · exact k4
    · exact k5
    · exact k6
    · exact k7
    · exact k8
    · exact k9
    · exact k10
  · intro k q hq
    have hc : k < 4 := (List.getElem?_eq_some_iff.mp hq).1
    rcases (show k = 0 ∨ k = 1 ∨ k = 2 ∨ k = 3 by omega) with rfl | rfl | rfl | rfl <;> cases hq
    · exact ⟨fun n z => ⟨(fun k h => by cases h), kI, a2, pI, a3⟩, a1⟩
    · exact ⟨fun n z => ⟨(fun k h => by cases h), kJ, b2, pJ, b3⟩, b1⟩
    · exact ⟨fun n z => ⟨(fun k h => by cases h), kZ, d2, pZ, d3⟩, d1⟩
    · exact ⟨fun n z => ⟨(fun k h => by cases h), kB, f3, pB, f4⟩, kB, pB, f3, f4, f1, f5⟩
theorem gF_start {s : State} {b : Nat} (hts : ∀ w ∈ lw_tbl, w.before #[Value.ref b] s = true) : gF s := by
  have h1 : ∀ w ∈ gN, w.onTables = true := by decide +kernel
  have h2 : ∀ w ∈ gN, w ∈ lw_tbl := by decide +kernel
  exact ⟨fun w hw => va_Nw.of (h1 w hw) (hts w (h2 w hw)), va_AO.of (hts (.arrayOver (.object RX0)) (by decide +kernel))⟩
theorem gd_start {s : State} {b : Nat} {A : Nat → Prop} (hts : ∀ w ∈ lw_tbl, w.before #[Value.ref b] s = true) (hg : (Jvm.Cond.and given_1 narrow_1).before #[Value.ref b] s = true) (hA : ∀ a : Nat, a < s.heap.size → ¬ A a) : gd A s s.heap := by
  have hs := flat_of_before _ hg
  have hi := hts (.initialized "DryIceLane") (by decide +kernel)
  refine ⟨gF_start hts, ?_, ?_, ?_⟩
  · refine gT_start (hts _ (by decide +kernel)) hi (hs _ (by decide +kernel)) (hs _ (by decide +kernel)) (hs _ (by decide +kernel)) (fun j hj => ?_) hA
    rcases (show j = 0 ∨ j = 1 ∨ j = 2 ∨ j = 3 ∨ j = 4 ∨ j = 5 ∨ j = 6 ∨ j = 7 ∨ j = 8 ∨ j = 9 ∨ j = 10 by omega) with rfl | rfl | rfl | rfl | rfl | rfl | rfl | rfl | rfl | rfl | rfl <;> exact hs _ (by decide +kernel)
  · refine gT_start (hts _ (by decide +kernel)) hi (hs _ (by decide +kernel)) (hs _ (by decide +kernel)) (hs _ (by decide +kernel)) (fun j hj => ?_) hA
    rcases (show j = 0 ∨ j = 1 ∨ j = 2 ∨ j = 3 ∨ j = 4 ∨ j = 5 ∨ j = 6 ∨ j = 7 ∨ j = 8 ∨ j = 9 ∨ j = 10 by omega) with rfl | rfl | rfl | rfl | rfl | rfl | rfl | rfl | rfl | rfl | rfl <;> exact hs _ (by decide +kernel)
  · refine gT_start (hts _ (by decide +kernel)) hi (hs _ (by decide +kernel)) (hs _ (by decide +kernel)) (hs _ (by decide +kernel)) (fun j hj => ?_) hA
    rcases (show j = 0 ∨ j = 1 ∨ j = 2 ∨ j = 3 ∨ j = 4 ∨ j = 5 ∨ j = 6 ∨ j = 7 ∨ j = 8 ∨ j = 9 ∨ j = 10 by omega) with rfl | rfl | rfl | rfl | rfl | rfl | rfl | rfl | rfl | rfl | rfl <;> exact hs _ (by decide +kernel)
