/-! THE CLAIM OUT OF ONE WALK OF THE LAW'S BODY. Your part is whole_start (and what it stands on); all else here is the same for every law, but numbers. -/
def R_law : String := "DryIceLaneLaw"
def lw_P (b : Addr) (xs : List Int32) (args : Array Value) (s : State) : Prop := args = #[.ref b] ∧ s.IntsAt b xs ∧ xs.length ≤ 2048 ∧ (Jvm.Cond.and given_1 narrow_1).before args s = true
def lw_Q (_ : Array Value) (s : State) (o : Outcome) (t : State) : Prop := o = .returned (some (.int 1)) ∧ Framed s o t [] 600000 7302250
def lw_Z (below : List Frame) (a : Array Value) (s : State) : State → Prop := fun t => ∃ o, t.status = .running ∧ Ended t below o ∧ lw_Q a s o t
/-- the law's own end, with 1 on the stack, nothing written that was there before, its room as the claim has it -/
theorem lw_ret {p : Program} {l : Launch} {e : Env} {s : State} {m : MethodId} {below : List Frame} {meth : Method} {c : Code} {b : Nat} (hx : p.tables.exec = Jvm.exec) (hb : c.code = code) (hr : meth.sig.returnType = ret) (hlocks : meth.locks = false) {pc : Nat} {H : Heap} {ls : Array Slot} (hdg : decode code pc = .ok (.ireturn, 1)) : W p l e room_1 s m #[Value.ref b] below meth c H [] 600000 7302250 (lw_Z below #[Value.ref b] s) (F0 m pc ls [.int 1]) := by
  intro T hT X
  obtain ⟨fs, hret, hrun, hended, hW, hframe⟩ := X.leave (v := some (.int 1)) (hlocks := hlocks) (fun h => by rw [hr] at h; cases h)
  have hmeth' : T.vm.method? m = some meth := X.method'
  refine ⟨T.setFrames fs, ?_, .returned (some (.int 1)), hrun, hended, rfl, ⟨_, rfl⟩, hW, hframe⟩
  jvm_step X.here [X.here.top, hx, hb, hdg, hmeth', hr, ret, narrow_b1]
  (try refine ⟨rfl, ?_⟩); (try refine ⟨rfl, ?_⟩)
  first | (intro acts; rw [hret _ acts rfl rfl rfl]) | rw [hret _ _ rfl rfl rfl]
  exact Steps.refl _
/-- what holds at the law's entry: the machine, the code, the tables' words (any of lw_tbl by 'hts w (by decide +kernel)'), the script of L ints xs at the cell b, what the Statement gives of the start (any of its parts by flat_of_before) -/
def lw_At (p : Program) (s : State) (m : MethodId) (meth : Method) (c : Code) (b L : Nat) (xs : Nat → Int32) : Prop :=
  p.tables.exec = Jvm.exec ∧ c.code = code ∧ meth.sig.returnType = ret ∧ c.maxLocals = 4 ∧ s.vm.findClass R_law = some m.cls ∧ (∀ w ∈ lw_tbl, w.before #[Value.ref b] s = true) ∧ va_X b L xs s s.heap ∧ b < s.heap.size ∧ meth.locks = false ∧ (Jvm.Cond.and given_1 narrow_1).before #[Value.ref b] s = true

theorem cl_eq : code = cL_law := by first | rfl | decide +kernel
theorem okR_u {L u : List Nat} (h : u.length = 10) (hs : ∀ x, x ∈ u → x ∈ L) : okR L (fun k => u[k]?) := fun k hk => by
  have hl : k < u.length := by omega
  exact ⟨u[k], hs _ (List.getElem_mem hl), List.getElem?_eq_getElem hl⟩
theorem ln_i {L : Nat} (h : L ≤ 2048) : (Int32.ofNat L - 4).toInt = (L : Int) - 4 := by
  have e4 : (4 : Int32).toInt = 4 := by decide
  have e : (Int32.ofNat L).toInt = L := Int32.toInt_ofNat_of_lt (by omega)
  rw [xsubI (by omega) (by omega), e, e4]
theorem lp_hi {L : Nat} {x : Int32} (h : L ≤ 2048) (c : ¬ Int32.ofNat L - 4 < x) : x.toInt + 3 < L := by
  have h1 := xnlt.mp c
  rw [ln_i h] at h1
  omega
theorem lp_up {L : Nat} {x : Int32} {n : Nat} (h : L ≤ 2048) (h0 : 0 ≤ x.toInt) (hi : x.toInt + 3 < L) (hn : ((L : Int) - x.toInt).toNat < n + 1) : 0 ≤ (x + 4).toInt ∧ ((L : Int) - (x + 4).toInt).toNat < n := by
  have e4 : (4 : Int32).toInt = 4 := by decide
  have e : (x + 4).toInt = x.toInt + 4 := by rw [xaddI (by omega) (by omega), e4]
  rw [e]; omega
def mf0 : Nat → Int64 := vp_updL (vp_updL (vp_updL (vp_updL (vp_updL (vp_updL (vp_updL (vp_updL (vp_updL (vp_updL (vp_updL (vp_updL (vp_updL (fun _ => 0) 78 2000) 84 (-1)) 64 100) 65 10) 66 100) 67 5) 68 300) 69 5000) 70 1000) 71 5) 72 5000) 73 20) 74 5000
theorem ok_mf0 : okM mf0 := by
  refine ⟨by decide +kernel, by decide +kernel, by decide +kernel, by decide +kernel, by decide +kernel, by decide +kernel, fun h => absurd h (by decide +kernel), fun b hb => ?_⟩
  have e : (mf0 75).toInt = 0 := by decide +kernel
  omega
theorem rel_0 : relM mf0 sfirst (f_X1_init ).2 0 := by
  refine ⟨ok_mf0, fun k hk => ?_, by decide +kernel, by decide +kernel, by decide, by decide⟩
  rcases (show k = 0 ∨ k = 1 ∨ k = 2 ∨ k = 3 ∨ k = 4 ∨ k = 5 ∨ k = 6 ∨ k = 7 ∨ k = 8 ∨ k = 9 ∨ k = 10 by omega) with rfl | rfl | rfl | rfl | rfl | rfl | rfl | rfl | rfl | rfl | rfl <;> decide +kernel
theorem slot_0 {f : Nat → Int64} {sf : Nat → Int32} {vM tm : Int32} : slotR f false 0 sf vM tm 0 0 := ⟨rfl, okC_0 (by decide), okC_0 (by decide), fun h => by cases h⟩

set_option maxHeartbeats 8000000 in
set_option maxRecDepth 100000 in
theorem lp_law {p : Program} {l : Launch} {e : Env} {s : State} {m : MethodId} {below : List Frame} {meth : Method} {c : Code} {b : Nat} {xs : Nat → Int32} {D : va_G} {cI cJ cZ cB : ClassId} {A : Nat → Prop} {kc ks : Nat} {Q : State → Prop} (hx : p.tables.exec = Jvm.exec) (hb : c.code = cL_law) (hml : c.maxLocals = 4) (hown : s.vm.findClass RL = some m.cls) (hts : ∀ w ∈ wsL_law, w.before #[Value.ref b] s = true) {Ln : Nat} (hLn : Ln ≤ 2048) (hX : va_X b Ln xs s s.heap) (hbl : b < s.heap.size) (hbA : ¬ A b) (hK : va_K D vwCl (xT cI cJ cZ cB) s) (hA : ∀ q, s.heap.size ≤ q → A q) (hG : gd A s s.heap) (hkc : kc ≤ 600000) (hks : ks ≤ 7302250) {aX aM : Nat} (fin : ∀ (H : Heap) (locs : List Loc) (ls : Array Slot), va_S A s.heap H locs → ∀ {x : Int32}, lv_has ls 4 [(3, .int x), (2, .ref aM), (1, .ref aX), (0, .ref b)] → W p l e room_1 s m #[Value.ref b] below meth c H locs kc ks Q (F0 m 867 ls [])) : ∀ (n : Nat) (xi : Int32) (H : Heap) (locs : List Loc) (ls : Array Slot), ((Ln : Int) - xi.toInt).toNat < n → 0 ≤ xi.toInt → WST D cI cJ cZ cB A s.heap aX aM H locs → lv_has ls 4 [(3, .int xi), (2, .ref aM), (1, .ref aX), (0, .ref b)] → W p l e room_1 s m #[Value.ref b] below meth c H locs kc ks Q (F0 m 18 ls []) := by
  intro n
  induction n with
  | zero => intro xi H locs ls hn; exact absurd hn (Nat.not_lt_zero _)
  | succ n ih =>
    intro xi H locs ls hn h0 hS hl
    obtain ⟨y0, hy0⟩ : ∃ y, xs (xi).toNatClampNeg = y := ⟨_, rfl⟩
    have foot : ∀ (hi : xi.toInt + 3 < Ln) (H : Heap) (locs : List Loc) (ls : Array Slot), WST D cI cJ cZ cB A s.heap aX aM H locs → lv_has ls 4 [(3, .int xi), (2, .ref aM), (1, .ref aX), (0, .ref b)] → W p l e room_1 s m #[Value.ref b] below meth c H locs kc ks Q (F0 m 861 ls []) := by
      intro hi H locs ls hS hl
      refine lv_iinc (v := xi + 4) (lv' := [(3, .int (xi + 4)), (2, .ref aM), (1, .ref aX), (0, .ref b)]) hx hb dL_law_861 hl (k := 0) rfl rfl (by decide) rfl (fun ls hl => ?_)
      refine lv_goto (tgt := 18) hx hb dL_law_864 (by decide) ?_
      exact ih _ _ _ _ (lp_up hLn h0 hi hn).2 (lp_up hLn h0 hi hn).1 hS hl
    refine lv_iload_n hx hb dL_law_18 rfl (lv_at hl 0 rfl) ?_
    refine lv_aload_n hx hb dL_law_19 rfl (lv_at hl 3 rfl) ?_
    refine va_slen hx hb hX hbl hbA (wst_S hS) dL_law_20 ?_
    refine lv_iconst (v := 4) hx hb dL_law_21 (by decide) ?_
    refine lv_isub hx hb dL_law_22 ?_
    refine lv_icmp_gt (tgt := 867) hx hb dL_law_23 (by decide) (fun c1 => ?_) (fun c1 => ?_)
    · skip
      exact fin _ _ _ (wst_S hS) hl
    · skip
      have hi := lp_hi hLn c1
      have foot := foot hi
      refine lv_aload_n hx hb dL_law_26 rfl (lv_at hl 3 rfl) ?_
      refine lv_iload_n hx hb dL_law_27 rfl (lv_at hl 0 rfl) ?_
      refine va_sld hx hb hX hbl hbA (wst_S hS) (sx_0 hLn h0 hi) dL_law_28 ?_
      rw [hy0]
      refine lv_bipush (v := 31) hx hb dL_law_29 (by decide) ?_
      refine lv_iand hx hb dL_law_31 ?_
      by_cases c2 : (y0 &&& 31) = 0
      · skip
        refine lv_tableIn (off := 132) (tgt := 164) hx hb dL_law_32 (by rw [c2]; decide) (by rw [c2]; decide) (by rw [c2]; rfl) (by decide) ?_
        exact s_load hx hb hml hown hts hLn h0 hi hX hbl hbA hK hA hG hkc hks hS hl foot
      · skip
        by_cases c3 : (y0 &&& 31) = 1
        · skip
          refine lv_tableIn (off := 175) (tgt := 207) hx hb dL_law_32 (by rw [c3]; decide) (by rw [c3]; decide) (by rw [c3]; rfl) (by decide) ?_
          exact s_unload hx hb hml hown hts hLn h0 hi hX hbl hbA hK hA hG hkc hks hS hl foot
        · skip
          by_cases c4 : (y0 &&& 31) = 2
          · skip
            refine lv_tableIn (off := 198) (tgt := 230) hx hb dL_law_32 (by rw [c4]; decide) (by rw [c4]; decide) (by rw [c4]; rfl) (by decide) ?_
            exact s_shift hx hb hml hown hts hLn h0 hi hX hbl hbA hK hA hG hkc hks hS hl foot
          · skip
            by_cases c5 : (y0 &&& 31) = 3
            · skip
              refine lv_tableIn (off := 231) (tgt := 263) hx hb dL_law_32 (by rw [c5]; decide) (by rw [c5]; decide) (by rw [c5]; rfl) (by decide) ?_
              exact s_set hx hb hml hown hts hLn h0 hi hX hbl hbA hK hA hG hkc hks hS hl foot
            · skip
              by_cases c6 : (y0 &&& 31) = 4
              · skip
                refine lv_tableIn (off := 264) (tgt := 296) hx hb dL_law_32 (by rw [c6]; decide) (by rw [c6]; decide) (by rw [c6]; rfl) (by decide) ?_
                exact s_leg hx hb hml hown hts hLn h0 hi hX hbl hbA hK hA hG hkc hks hS hl foot
              · skip
                by_cases c7 : (y0 &&& 31) = 5
                · skip
                  refine lv_tableIn (off := 297) (tgt := 329) hx hb dL_law_32 (by rw [c7]; decide) (by rw [c7]; decide) (by rw [c7]; rfl) (by decide) ?_
                  exact s_cut hx hb hml hown hts hLn h0 hi hX hbl hbA hK hA hG hkc hks hS hl foot
                · skip
                  by_cases c8 : (y0 &&& 31) = 6
                  · skip
                    refine lv_tableIn (off := 310) (tgt := 342) hx hb dL_law_32 (by rw [c8]; decide) (by rw [c8]; decide) (by rw [c8]; rfl) (by decide) ?_
                    exact s_depart hx hb hml hown hts hLn h0 hi hX hbl hbA hK hA hG hkc hks hS hl foot
                  · skip
                    by_cases c9 : (y0 &&& 31) = 7
                    · skip
                      refine lv_tableIn (off := 323) (tgt := 355) hx hb dL_law_32 (by rw [c9]; decide) (by rw [c9]; decide) (by rw [c9]; rfl) (by decide) ?_
                      exact s_pass hx hb hml hown hts hLn h0 hi hX hbl hbA hK hA hG hkc hks hS hl foot
                    · skip
                      by_cases c10 : (y0 &&& 31) = 8
                      · skip
                        refine lv_tableIn (off := 346) (tgt := 378) hx hb dL_law_32 (by rw [c10]; decide) (by rw [c10]; decide) (by rw [c10]; rfl) (by decide) ?_
                        exact s_vent hx hb hml hown hts hLn h0 hi hX hbl hbA hK hA hG hkc hks hS hl foot
                      · skip
                        by_cases c11 : (y0 &&& 31) = 9
                        · skip
                          refine lv_tableIn (off := 369) (tgt := 401) hx hb dL_law_32 (by rw [c11]; decide) (by rw [c11]; decide) (by rw [c11]; rfl) (by decide) ?_
                          exact s_open hx hb hml hown hts hLn h0 hi hX hbl hbA hK hA hG hkc hks hS hl foot
                        · skip
                          by_cases c12 : (y0 &&& 31) = 10
                          · skip
                            refine lv_tableIn (off := 382) (tgt := 414) hx hb dL_law_32 (by rw [c12]; decide) (by rw [c12]; decide) (by rw [c12]; rfl) (by decide) ?_
                            exact s_shut hx hb hml hown hts hLn h0 hi hX hbl hbA hK hA hG hkc hks hS hl foot
                          · skip
                            by_cases c13 : (y0 &&& 31) = 11
                            · skip
                              refine lv_tableIn (off := 395) (tgt := 427) hx hb dL_law_32 (by rw [c13]; decide) (by rw [c13]; decide) (by rw [c13]; rfl) (by decide) ?_
                              exact s_sell hx hb hml hown hts hLn h0 hi hX hbl hbA hK hA hG hkc hks hS hl foot
                            · skip
                              by_cases c14 : (y0 &&& 31) = 12
                              · skip
                                refine lv_tableIn (off := 418) (tgt := 450) hx hb dL_law_32 (by rw [c14]; decide) (by rw [c14]; decide) (by rw [c14]; rfl) (by decide) ?_
                                exact s_spill hx hb hml hown hts hLn h0 hi hX hbl hbA hK hA hG hkc hks hS hl foot
                              · skip
                                by_cases c15 : (y0 &&& 31) = 13
                                · skip
                                  refine lv_tableIn (off := 451) (tgt := 483) hx hb dL_law_32 (by rw [c15]; decide) (by rw [c15]; decide) (by rw [c15]; rfl) (by decide) ?_
                                  exact s_weigh hx hb hml hown hts hLn h0 hi hX hbl hbA hK hA hG hkc hks hS hl foot
                                · skip
                                  by_cases c16 : (y0 &&& 31) = 14
                                  · skip
                                    refine lv_tableIn (off := 474) (tgt := 506) hx hb dL_law_32 (by rw [c16]; decide) (by rw [c16]; decide) (by rw [c16]; rfl) (by decide) ?_
                                    exact s_check hx hb hml hown hts hLn h0 hi hX hbl hbA hK hA hG hkc hks hS hl foot
                                  · skip
                                    by_cases c17 : (y0 &&& 31) = 15
                                    · skip
                                      refine lv_tableIn (off := 497) (tgt := 529) hx hb dL_law_32 (by rw [c17]; decide) (by rw [c17]; decide) (by rw [c17]; rfl) (by decide) ?_
                                      exact s_box hx hb hml hown hts hLn h0 hi hX hbl hbA hK hA hG hkc hks hS hl foot
                                    · skip
                                      by_cases c18 : (y0 &&& 31) = 16
                                      · skip
                                        refine lv_tableIn (off := 530) (tgt := 562) hx hb dL_law_32 (by rw [c18]; decide) (by rw [c18]; decide) (by rw [c18]; rfl) (by decide) ?_
                                        exact s_van hx hb hml hown hts hLn h0 hi hX hbl hbA hK hA hG hkc hks hS hl foot
                                      · skip
                                        by_cases c19 : (y0 &&& 31) = 17
                                        · skip
                                          refine lv_tableIn (off := 553) (tgt := 585) hx hb dL_law_32 (by rw [c19]; decide) (by rw [c19]; decide) (by rw [c19]; rfl) (by decide) ?_
                                          exact s_way hx hb hml hown hts hLn h0 hi hX hbl hbA hK hA hG hkc hks hS hl foot
                                        · skip
                                          by_cases c20 : (y0 &&& 31) = 18
                                          · skip
                                            refine lv_tableIn (off := 586) (tgt := 618) hx hb dL_law_32 (by rw [c20]; decide) (by rw [c20]; decide) (by rw [c20]; rfl) (by decide) ?_
                                            exact s_account hx hb hml hown hts hLn h0 hi hX hbl hbA hK hA hG hkc hks hS hl foot
                                          · skip
                                            by_cases c21 : (y0 &&& 31) = 19
                                            · skip
                                              refine lv_tableIn (off := 609) (tgt := 641) hx hb dL_law_32 (by rw [c21]; decide) (by rw [c21]; decide) (by rw [c21]; rfl) (by decide) ?_
                                              exact s_atEnd hx hb hml hown hts hLn h0 hi hX hbl hbA hK hA hG hkc hks hS hl foot
                                            · skip
                                              by_cases c22 : (y0 &&& 31) = 20
                                              · skip
                                                refine lv_tableIn (off := 642) (tgt := 674) hx hb dL_law_32 (by rw [c22]; decide) (by rw [c22]; decide) (by rw [c22]; rfl) (by decide) ?_
                                                exact s_worst hx hb hml hown hts hLn h0 hi hX hbl hbA hK hA hG hkc hks hS hl foot
                                              · skip
                                                by_cases c23 : (y0 &&& 31) = 21
                                                · skip
                                                  refine lv_tableIn (off := 665) (tgt := 697) hx hb dL_law_32 (by rw [c23]; decide) (by rw [c23]; decide) (by rw [c23]; rfl) (by decide) ?_
                                                  exact s_purge hx hb hml hown hts hLn h0 hi hX hbl hbA hK hA hG hkc hks hS hl foot
                                                · skip
                                                  by_cases c24 : (y0 &&& 31) = 22
                                                  · skip
                                                    refine lv_tableIn (off := 688) (tgt := 720) hx hb dL_law_32 (by rw [c24]; decide) (by rw [c24]; decide) (by rw [c24]; rfl) (by decide) ?_
                                                    exact s_front hx hb hml hown hts hLn h0 hi hX hbl hbA hK hA hG hkc hks hS hl foot
                                                  · skip
                                                    by_cases c25 : (y0 &&& 31) = 23
                                                    · skip
                                                      refine lv_tableIn (off := 721) (tgt := 753) hx hb dL_law_32 (by rw [c25]; decide) (by rw [c25]; decide) (by rw [c25]; rfl) (by decide) ?_
                                                      exact s_say hx hb hml hown hts hLn h0 hi hX hbl hbA hK hA hG hkc hks hS hl foot
                                                    · skip
                                                      by_cases c26 : (y0 &&& 31) = 24
                                                      · skip
                                                        refine lv_tableIn (off := 744) (tgt := 776) hx hb dL_law_32 (by rw [c26]; decide) (by rw [c26]; decide) (by rw [c26]; rfl) (by decide) ?_
                                                        exact s_wipe hx hb hml hown hts hLn h0 hi hX hbl hbA hK hA hG hkc hks hS hl foot
                                                      · skip
                                                        by_cases c27 : (y0 &&& 31) = 25
                                                        · skip
                                                          refine lv_tableIn (off := 757) (tgt := 789) hx hb dL_law_32 (by rw [c27]; decide) (by rw [c27]; decide) (by rw [c27]; rfl) (by decide) ?_
                                                          exact s_fault hx hb hml hown hts hLn h0 hi hX hbl hbA hK hA hG hkc hks hS hl foot
                                                        · skip
                                                          by_cases c28 : (y0 &&& 31) = 26
                                                          · skip
                                                            refine lv_tableIn (off := 770) (tgt := 802) hx hb dL_law_32 (by rw [c28]; decide) (by rw [c28]; decide) (by rw [c28]; rfl) (by decide) ?_
                                                            exact s_read hx hb hml hown hts hLn h0 hi hX hbl hbA hK hA hG hkc hks hS hl foot
                                                          · skip
                                                            by_cases c29 : (y0 &&& 31) = 27
                                                            · skip
                                                              refine lv_tableIn (off := 783) (tgt := 815) hx hb dL_law_32 (by rw [c29]; decide) (by rw [c29]; decide) (by rw [c29]; rfl) (by decide) ?_
                                                              exact s_save hx hb hml hown hts hLn h0 hi hX hbl hbA hK hA hG hkc hks hS hl foot
                                                            · skip
                                                              by_cases c30 : (y0 &&& 31) = 28
                                                              · skip
                                                                refine lv_tableIn (off := 806) (tgt := 838) hx hb dL_law_32 (by rw [c30]; decide) (by rw [c30]; decide) (by rw [c30]; rfl) (by decide) ?_
                                                                exact s_restore hx hb hml hown hts hLn h0 hi hX hbl hbA hK hA hG hkc hks hS hl foot
                                                              · skip
                                                                refine lv_tableOut (tgt := 861) hx hb dL_law_32 (xsw (y0 &&& 31) 0 28 (fun k9 h9 => by rcases (show k9 = 0 ∨ k9 = 1 ∨ k9 = 2 ∨ k9 = 3 ∨ k9 = 4 ∨ k9 = 5 ∨ k9 = 6 ∨ k9 = 7 ∨ k9 = 8 ∨ k9 = 9 ∨ k9 = 10 ∨ k9 = 11 ∨ k9 = 12 ∨ k9 = 13 ∨ k9 = 14 ∨ k9 = 15 ∨ k9 = 16 ∨ k9 = 17 ∨ k9 = 18 ∨ k9 = 19 ∨ k9 = 20 ∨ k9 = 21 ∨ k9 = 22 ∨ k9 = 23 ∨ k9 = 24 ∨ k9 = 25 ∨ k9 = 26 ∨ k9 = 27 ∨ k9 = 28 by omega) with rfl | rfl | rfl | rfl | rfl | rfl | rfl | rfl | rfl | rfl | rfl | rfl | rfl | rfl | rfl | rfl | rfl | rfl | rfl | rfl | rfl | rfl | rfl | rfl | rfl | rfl | rfl | rfl | rfl <;> first | exact xsne c2 (by decide) | exact xsne c3 (by decide) | exact xsne c4 (by decide) | exact xsne c5 (by decide) | exact xsne c6 (by decide) | exact xsne c7 (by decide) | exact xsne c8 (by decide) | exact xsne c9 (by decide) | exact xsne c10 (by decide) | exact xsne c11 (by decide) | exact xsne c12 (by decide) | exact xsne c13 (by decide) | exact xsne c14 (by decide) | exact xsne c15 (by decide) | exact xsne c16 (by decide) | exact xsne c17 (by decide) | exact xsne c18 (by decide) | exact xsne c19 (by decide) | exact xsne c20 (by decide) | exact xsne c21 (by decide) | exact xsne c22 (by decide) | exact xsne c23 (by decide) | exact xsne c24 (by decide) | exact xsne c25 (by decide) | exact xsne c26 (by decide) | exact xsne c27 (by decide) | exact xsne c28 (by decide) | exact xsne c29 (by decide) | exact xsne c30 (by decide))) (by decide) ?_
                                                                exact foot _ _ _ hS hl

set_option maxHeartbeats 4000000 in
theorem fin_G {p : Program} {l : Launch} {e : Env} {s : State} {m : MethodId} {below : List Frame} {meth : Method} {c : Code} {b : Nat} {A : Nat → Prop} {kc ks : Nat} {aX aM : Nat} (hx : p.tables.exec = Jvm.exec) (hb : c.code = cL_law) (hml : c.maxLocals = 4) (hr : meth.sig.returnType = ret) (hlocks : meth.locks = false) (hbl9 : ∀ q : Nat, q < s.heap.size → ¬ A q) (hkc : kc ≤ 600000) (hks : ks ≤ 7302250) : ∀ (H : Heap) (locs : List Loc) (ls : Array Slot), va_S A s.heap H locs → ∀ {x : Int32}, lv_has ls 4 [(3, .int x), (2, .ref aM), (1, .ref aX), (0, .ref b)] → W p l e room_1 s m #[Value.ref b] below meth c H locs kc ks (lw_Z below #[Value.ref b] s) (F0 m 867 ls []) := by
  intro H locs ls hS x hl
  refine lv_iconst (v := 1) hx hb dL_law_867 (by decide) ?_
  refine va_forget (fun q h => Nat.not_lt.mp (fun h9 => hbl9 q.base h9 (hS.2.2 q h))) ?_
  refine W.widen (k := 600000) (n := 7302250) hkc hks ?_
  exact lw_ret hx (hb.trans cl_eq.symm) hr hlocks (by rw [cl_eq]; exact dL_law_868)

set_option maxHeartbeats 8000000 in
set_option maxRecDepth 100000 in
theorem law_G {p : Program} {l : Launch} {e : Env} {s : State} {m : MethodId} {below : List Frame} {meth : Method} {c : Code} {b : Nat} {xs : Nat → Int32} {A : Nat → Prop} {D : va_G} {cI cJ cZ cB : ClassId} {ls : Array Slot} {Ln : Nat} (hLn : Ln ≤ 2048) (hx : p.tables.exec = Jvm.exec) (hb : c.code = cL_law) (hml : c.maxLocals = 4) (hr : meth.sig.returnType = ret) (hlocks : meth.locks = false) (hown : s.vm.findClass RL = some m.cls) (hts : ∀ w ∈ wsL_law, w.before #[Value.ref b] s = true) (hX : va_X b Ln xs s s.heap) (hbl : b < s.heap.size) (hbA : ¬ A b) (hbl9 : ∀ q : Nat, q < s.heap.size → ¬ A q) (hK : va_K D vwCl (xT cI cJ cZ cB) s) (hA : ∀ q, s.heap.size ≤ q → A q) (hG : gd A s s.heap) (hl : lv_has ls 4 [(0, .ref b)]) : W p l e room_1 s m #[Value.ref b] below meth c s.heap [] 0 0 (lw_Z below #[Value.ref b] s) (F0 m 0 ls []) := by
  have w1 := hts (.classLink RL 7 RX9) (by decide +kernel)
  have w2 := hts (.instantiable RX9 6) (by decide +kernel)
  have w3 := hts (.initialized RX9) (by decide +kernel)
  have hin9 : ∀ w ∈ u_ws RX9 TX9 6, w ∈ wsL_law := by decide +kernel
  have w5 := hts (.methodLink RL 9 yX9_init) (by decide +kernel)
  have w6 := hts (.instanceMethod yX9_init) (by decide +kernel)
  have w7 := hts (.classLink RL 10 RX10) (by decide +kernel)
  have w8 := hts (.instantiable RX10 10) (by decide +kernel)
  have w9 := hts (.initialized RX10) (by decide +kernel)
  have hin10 : ∀ w ∈ u_ws RX10 TX10 10, w ∈ wsL_law := by decide +kernel
  have w11 := hts (.methodLink RL 12 yX10_init) (by decide +kernel)
  have w12 := hts (.instanceMethod yX10_init) (by decide +kernel)
  obtain ⟨H, hH⟩ : ∃ H, H = s.heap := ⟨_, rfl⟩
  have hW : xW D A s.heap ([] ++ bxP [] z0 z0 z0 z0) H [] := by rw [hH]; exact ⟨(fun k q h => by cases h), ⟨(fun i j p q h => by cases h), (fun k q h => by cases h)⟩, va_S.rf⟩
  rw [← hH]
  refine xnew (ci := 9) (fs := [.null, .null, .null, .null, .null, .null]) (C := RX9) (T := TX9) (N := 6) hx hb hts hin9 tyX9 tyX9_ok hown w1 w2 w3 hK hW hA rfl (fun j hj => by rcases (show j = 0 ∨ j = 1 ∨ j = 2 ∨ j = 3 ∨ j = 4 ∨ j = 5 by omega) with rfl | rfl | rfl | rfl | rfl | rfl <;> rfl) (Nat.le_of_ble_eq_true rfl) (Nat.le_of_ble_eq_true rfl) dL_law_0 (fun n1_ H hW => ?_)
  have hW : xW D A s.heap ([(n1_, .inr (9, [.null, .null, .null, .null, .null, .null]))] ++ bxP ([]) z0 z0 z0 z0) H _ := hW
  refine lv_dup hx hb dL_law_3 rfl ?_
  refine xPv (wr := []) hW hA [0] [] rfl rfl (by decide) (by decide) (by decide) (xrunI (As := []) (rest := [.ref n1_]) ⟨hx, hb, hml, hown, hts⟩ (c_X9_init l D cI cJ cZ cB H.size n1_ ([])) (cwI 0 hts gL_law_X9_init rfl rfl rfl w3 w5 w6 rfl (by decide +kernel) ⟨Nat.le_of_ble_eq_true rfl, Nat.le_of_ble_eq_true rfl⟩) hK hG hW.2.2 (xsubP hW hA [0] rfl (by decide)) rfl hl.1 rfl (Nat.le_of_ble_eq_true rfl) dL_law_4 ⟨Nat.le_of_ble_eq_true rfl, Nat.le_of_ble_eq_true rfl⟩) (fun u4 H locs hq4 hW => ?_)
  obtain ⟨n2_, n3_, n4_, n5_, n6_, n7_, n8_, n9_, n10_, n11_, n12_, n13_, n14_, n15_, n16_, n17_, n18_, n19_, n20_, n21_, n22_, n23_, n24_, n25_, n26_, n27_, n28_, n29_, n30_, n31_, n32_, n33_, n34_, n35_, n36_, n37_, n38_, n39_, n40_, n41_, n42_, n43_, n44_, n45_, n46_, n47_, n48_⟩ := u4
  have hW : xW D A s.heap ([(n1_, .inr (9, [.ref n2_, .ref n12_, .ref n22_, .ref n33_, .ref n44_, .ref n46_])), (n2_, .inr (8, [.ref n3_, .ref n5_, .ref n8_, .ref n9_, .int 0, .long 0, .long 0, .long 0, .long 0, .long 0])), (n3_, .inr (6, [.ref n4_])), (n4_, .inl (cI, 11, .inl sfirst)), (n5_, .inr (2, [.ref n6_, .int 0])), (n6_, .inl (cB, 10, .inr (.inr (.inr (.inr (fun k => n7_[k]?)))))), (n8_, .inr (1, [.int (f_X1_init ).1, .long 0, .int (f_X1_init ).2, .int (bi false), .int 0, .int (bi false), .int 0])), (n9_, .inr (4, [.ref n10_, .ref n11_, .int 0, .int (-1), .int 0])), (n10_, .inl (cI, 12, .inl (fun _ => 0))), (n11_, .inl (cI, 12, .inl (fun _ => 0))), (n12_, .inr (8, [.ref n13_, .ref n15_, .ref n18_, .ref n19_, .int 0, .long 0, .long 0, .long 0, .long 0, .long 0])), (n13_, .inr (6, [.ref n14_])), (n14_, .inl (cI, 11, .inl sfirst)), (n15_, .inr (2, [.ref n16_, .int 0])), (n16_, .inl (cB, 10, .inr (.inr (.inr (.inr (fun k => n17_[k]?)))))), (n18_, .inr (1, [.int (f_X1_init ).1, .long 0, .int (f_X1_init ).2, .int (bi false), .int 0, .int (bi false), .int 0])), (n19_, .inr (4, [.ref n20_, .ref n21_, .int 0, .int (-1), .int 0])), (n20_, .inl (cI, 12, .inl (fun _ => 0))), (n21_, .inl (cI, 12, .inl (fun _ => 0))), (n22_, .inr (7, [.ref n23_, .int (bi false)])), (n23_, .inr (8, [.ref n24_, .ref n26_, .ref n29_, .ref n30_, .int 0, .long 0, .long 0, .long 0, .long 0, .long 0])), (n24_, .inr (6, [.ref n25_])), (n25_, .inl (cI, 11, .inl sfirst)), (n26_, .inr (2, [.ref n27_, .int 0])), (n27_, .inl (cB, 10, .inr (.inr (.inr (.inr (fun k => n28_[k]?)))))), (n29_, .inr (1, [.int (f_X1_init ).1, .long 0, .int (f_X1_init ).2, .int (bi false), .int 0, .int (bi false), .int 0])), (n30_, .inr (4, [.ref n31_, .ref n32_, .int 0, .int (-1), .int 0])), (n31_, .inl (cI, 12, .inl (fun _ => 0))), (n32_, .inl (cI, 12, .inl (fun _ => 0))), (n33_, .inr (7, [.ref n34_, .int (bi false)])), (n34_, .inr (8, [.ref n35_, .ref n37_, .ref n40_, .ref n41_, .int 0, .long 0, .long 0, .long 0, .long 0, .long 0])), (n35_, .inr (6, [.ref n36_])), (n36_, .inl (cI, 11, .inl sfirst)), (n37_, .inr (2, [.ref n38_, .int 0])), (n38_, .inl (cB, 10, .inr (.inr (.inr (.inr (fun k => n39_[k]?)))))), (n40_, .inr (1, [.int (f_X1_init ).1, .long 0, .int (f_X1_init ).2, .int (bi false), .int 0, .int (bi false), .int 0])), (n41_, .inr (4, [.ref n42_, .ref n43_, .int 0, .int (-1), .int 0])), (n42_, .inl (cI, 12, .inl (fun _ => 0))), (n43_, .inl (cI, 12, .inl (fun _ => 0))), (n44_, .inr (3, [.ref n45_, .int 0])), (n45_, .inl (cI, 80, .inl (fun _ => 0))), (n46_, .inr (5, [.ref n47_, .ref n48_, .int 0, .int 0, .int 0, .int 0, .int (bi false)])), (n47_, .inl (cI, 20, .inl (fun _ => 0))), (n48_, .inl (cI, 20, .inl (fun _ => 0)))] ++ bxP ((((([]) ++ n7_) ++ n17_) ++ n28_) ++ n39_) z0 z0 z0 z0) H _ := hW
  refine lv_astore_n (lv' := [(1, .ref n1_), (0, .ref b)]) hx hb dL_law_7 rfl hl (by decide) rfl (fun ls hl => ?_)
  refine xnew (ci := 10) (fs := [.null, .null, .null, .null, .null, .int 0, .int 0, .int (bi false), .null, .int 0]) (C := RX10) (T := TX10) (N := 10) hx hb hts hin10 tyX10 tyX10_ok hown w7 w8 w9 hK hW hA rfl (fun j hj => by rcases (show j = 0 ∨ j = 1 ∨ j = 2 ∨ j = 3 ∨ j = 4 ∨ j = 5 ∨ j = 6 ∨ j = 7 ∨ j = 8 ∨ j = 9 by omega) with rfl | rfl | rfl | rfl | rfl | rfl | rfl | rfl | rfl | rfl <;> rfl) (Nat.le_of_ble_eq_true rfl) (Nat.le_of_ble_eq_true rfl) dL_law_8 (fun n49_ H hW => ?_)
  have hW : xW D A s.heap ([(n1_, .inr (9, [.ref n2_, .ref n12_, .ref n22_, .ref n33_, .ref n44_, .ref n46_])), (n2_, .inr (8, [.ref n3_, .ref n5_, .ref n8_, .ref n9_, .int 0, .long 0, .long 0, .long 0, .long 0, .long 0])), (n3_, .inr (6, [.ref n4_])), (n4_, .inl (cI, 11, .inl sfirst)), (n5_, .inr (2, [.ref n6_, .int 0])), (n6_, .inl (cB, 10, .inr (.inr (.inr (.inr (fun k => n7_[k]?)))))), (n8_, .inr (1, [.int (f_X1_init ).1, .long 0, .int (f_X1_init ).2, .int (bi false), .int 0, .int (bi false), .int 0])), (n9_, .inr (4, [.ref n10_, .ref n11_, .int 0, .int (-1), .int 0])), (n10_, .inl (cI, 12, .inl (fun _ => 0))), (n11_, .inl (cI, 12, .inl (fun _ => 0))), (n12_, .inr (8, [.ref n13_, .ref n15_, .ref n18_, .ref n19_, .int 0, .long 0, .long 0, .long 0, .long 0, .long 0])), (n13_, .inr (6, [.ref n14_])), (n14_, .inl (cI, 11, .inl sfirst)), (n15_, .inr (2, [.ref n16_, .int 0])), (n16_, .inl (cB, 10, .inr (.inr (.inr (.inr (fun k => n17_[k]?)))))), (n18_, .inr (1, [.int (f_X1_init ).1, .long 0, .int (f_X1_init ).2, .int (bi false), .int 0, .int (bi false), .int 0])), (n19_, .inr (4, [.ref n20_, .ref n21_, .int 0, .int (-1), .int 0])), (n20_, .inl (cI, 12, .inl (fun _ => 0))), (n21_, .inl (cI, 12, .inl (fun _ => 0))), (n22_, .inr (7, [.ref n23_, .int (bi false)])), (n23_, .inr (8, [.ref n24_, .ref n26_, .ref n29_, .ref n30_, .int 0, .long 0, .long 0, .long 0, .long 0, .long 0])), (n24_, .inr (6, [.ref n25_])), (n25_, .inl (cI, 11, .inl sfirst)), (n26_, .inr (2, [.ref n27_, .int 0])), (n27_, .inl (cB, 10, .inr (.inr (.inr (.inr (fun k => n28_[k]?)))))), (n29_, .inr (1, [.int (f_X1_init ).1, .long 0, .int (f_X1_init ).2, .int (bi false), .int 0, .int (bi false), .int 0])), (n30_, .inr (4, [.ref n31_, .ref n32_, .int 0, .int (-1), .int 0])), (n31_, .inl (cI, 12, .inl (fun _ => 0))), (n32_, .inl (cI, 12, .inl (fun _ => 0))), (n33_, .inr (7, [.ref n34_, .int (bi false)])), (n34_, .inr (8, [.ref n35_, .ref n37_, .ref n40_, .ref n41_, .int 0, .long 0, .long 0, .long 0, .long 0, .long 0])), (n35_, .inr (6, [.ref n36_])), (n36_, .inl (cI, 11, .inl sfirst)), (n37_, .inr (2, [.ref n38_, .int 0])), (n38_, .inl (cB, 10, .inr (.inr (.inr (.inr (fun k => n39_[k]?)))))), (n40_, .inr (1, [.int (f_X1_init ).1, .long 0, .int (f_X1_init ).2, .int (bi false), .int 0, .int (bi false), .int 0])), (n41_, .inr (4, [.ref n42_, .ref n43_, .int 0, .int (-1), .int 0])), (n42_, .inl (cI, 12, .inl (fun _ => 0))), (n43_, .inl (cI, 12, .inl (fun _ => 0))), (n44_, .inr (3, [.ref n45_, .int 0])), (n45_, .inl (cI, 80, .inl (fun _ => 0))), (n46_, .inr (5, [.ref n47_, .ref n48_, .int 0, .int 0, .int 0, .int 0, .int (bi false)])), (n47_, .inl (cI, 20, .inl (fun _ => 0))), (n48_, .inl (cI, 20, .inl (fun _ => 0))), (n49_, .inr (10, [.null, .null, .null, .null, .null, .int 0, .int 0, .int (bi false), .null, .int 0]))] ++ bxP ((((([]) ++ n7_) ++ n17_) ++ n28_) ++ n39_) z0 z0 z0 z0) H _ := hW
  refine lv_dup hx hb dL_law_11 rfl ?_
  refine xQv (wr := [(n1_, .inr (9, [.ref n2_, .ref n12_, .ref n22_, .ref n33_, .ref n44_, .ref n46_])), (n2_, .inr (8, [.ref n3_, .ref n5_, .ref n8_, .ref n9_, .int 0, .long 0, .long 0, .long 0, .long 0, .long 0])), (n3_, .inr (6, [.ref n4_])), (n4_, .inl (cI, 11, .inl sfirst)), (n5_, .inr (2, [.ref n6_, .int 0])), (n6_, .inl (cB, 10, .inr (.inr (.inr (.inr (fun k => n7_[k]?)))))), (n8_, .inr (1, [.int (f_X1_init ).1, .long 0, .int (f_X1_init ).2, .int (bi false), .int 0, .int (bi false), .int 0])), (n9_, .inr (4, [.ref n10_, .ref n11_, .int 0, .int (-1), .int 0])), (n10_, .inl (cI, 12, .inl (fun _ => 0))), (n11_, .inl (cI, 12, .inl (fun _ => 0))), (n12_, .inr (8, [.ref n13_, .ref n15_, .ref n18_, .ref n19_, .int 0, .long 0, .long 0, .long 0, .long 0, .long 0])), (n13_, .inr (6, [.ref n14_])), (n14_, .inl (cI, 11, .inl sfirst)), (n15_, .inr (2, [.ref n16_, .int 0])), (n16_, .inl (cB, 10, .inr (.inr (.inr (.inr (fun k => n17_[k]?)))))), (n18_, .inr (1, [.int (f_X1_init ).1, .long 0, .int (f_X1_init ).2, .int (bi false), .int 0, .int (bi false), .int 0])), (n19_, .inr (4, [.ref n20_, .ref n21_, .int 0, .int (-1), .int 0])), (n20_, .inl (cI, 12, .inl (fun _ => 0))), (n21_, .inl (cI, 12, .inl (fun _ => 0))), (n22_, .inr (7, [.ref n23_, .int (bi false)])), (n23_, .inr (8, [.ref n24_, .ref n26_, .ref n29_, .ref n30_, .int 0, .long 0, .long 0, .long 0, .long 0, .long 0])), (n24_, .inr (6, [.ref n25_])), (n25_, .inl (cI, 11, .inl sfirst)), (n26_, .inr (2, [.ref n27_, .int 0])), (n27_, .inl (cB, 10, .inr (.inr (.inr (.inr (fun k => n28_[k]?)))))), (n29_, .inr (1, [.int (f_X1_init ).1, .long 0, .int (f_X1_init ).2, .int (bi false), .int 0, .int (bi false), .int 0])), (n30_, .inr (4, [.ref n31_, .ref n32_, .int 0, .int (-1), .int 0])), (n31_, .inl (cI, 12, .inl (fun _ => 0))), (n32_, .inl (cI, 12, .inl (fun _ => 0))), (n33_, .inr (7, [.ref n34_, .int (bi false)])), (n34_, .inr (8, [.ref n35_, .ref n37_, .ref n40_, .ref n41_, .int 0, .long 0, .long 0, .long 0, .long 0, .long 0])), (n35_, .inr (6, [.ref n36_])), (n36_, .inl (cI, 11, .inl sfirst)), (n37_, .inr (2, [.ref n38_, .int 0])), (n38_, .inl (cB, 10, .inr (.inr (.inr (.inr (fun k => n39_[k]?)))))), (n40_, .inr (1, [.int (f_X1_init ).1, .long 0, .int (f_X1_init ).2, .int (bi false), .int 0, .int (bi false), .int 0])), (n41_, .inr (4, [.ref n42_, .ref n43_, .int 0, .int (-1), .int 0])), (n42_, .inl (cI, 12, .inl (fun _ => 0))), (n43_, .inl (cI, 12, .inl (fun _ => 0))), (n44_, .inr (3, [.ref n45_, .int 0])), (n45_, .inl (cI, 80, .inl (fun _ => 0))), (n46_, .inr (5, [.ref n47_, .ref n48_, .int 0, .int 0, .int 0, .int 0, .int (bi false)])), (n47_, .inl (cI, 20, .inl (fun _ => 0))), (n48_, .inl (cI, 20, .inl (fun _ => 0)))]) hW hA [44] [0, 1, 2, 3, 4, 5, 6, 7, 8, 9, 10, 11, 12, 13, 14, 15, 16, 17, 18, 19, 20, 21, 22, 23, 24, 25, 26, 27, 28, 29, 30, 31, 32, 33, 34, 35, 36, 37, 38, 39, 40, 41, 42, 43] rfl rfl (by decide) (by decide) (by decide) (xrunI (As := []) (rest := [.ref n49_]) ⟨hx, hb, hml, hown, hts⟩ (c_X10_init l D cI cJ cZ cB H.size n49_ 0 0 false 0) (cwI 0 hts gL_law_X10_init rfl rfl rfl w9 w11 w12 rfl (by decide +kernel) ⟨Nat.le_of_ble_eq_true rfl, Nat.le_of_ble_eq_true rfl⟩) hK hG hW.2.2 (xsubQ hW hA [44] rfl (by decide)) rfl hl.1 rfl (Nat.le_of_ble_eq_true rfl) dL_law_12 ⟨Nat.le_of_ble_eq_true rfl, Nat.le_of_ble_eq_true rfl⟩) (fun u12 H locs hq12 hW => ?_)
  obtain ⟨n50_, n51_, n52_, n53_, n54_, n55_⟩ := u12
  have hW : xW D A s.heap ([(n1_, .inr (9, [.ref n2_, .ref n12_, .ref n22_, .ref n33_, .ref n44_, .ref n46_])), (n2_, .inr (8, [.ref n3_, .ref n5_, .ref n8_, .ref n9_, .int 0, .long 0, .long 0, .long 0, .long 0, .long 0])), (n3_, .inr (6, [.ref n4_])), (n4_, .inl (cI, 11, .inl sfirst)), (n5_, .inr (2, [.ref n6_, .int 0])), (n6_, .inl (cB, 10, .inr (.inr (.inr (.inr (fun k => n7_[k]?)))))), (n8_, .inr (1, [.int (f_X1_init ).1, .long 0, .int (f_X1_init ).2, .int (bi false), .int 0, .int (bi false), .int 0])), (n9_, .inr (4, [.ref n10_, .ref n11_, .int 0, .int (-1), .int 0])), (n10_, .inl (cI, 12, .inl (fun _ => 0))), (n11_, .inl (cI, 12, .inl (fun _ => 0))), (n12_, .inr (8, [.ref n13_, .ref n15_, .ref n18_, .ref n19_, .int 0, .long 0, .long 0, .long 0, .long 0, .long 0])), (n13_, .inr (6, [.ref n14_])), (n14_, .inl (cI, 11, .inl sfirst)), (n15_, .inr (2, [.ref n16_, .int 0])), (n16_, .inl (cB, 10, .inr (.inr (.inr (.inr (fun k => n17_[k]?)))))), (n18_, .inr (1, [.int (f_X1_init ).1, .long 0, .int (f_X1_init ).2, .int (bi false), .int 0, .int (bi false), .int 0])), (n19_, .inr (4, [.ref n20_, .ref n21_, .int 0, .int (-1), .int 0])), (n20_, .inl (cI, 12, .inl (fun _ => 0))), (n21_, .inl (cI, 12, .inl (fun _ => 0))), (n22_, .inr (7, [.ref n23_, .int (bi false)])), (n23_, .inr (8, [.ref n24_, .ref n26_, .ref n29_, .ref n30_, .int 0, .long 0, .long 0, .long 0, .long 0, .long 0])), (n24_, .inr (6, [.ref n25_])), (n25_, .inl (cI, 11, .inl sfirst)), (n26_, .inr (2, [.ref n27_, .int 0])), (n27_, .inl (cB, 10, .inr (.inr (.inr (.inr (fun k => n28_[k]?)))))), (n29_, .inr (1, [.int (f_X1_init ).1, .long 0, .int (f_X1_init ).2, .int (bi false), .int 0, .int (bi false), .int 0])), (n30_, .inr (4, [.ref n31_, .ref n32_, .int 0, .int (-1), .int 0])), (n31_, .inl (cI, 12, .inl (fun _ => 0))), (n32_, .inl (cI, 12, .inl (fun _ => 0))), (n33_, .inr (7, [.ref n34_, .int (bi false)])), (n34_, .inr (8, [.ref n35_, .ref n37_, .ref n40_, .ref n41_, .int 0, .long 0, .long 0, .long 0, .long 0, .long 0])), (n35_, .inr (6, [.ref n36_])), (n36_, .inl (cI, 11, .inl sfirst)), (n37_, .inr (2, [.ref n38_, .int 0])), (n38_, .inl (cB, 10, .inr (.inr (.inr (.inr (fun k => n39_[k]?)))))), (n40_, .inr (1, [.int (f_X1_init ).1, .long 0, .int (f_X1_init ).2, .int (bi false), .int 0, .int (bi false), .int 0])), (n41_, .inr (4, [.ref n42_, .ref n43_, .int 0, .int (-1), .int 0])), (n42_, .inl (cI, 12, .inl (fun _ => 0))), (n43_, .inl (cI, 12, .inl (fun _ => 0))), (n44_, .inr (3, [.ref n45_, .int 0])), (n45_, .inl (cI, 80, .inl (fun _ => 0))), (n46_, .inr (5, [.ref n47_, .ref n48_, .int 0, .int 0, .int 0, .int 0, .int (bi false)])), (n47_, .inl (cI, 20, .inl (fun _ => 0))), (n48_, .inl (cI, 20, .inl (fun _ => 0))), (n49_, .inr (10, [.ref n50_, .ref n51_, .ref n52_, .ref n53_, .ref n54_, .int 0, .int 0, .int (bi false), .ref n55_, .int 0])), (n50_, .inl (cJ, 93, .inr (.inl (vp_updL (vp_updL (vp_updL (vp_updL (vp_updL (vp_updL (vp_updL (vp_updL (vp_updL (vp_updL (vp_updL (vp_updL (vp_updL (fun _ => 0) 78 2000) 84 (-1)) 64 100) 65 10) 66 100) 67 5) 68 300) 69 5000) 70 1000) 71 5) 72 5000) 73 20) 74 5000)))), (n51_, .inl (cJ, 93, .inr (.inl (fun _ => 0)))), (n52_, .inl (cJ, 186, .inr (.inl (fun _ => 0)))), (n53_, .inl (cZ, 2, .inl (fun _ => 0))), (n54_, .inl (cI, 80, .inl (fun _ => 0))), (n55_, .inl (cI, 60, .inl (fun _ => 0)))] ++ bxP ((((([]) ++ n7_) ++ n17_) ++ n28_) ++ n39_) z0 z0 z0 z0) H _ := hW
  refine lv_astore_n (lv' := [(2, .ref n49_), (1, .ref n1_), (0, .ref b)]) hx hb dL_law_15 rfl hl (by decide) rfl (fun ls hl => ?_)
  refine lv_iconst (v := 0) hx hb dL_law_16 (by decide) ?_
  refine lv_istore_n (lv' := [(3, .int 0), (2, .ref n49_), (1, .ref n1_), (0, .ref b)]) hx hb dL_law_17 rfl hl (by decide) rfl (fun ls hl => ?_)
  have hW : xW D A s.heap ([(n1_, .inr (9, [.ref n2_, .ref n12_, .ref n22_, .ref n33_, .ref n44_, .ref n46_])), (n2_, .inr (8, [.ref n3_, .ref n5_, .ref n8_, .ref n9_, .int 0, .long 0, .long 0, .long 0, .long 0, .long 0])), (n3_, .inr (6, [.ref n4_])), (n4_, .inl (cI, 11, .inl sfirst)), (n5_, .inr (2, [.ref n6_, .int 0])), (n6_, .inl (cB, 10, .inr (.inr (.inr (.inr (fun k => n7_[k]?)))))), (n8_, .inr (1, [.int (f_X1_init ).1, .long 0, .int (f_X1_init ).2, .int (bi false), .int 0, .int (bi false), .int 0])), (n9_, .inr (4, [.ref n10_, .ref n11_, .int 0, .int (-1), .int 0])), (n10_, .inl (cI, 12, .inl (fun _ => 0))), (n11_, .inl (cI, 12, .inl (fun _ => 0))), (n12_, .inr (8, [.ref n13_, .ref n15_, .ref n18_, .ref n19_, .int 0, .long 0, .long 0, .long 0, .long 0, .long 0])), (n13_, .inr (6, [.ref n14_])), (n14_, .inl (cI, 11, .inl sfirst)), (n15_, .inr (2, [.ref n16_, .int 0])), (n16_, .inl (cB, 10, .inr (.inr (.inr (.inr (fun k => n17_[k]?)))))), (n18_, .inr (1, [.int (f_X1_init ).1, .long 0, .int (f_X1_init ).2, .int (bi false), .int 0, .int (bi false), .int 0])), (n19_, .inr (4, [.ref n20_, .ref n21_, .int 0, .int (-1), .int 0])), (n20_, .inl (cI, 12, .inl (fun _ => 0))), (n21_, .inl (cI, 12, .inl (fun _ => 0))), (n22_, .inr (7, [.ref n23_, .int (bi false)])), (n23_, .inr (8, [.ref n24_, .ref n26_, .ref n29_, .ref n30_, .int 0, .long 0, .long 0, .long 0, .long 0, .long 0])), (n24_, .inr (6, [.ref n25_])), (n25_, .inl (cI, 11, .inl sfirst)), (n26_, .inr (2, [.ref n27_, .int 0])), (n27_, .inl (cB, 10, .inr (.inr (.inr (.inr (fun k => n28_[k]?)))))), (n29_, .inr (1, [.int (f_X1_init ).1, .long 0, .int (f_X1_init ).2, .int (bi false), .int 0, .int (bi false), .int 0])), (n30_, .inr (4, [.ref n31_, .ref n32_, .int 0, .int (-1), .int 0])), (n31_, .inl (cI, 12, .inl (fun _ => 0))), (n32_, .inl (cI, 12, .inl (fun _ => 0))), (n33_, .inr (7, [.ref n34_, .int (bi false)])), (n34_, .inr (8, [.ref n35_, .ref n37_, .ref n40_, .ref n41_, .int 0, .long 0, .long 0, .long 0, .long 0, .long 0])), (n35_, .inr (6, [.ref n36_])), (n36_, .inl (cI, 11, .inl sfirst)), (n37_, .inr (2, [.ref n38_, .int 0])), (n38_, .inl (cB, 10, .inr (.inr (.inr (.inr (fun k => n39_[k]?)))))), (n40_, .inr (1, [.int (f_X1_init ).1, .long 0, .int (f_X1_init ).2, .int (bi false), .int 0, .int (bi false), .int 0])), (n41_, .inr (4, [.ref n42_, .ref n43_, .int 0, .int (-1), .int 0])), (n42_, .inl (cI, 12, .inl (fun _ => 0))), (n43_, .inl (cI, 12, .inl (fun _ => 0))), (n44_, .inr (3, [.ref n45_, .int 0])), (n45_, .inl (cI, 80, .inl (fun _ => 0))), (n46_, .inr (5, [.ref n47_, .ref n48_, .int 0, .int 0, .int 0, .int 0, .int (bi false)])), (n47_, .inl (cI, 20, .inl (fun _ => 0))), (n48_, .inl (cI, 20, .inl (fun _ => 0))), (n49_, .inr (10, [.ref n50_, .ref n51_, .ref n52_, .ref n53_, .ref n54_, .int 0, .int 0, .int (bi false), .ref n55_, .int 0])), (n50_, .inl (cJ, 93, .inr (.inl (vp_updL (vp_updL (vp_updL (vp_updL (vp_updL (vp_updL (vp_updL (vp_updL (vp_updL (vp_updL (vp_updL (vp_updL (vp_updL (fun _ => 0) 78 2000) 84 (-1)) 64 100) 65 10) 66 100) 67 5) 68 300) 69 5000) 70 1000) 71 5) 72 5000) 73 20) 74 5000)))), (n51_, .inl (cJ, 93, .inr (.inl (fun _ => 0)))), (n52_, .inl (cJ, 186, .inr (.inl (fun _ => 0)))), (n53_, .inl (cZ, 2, .inl (fun _ => 0))), (n54_, .inl (cI, 80, .inl (fun _ => 0))), (n55_, .inl (cI, 60, .inl (fun _ => 0)))] ++ bxP ((((([]) ++ n7_) ++ n17_) ++ n28_) ++ n39_) z0 z0 z0 z0) H _ := hW
  refine lp_law hx hb hml hown hts hLn hX hbl hbA hK hA hG (Nat.le_of_ble_eq_true rfl) (Nat.le_of_ble_eq_true rfl) (fin_G hx hb hml hr hlocks hbl9 (Nat.le_of_ble_eq_true rfl) (Nat.le_of_ble_eq_true rfl)) (Ln + 1) 0 _ _ _ (by rw [xI0]; omega) (by decide) (wst_mk ?_ hW) hl
  exact ⟨okR_u hq4.1 (fun x hx => by simp [hx]), okC_0 (by decide), okC_0 (by decide), okR_u hq4.2.1 (fun x hx => by simp [hx]), okR_u hq4.2.2.1 (fun x hx => by simp [hx]), okR_u hq4.2.2.2 (fun x hx => by simp [hx]), okC_0 (by decide), okC_0 (by decide), okC_0 (by decide), rel_0, slot_0, slot_0⟩
