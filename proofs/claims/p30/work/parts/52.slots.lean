/-! the slots -/
def slotR (f : Nat → Int64) (b : Bool) (z : Int32) (sf : Nat → Int32) (vM tm lc rc : Int32) : Prop :=
  z = bi b ∧ okC lc 10 ∧ okC rc 12 ∧ (b = true → relM f sf vM tm)
theorem sl_n {a x : Int32} (ha : 0 ≤ a.toInt ∧ a.toInt < 2) (hx : 0 ≤ x.toInt ∧ x.toInt < 93) : (93 * a + x).toNatClampNeg = 93 * a.toInt.toNat + x.toInt.toNat := by
  show (93 * a + x).toInt.toNat = _
  rw [sl_i ha hx]; omega
theorem res_lp {a : Int32} {s : Nat → Int64} (ha : 0 ≤ a.toInt ∧ a.toInt < 2) : ∀ (n : Nat) (xi : Int32) (yf : Nat → Int64), (∀ k, k < xi.toInt.toNat → k < 93 → yf k = s (93 * a.toInt.toNat + k)) → 0 ≤ xi.toInt → ((93 : Int32).toInt - xi.toInt).toNat < n → (∀ k, k < 93 → (f_X10_restore_lp27 a s n xi yf).2 k = s (93 * a.toInt.toNat + k)) ∧ (f_X10_restore_lp27 a s n xi yf).1 = (s (93 * a.toInt.toNat + 77)).toInt32 := by
  intro n
  induction n with
  | zero => intro xi yf _ _ h; exact absurd h (Nat.not_lt_zero _)
  | succ n ih =>
    intro xi yf he h0 hn
    rw [f_X10_restore_lp27]
    by_cases c : 93 ≤ xi
    · rw [if_pos c]
      have h := xle.mp c
      have e : (93 : Int32).toInt = 93 := by decide
      refine ⟨fun k hk => he k (by omega) hk, ?_⟩
      show (yf 77).toInt32 = _
      rw [he 77 (by omega) (by omega)]
    · rw [if_neg c]
      have hx := x93 h0 c
      have hu := up_i c
      refine ih _ _ (fun k hk hk2 => ?_) (up_0 h0 c) (up_mu c hn)
      rw [sl_n ha hx]
      show vp_updL yf xi.toInt.toNat _ k = _
      by_cases q : k = xi.toInt.toNat
      · subst q; rw [uL_eq]
      · rw [uL_ne q]; exact he k (by omega) hk2
theorem sav_lp {a : Int32} {f s : Nat → Int64} {z : Nat → Int32} (ha : 0 ≤ a.toInt ∧ a.toInt < 2) : ∀ (n : Nat) (xi : Int32) (yg : Nat → Int64), (∀ k, yg k = if 93 * a.toInt.toNat ≤ k ∧ k < 93 * a.toInt.toNat + xi.toInt.toNat then f (k - 93 * a.toInt.toNat) else s k) → 0 ≤ xi.toInt → xi.toInt ≤ 93 → ((93 : Int32).toInt - xi.toInt).toNat < n → (∀ k, (f_X10_save_lp15 a f z n xi yg).2.1 k = if 93 * a.toInt.toNat ≤ k ∧ k < 93 * a.toInt.toNat + 93 then f (k - 93 * a.toInt.toNat) else s k) ∧ (f_X10_save_lp15 a f z n xi yg).1 = (f 77).toInt32 ∧ (f_X10_save_lp15 a f z n xi yg).2.2 = upd z a.toNatClampNeg 1 := by
  intro n
  induction n with
  | zero => intro xi yg _ _ _ h; exact absurd h (Nat.not_lt_zero _)
  | succ n ih =>
    intro xi yg he h0 h9 hn
    rw [f_X10_save_lp15]
    by_cases c : 93 ≤ xi
    · rw [if_pos c]
      have h := xle.mp c
      have e : (93 : Int32).toInt = 93 := by decide
      have e2 : xi.toInt.toNat = 93 := by omega
      rw [e2] at he
      exact ⟨he, rfl, rfl⟩
    · rw [if_neg c]
      have hx := x93 h0 c
      have hu := up_i c
      refine ih _ _ (fun k => ?_) (up_0 h0 c) (by omega) (up_mu c hn)
      rw [sl_n ha hx]
      by_cases q : k = 93 * a.toInt.toNat + xi.toInt.toNat
      · rw [q, uL_eq, if_pos (by omega)]
        show f xi.toInt.toNat = _
        congr 1; omega
      · rw [uL_ne q, he k]
        by_cases q2 : 93 * a.toInt.toNat ≤ k ∧ k < 93 * a.toInt.toNat + xi.toInt.toNat
        · rw [if_pos q2, if_pos (by omega)]
        · rw [if_neg q2, if_neg (by omega)]
theorem sav_f {a : Int32} {f s : Nat → Int64} {z : Nat → Int32} (ha : 0 ≤ a.toInt ∧ a.toInt < 2) (c : f_X10_in a.toInt64 0 1 = true) : (∀ k, (f_X10_save a f s z).2.1 k = if 93 * a.toInt.toNat ≤ k ∧ k < 93 * a.toInt.toNat + 93 then f (k - 93 * a.toInt.toNat) else s k) ∧ (f_X10_save a f s z).1 = (f 77).toInt32 ∧ (f_X10_save a f s z).2.2 = upd z a.toNatClampNeg 1 := by
  unfold f_X10_save
  rw [if_pos c]
  refine sav_lp ha _ _ _ (fun k => ?_) (by decide) (by decide) (Nat.lt_succ_self _)
  rw [if_neg (by rw [xI0]; omega)]
theorem relM_hi {f : Nat → Int64} {sf : Nat → Int32} {vM tm : Int32} (h : relM f sf vM tm) : (f 77).toInt32 = tm := by
  rw [h.2.2.2.1, tI64]
theorem cpy_k {f g : Nat → Int32} {k : Nat} (hk : k < 11) : va_cpy f g 0 0 11 k = f k := by
  unfold va_cpy
  rw [if_pos (by omega)]
  congr 1; omega
theorem bi_1 {b : Bool} : bi b = 0 ↔ ¬ b = true := by cases b <;> decide

theorem st_save {f s : Nat → Int64} {z : Nat → Int32} {a : Int32} {tm : Int32} {k1 : Int64} {k2 : Int64} {k3 : Int64} {k4 : Int64} {k5 : Int64} {sf : Nat → Int32} {lc : Int32} {lr : Nat → Option Nat} {vT : Int32} {vG : Int64} {vM : Int32} {vO : Bool} {vN : Int32} {vD : Bool} {vA : Int32} {rc : Int32} {rl : Int32} {rm : Int32} {rd : Nat → Int32} {ro : Nat → Int32} {fu : Bool} {tmu : Int32} {k1u : Int64} {k2u : Int64} {k3u : Int64} {k4u : Int64} {k5u : Int64} {sfu : Nat → Int32} {lcu : Int32} {lru : Nat → Option Nat} {vTu : Int32} {vGu : Int64} {vMu : Int32} {vOu : Bool} {vNu : Int32} {vDu : Bool} {vAu : Int32} {rcu : Int32} {rlu : Int32} {rmu : Int32} {rdu : Nat → Int32} {rou : Nat → Int32} {fw : Bool} {tmw : Int32} {k1w : Int64} {k2w : Int64} {k3w : Int64} {k4w : Int64} {k5w : Int64} {sfw : Nat → Int32} {lcw : Int32} {lrw : Nat → Option Nat} {vTw : Int32} {vGw : Int64} {vMw : Int32} {vOw : Bool} {vNw : Int32} {vDw : Bool} {vAw : Int32} {rcw : Int32} {rlw : Int32} {rmw : Int32} {rdw : Nat → Int32} {row : Nat → Int32} {qi : Nat → Int32} {qt : Nat → Int32} {qc : Nat → Int32} {qp : Nat → Int32} (h : relM f sf vM tm) (hlc : okC lc 10) (hrc : okC rc 12) (hu : slotR s fu (z 0) sfu vMu tmu lcu rcu) (hw : slotR (fun j => s (93 + j)) fw (z 1) sfw vMw tmw lcw rcw) : (f_X9_save a tm k1 k2 k3 k4 k5 sf lc lr vT vG vM vO vN vD vA rc rl rm rd ro fu tmu k1u k2u k3u k4u k5u sfu lcu lru vTu vGu vMu vOu vNu vDu vAu rcu rlu rmu rdu rou fw tmw k1w k2w k3w k4w k5w sfw lcw lrw vTw vGw vMw vOw vNw vDw vAw rcw rlw rmw rdw row qi qt qc qp).1 = (f_X10_save a f s z).1 ∧ slotR (f_X10_save a f s z).2.1 (f_X9_save a tm k1 k2 k3 k4 k5 sf lc lr vT vG vM vO vN vD vA rc rl rm rd ro fu tmu k1u k2u k3u k4u k5u sfu lcu lru vTu vGu vMu vOu vNu vDu vAu rcu rlu rmu rdu rou fw tmw k1w k2w k3w k4w k5w sfw lcw lrw vTw vGw vMw vOw vNw vDw vAw rcw rlw rmw rdw row qi qt qc qp).2.1 ((f_X10_save a f s z).2.2 0) (f_X9_save a tm k1 k2 k3 k4 k5 sf lc lr vT vG vM vO vN vD vA rc rl rm rd ro fu tmu k1u k2u k3u k4u k5u sfu lcu lru vTu vGu vMu vOu vNu vDu vAu rcu rlu rmu rdu rou fw tmw k1w k2w k3w k4w k5w sfw lcw lrw vTw vGw vMw vOw vNw vDw vAw rcw rlw rmw rdw row qi qt qc qp).2.2.2.2.2.2.2.2.1 (f_X9_save a tm k1 k2 k3 k4 k5 sf lc lr vT vG vM vO vN vD vA rc rl rm rd ro fu tmu k1u k2u k3u k4u k5u sfu lcu lru vTu vGu vMu vOu vNu vDu vAu rcu rlu rmu rdu rou fw tmw k1w k2w k3w k4w k5w sfw lcw lrw vTw vGw vMw vOw vNw vDw vAw rcw rlw rmw rdw row qi qt qc qp).2.2.2.2.2.2.2.2.2.2.2.2.1 (f_X9_save a tm k1 k2 k3 k4 k5 sf lc lr vT vG vM vO vN vD vA rc rl rm rd ro fu tmu k1u k2u k3u k4u k5u sfu lcu lru vTu vGu vMu vOu vNu vDu vAu rcu rlu rmu rdu rou fw tmw k1w k2w k3w k4w k5w sfw lcw lrw vTw vGw vMw vOw vNw vDw vAw rcw rlw rmw rdw row qi qt qc qp).2.2.1 (f_X9_save a tm k1 k2 k3 k4 k5 sf lc lr vT vG vM vO vN vD vA rc rl rm rd ro fu tmu k1u k2u k3u k4u k5u sfu lcu lru vTu vGu vMu vOu vNu vDu vAu rcu rlu rmu rdu rou fw tmw k1w k2w k3w k4w k5w sfw lcw lrw vTw vGw vMw vOw vNw vDw vAw rcw rlw rmw rdw row qi qt qc qp).2.2.2.2.2.2.2.2.2.1 (f_X9_save a tm k1 k2 k3 k4 k5 sf lc lr vT vG vM vO vN vD vA rc rl rm rd ro fu tmu k1u k2u k3u k4u k5u sfu lcu lru vTu vGu vMu vOu vNu vDu vAu rcu rlu rmu rdu rou fw tmw k1w k2w k3w k4w k5w sfw lcw lrw vTw vGw vMw vOw vNw vDw vAw rcw rlw rmw rdw row qi qt qc qp).2.2.2.2.2.2.2.2.2.2.2.2.2.2.2.2.2.1 ∧ slotR (fun j => (f_X10_save a f s z).2.1 (93 + j)) (f_X9_save a tm k1 k2 k3 k4 k5 sf lc lr vT vG vM vO vN vD vA rc rl rm rd ro fu tmu k1u k2u k3u k4u k5u sfu lcu lru vTu vGu vMu vOu vNu vDu vAu rcu rlu rmu rdu rou fw tmw k1w k2w k3w k4w k5w sfw lcw lrw vTw vGw vMw vOw vNw vDw vAw rcw rlw rmw rdw row qi qt qc qp).2.2.2.2.2.2.2.2.2.2.2.2.2.2.2.2.2.2.2.2.2.2.1 ((f_X10_save a f s z).2.2 1) (f_X9_save a tm k1 k2 k3 k4 k5 sf lc lr vT vG vM vO vN vD vA rc rl rm rd ro fu tmu k1u k2u k3u k4u k5u sfu lcu lru vTu vGu vMu vOu vNu vDu vAu rcu rlu rmu rdu rou fw tmw k1w k2w k3w k4w k5w sfw lcw lrw vTw vGw vMw vOw vNw vDw vAw rcw rlw rmw rdw row qi qt qc qp).2.2.2.2.2.2.2.2.2.2.2.2.2.2.2.2.2.2.2.2.2.2.2.2.2.2.2.2.2.1 (f_X9_save a tm k1 k2 k3 k4 k5 sf lc lr vT vG vM vO vN vD vA rc rl rm rd ro fu tmu k1u k2u k3u k4u k5u sfu lcu lru vTu vGu vMu vOu vNu vDu vAu rcu rlu rmu rdu rou fw tmw k1w k2w k3w k4w k5w sfw lcw lrw vTw vGw vMw vOw vNw vDw vAw rcw rlw rmw rdw row qi qt qc qp).2.2.2.2.2.2.2.2.2.2.2.2.2.2.2.2.2.2.2.2.2.2.2.2.2.2.2.2.2.2.2.2.2.1 (f_X9_save a tm k1 k2 k3 k4 k5 sf lc lr vT vG vM vO vN vD vA rc rl rm rd ro fu tmu k1u k2u k3u k4u k5u sfu lcu lru vTu vGu vMu vOu vNu vDu vAu rcu rlu rmu rdu rou fw tmw k1w k2w k3w k4w k5w sfw lcw lrw vTw vGw vMw vOw vNw vDw vAw rcw rlw rmw rdw row qi qt qc qp).2.2.2.2.2.2.2.2.2.2.2.2.2.2.2.2.2.2.2.2.2.2.2.1 (f_X9_save a tm k1 k2 k3 k4 k5 sf lc lr vT vG vM vO vN vD vA rc rl rm rd ro fu tmu k1u k2u k3u k4u k5u sfu lcu lru vTu vGu vMu vOu vNu vDu vAu rcu rlu rmu rdu rou fw tmw k1w k2w k3w k4w k5w sfw lcw lrw vTw vGw vMw vOw vNw vDw vAw rcw rlw rmw rdw row qi qt qc qp).2.2.2.2.2.2.2.2.2.2.2.2.2.2.2.2.2.2.2.2.2.2.2.2.2.2.2.2.2.2.1 (f_X9_save a tm k1 k2 k3 k4 k5 sf lc lr vT vG vM vO vN vD vA rc rl rm rd ro fu tmu k1u k2u k3u k4u k5u sfu lcu lru vTu vGu vMu vOu vNu vDu vAu rcu rlu rmu rdu rou fw tmw k1w k2w k3w k4w k5w sfw lcw lrw vTw vGw vMw vOw vNw vDw vAw rcw rlw rmw rdw row qi qt qc qp).2.2.2.2.2.2.2.2.2.2.2.2.2.2.2.2.2.2.2.2.2.2.2.2.2.2.2.2.2.2.2.2.2.2.2.2.2.2.1 := by
  have e : (f_X9_within a 0 1 = true) = (f_X10_in a.toInt64 0 1 = true) := within_in
  by_cases c : f_X10_in a.toInt64 0 1 = true
  · have ha := slot_in c
    obtain ⟨s1, s2, s3⟩ := sav_f (f := f) (s := s) (z := z) ha c
    by_cases ca : a = 0
    · have hF : f_X9_save a tm k1 k2 k3 k4 k5 sf lc lr vT vG vM vO vN vD vA rc rl rm rd ro fu tmu k1u k2u k3u k4u k5u sfu lcu lru vTu vGu vMu vOu vNu vDu vAu rcu rlu rmu rdu rou fw tmw k1w k2w k3w k4w k5w sfw lcw lrw vTw vGw vMw vOw vNw vDw vAw rcw rlw rmw rdw row qi qt qc qp = f_X9_save_k1 tm fw tmw k1w k2w k3w k4w k5w sfw lcw vTw vGw vMw vOw vNw vDw vAw rcw rlw rmw rdw row (f_X8_becomeLike sfu lru rdu rou tm k1 k2 k3 k4 k5 sf lc lr vT vG vM vO vN vD vA rc rl rm rd ro qi qt qc qp) := by
        rw [f_X9_save, if_pos (e.mpr c), if_pos ca]
      rw [hF]
      subst ca
      have e0 : (0 : Int32).toInt.toNat = 0 := by decide
      rw [e0] at s1
      refine ⟨by rw [s2]; exact (relM_hi h).symm, ⟨by rw [s3]; rfl, ?_, hrc, fun _ => ?_⟩, ⟨by rw [s3]; exact hw.1, hw.2.1, hw.2.2.1, fun q => ?_⟩⟩
      · show okC (f_X8_becomeLike sfu lru rdu rou tm k1 k2 k3 k4 k5 sf lc lr vT vG vM vO vN vD vA rc rl rm rd ro qi qt qc qp).2.2.2.2.2.2.2.1 10
        rw [bl_lc rfl]; exact hlc
      · refine relM_93 h (fun k hk => ?_) (fun k hk => cpy_k hk)
        rw [s1, if_pos (by omega)]
        congr 1
      · refine relM_93 (hw.2.2.2 q) (fun k hk => ?_) (fun _ _ => rfl)
        show (f_X10_save 0 f s z).2.1 (93 + k) = _
        rw [s1, if_neg (by omega)]
    · have hF : f_X9_save a tm k1 k2 k3 k4 k5 sf lc lr vT vG vM vO vN vD vA rc rl rm rd ro fu tmu k1u k2u k3u k4u k5u sfu lcu lru vTu vGu vMu vOu vNu vDu vAu rcu rlu rmu rdu rou fw tmw k1w k2w k3w k4w k5w sfw lcw lrw vTw vGw vMw vOw vNw vDw vAw rcw rlw rmw rdw row qi qt qc qp = f_X9_save_k2 tm fu tmu k1u k2u k3u k4u k5u sfu lcu vTu vGu vMu vOu vNu vDu vAu rcu rlu rmu rdu rou (f_X8_becomeLike sfw lrw rdw row tm k1 k2 k3 k4 k5 sf lc lr vT vG vM vO vN vD vA rc rl rm rd ro qi qt qc qp) := by
        rw [f_X9_save, if_pos (e.mpr c), if_neg ca]
      rw [hF]
      have ca2 : a.toInt ≠ 0 := fun q => ca (tj (q.trans xI0.symm))
      obtain rfl : a = 1 := tj (by rw [xI1]; omega)
      have e0 : (1 : Int32).toInt.toNat = 1 := by decide
      rw [e0] at s1
      refine ⟨by rw [s2]; exact (relM_hi h).symm, ⟨by rw [s3]; exact hu.1, hu.2.1, hu.2.2.1, fun q => ?_⟩, ⟨by rw [s3]; rfl, ?_, hrc, fun _ => ?_⟩⟩
      · refine relM_93 (hu.2.2.2 q) (fun k hk => ?_) (fun _ _ => rfl)
        rw [s1, if_neg (by omega)]
      · show okC (f_X8_becomeLike sfw lrw rdw row tm k1 k2 k3 k4 k5 sf lc lr vT vG vM vO vN vD vA rc rl rm rd ro qi qt qc qp).2.2.2.2.2.2.2.1 10
        rw [bl_lc rfl]; exact hlc
      · refine relM_93 h (fun k hk => ?_) (fun k hk => cpy_k hk)
        show (f_X10_save 1 f s z).2.1 (93 + k) = _
        rw [s1, if_pos (by omega)]
        congr 1; omega
  · have hF : f_X9_save a tm k1 k2 k3 k4 k5 sf lc lr vT vG vM vO vN vD vA rc rl rm rd ro fu tmu k1u k2u k3u k4u k5u sfu lcu lru vTu vGu vMu vOu vNu vDu vAu rcu rlu rmu rdu rou fw tmw k1w k2w k3w k4w k5w sfw lcw lrw vTw vGw vMw vOw vNw vDw vAw rcw rlw rmw rdw row qi qt qc qp = (-2, fu, tmu, k1u, k2u, k3u, k4u, k5u, sfu, lcu, vTu, vGu, vMu, vOu, vNu, vDu, vAu, rcu, rlu, rmu, rdu, rou, fw, tmw, k1w, k2w, k3w, k4w, k5w, sfw, lcw, vTw, vGw, vMw, vOw, vNw, vDw, vAw, rcw, rlw, rmw, rdw, row, qi, qt, qc, qp) := by
      rw [f_X9_save, if_neg (fun q => c (e.mp q))]
    have hG : f_X10_save a f s z = (-2, s, z) := by rw [f_X10_save, if_neg c]
    rw [hF, hG]
    exact ⟨rfl, hu, hw⟩

theorem st_restore {f s : Nat → Int64} {z : Nat → Int32} {a : Int32} {tm : Int32} {k1 : Int64} {k2 : Int64} {k3 : Int64} {k4 : Int64} {k5 : Int64} {sf : Nat → Int32} {lc : Int32} {lr : Nat → Option Nat} {vT : Int32} {vG : Int64} {vM : Int32} {vO : Bool} {vN : Int32} {vD : Bool} {vA : Int32} {rc : Int32} {rl : Int32} {rm : Int32} {rd : Nat → Int32} {ro : Nat → Int32} {fu : Bool} {tmu : Int32} {k1u : Int64} {k2u : Int64} {k3u : Int64} {k4u : Int64} {k5u : Int64} {sfu : Nat → Int32} {lcu : Int32} {lru : Nat → Option Nat} {vTu : Int32} {vGu : Int64} {vMu : Int32} {vOu : Bool} {vNu : Int32} {vDu : Bool} {vAu : Int32} {rcu : Int32} {rlu : Int32} {rmu : Int32} {rdu : Nat → Int32} {rou : Nat → Int32} {fw : Bool} {tmw : Int32} {k1w : Int64} {k2w : Int64} {k3w : Int64} {k4w : Int64} {k5w : Int64} {sfw : Nat → Int32} {lcw : Int32} {lrw : Nat → Option Nat} {vTw : Int32} {vGw : Int64} {vMw : Int32} {vOw : Bool} {vNw : Int32} {vDw : Bool} {vAw : Int32} {rcw : Int32} {rlw : Int32} {rmw : Int32} {rdw : Nat → Int32} {row : Nat → Int32} {qi : Nat → Int32} {qt : Nat → Int32} {qc : Nat → Int32} {qp : Nat → Int32} (h : relM f sf vM tm) (hlc : okC lc 10) (hrc : okC rc 12) (hu : slotR s fu (z 0) sfu vMu tmu lcu rcu) (hw : slotR (fun j => s (93 + j)) fw (z 1) sfw vMw tmw lcw rcw) : (f_X9_restore a tm k1 k2 k3 k4 k5 sf lc lr vT vG vM vO vN vD vA rc rl rm rd ro fu tmu k1u k2u k3u k4u k5u sfu lcu lru vTu vGu vMu vOu vNu vDu vAu rcu rlu rmu rdu rou fw tmw k1w k2w k3w k4w k5w sfw lcw lrw vTw vGw vMw vOw vNw vDw vAw rcw rlw rmw rdw row qi qt qc qp).1 = (f_X10_restore a f s z).1 ∧ relM (f_X10_restore a f s z).2 (f_X9_restore a tm k1 k2 k3 k4 k5 sf lc lr vT vG vM vO vN vD vA rc rl rm rd ro fu tmu k1u k2u k3u k4u k5u sfu lcu lru vTu vGu vMu vOu vNu vDu vAu rcu rlu rmu rdu rou fw tmw k1w k2w k3w k4w k5w sfw lcw lrw vTw vGw vMw vOw vNw vDw vAw rcw rlw rmw rdw row qi qt qc qp).2.2.2.2.2.2.2.1 (f_X9_restore a tm k1 k2 k3 k4 k5 sf lc lr vT vG vM vO vN vD vA rc rl rm rd ro fu tmu k1u k2u k3u k4u k5u sfu lcu lru vTu vGu vMu vOu vNu vDu vAu rcu rlu rmu rdu rou fw tmw k1w k2w k3w k4w k5w sfw lcw lrw vTw vGw vMw vOw vNw vDw vAw rcw rlw rmw rdw row qi qt qc qp).2.2.2.2.2.2.2.2.2.2.2.1 (f_X9_restore a tm k1 k2 k3 k4 k5 sf lc lr vT vG vM vO vN vD vA rc rl rm rd ro fu tmu k1u k2u k3u k4u k5u sfu lcu lru vTu vGu vMu vOu vNu vDu vAu rcu rlu rmu rdu rou fw tmw k1w k2w k3w k4w k5w sfw lcw lrw vTw vGw vMw vOw vNw vDw vAw rcw rlw rmw rdw row qi qt qc qp).2.1 ∧ okC (f_X9_restore a tm k1 k2 k3 k4 k5 sf lc lr vT vG vM vO vN vD vA rc rl rm rd ro fu tmu k1u k2u k3u k4u k5u sfu lcu lru vTu vGu vMu vOu vNu vDu vAu rcu rlu rmu rdu rou fw tmw k1w k2w k3w k4w k5w sfw lcw lrw vTw vGw vMw vOw vNw vDw vAw rcw rlw rmw rdw row qi qt qc qp).2.2.2.2.2.2.2.2.1 10 ∧ okC (f_X9_restore a tm k1 k2 k3 k4 k5 sf lc lr vT vG vM vO vN vD vA rc rl rm rd ro fu tmu k1u k2u k3u k4u k5u sfu lcu lru vTu vGu vMu vOu vNu vDu vAu rcu rlu rmu rdu rou fw tmw k1w k2w k3w k4w k5w sfw lcw lrw vTw vGw vMw vOw vNw vDw vAw rcw rlw rmw rdw row qi qt qc qp).2.2.2.2.2.2.2.2.2.2.2.2.2.2.2.2.1 12 := by
  have e : (f_X9_within a 0 1 = true) = (f_X10_in a.toInt64 0 1 = true) := within_in
  by_cases c : f_X10_in a.toInt64 0 1 = true
  · have ha := slot_in c
    have hG0 : ∀ q : ¬ z a.toNatClampNeg = 0, (∀ k, k < 93 → (f_X10_restore a f s z).2 k = s (93 * a.toInt.toNat + k)) ∧ (f_X10_restore a f s z).1 = (s (93 * a.toInt.toNat + 77)).toInt32 := fun q => by
      rw [f_X10_restore, if_pos c, if_neg q]
      exact res_lp ha _ _ _ (fun k hk => by rw [xI0] at hk; omega) (by decide) (Nat.lt_succ_self _)
    have hG1 : z a.toNatClampNeg = 0 → f_X10_restore a f s z = (-5, f) := fun q => by rw [f_X10_restore, if_pos c, if_pos q]
    by_cases ca : a = 0
    · subst ca
      have e0 : (0 : Int32).toInt.toNat = 0 := by decide
      rw [e0] at hG0
      by_cases cf : fu = true
      · have hF : f_X9_restore 0 tm k1 k2 k3 k4 k5 sf lc lr vT vG vM vO vN vD vA rc rl rm rd ro fu tmu k1u k2u k3u k4u k5u sfu lcu lru vTu vGu vMu vOu vNu vDu vAu rcu rlu rmu rdu rou fw tmw k1w k2w k3w k4w k5w sfw lcw lrw vTw vGw vMw vOw vNw vDw vAw rcw rlw rmw rdw row qi qt qc qp = f_X9_restore_k1 (f_X8_becomeLike sf lr rd ro tmu k1u k2u k3u k4u k5u sfu lcu lru vTu vGu vMu vOu vNu vDu vAu rcu rlu rmu rdu rou qi qt qc qp) := by
          rw [f_X9_restore, if_pos (e.mpr c), if_pos rfl, if_pos cf]
        obtain ⟨g1, g2⟩ := hG0 (show ¬ z 0 = 0 by rw [hu.1]; exact fun q => bi_1.mp q cf)
        rw [hF]
        have hr := hu.2.2.2 cf
        refine ⟨?_, relM_93 hr (fun k hk => by rw [g1 k hk]; congr 1; omega) (fun k hk => cpy_k hk), ?_, hu.2.2.1⟩
        · rw [g2]; exact (relM_hi hr).symm
        · show okC (f_X8_becomeLike sf lr rd ro tmu k1u k2u k3u k4u k5u sfu lcu lru vTu vGu vMu vOu vNu vDu vAu rcu rlu rmu rdu rou qi qt qc qp).2.2.2.2.2.2.2.1 10
          rw [bl_lc rfl]; exact hu.2.1
      · have hF : f_X9_restore 0 tm k1 k2 k3 k4 k5 sf lc lr vT vG vM vO vN vD vA rc rl rm rd ro fu tmu k1u k2u k3u k4u k5u sfu lcu lru vTu vGu vMu vOu vNu vDu vAu rcu rlu rmu rdu rou fw tmw k1w k2w k3w k4w k5w sfw lcw lrw vTw vGw vMw vOw vNw vDw vAw rcw rlw rmw rdw row qi qt qc qp = (-5, tm, k1, k2, k3, k4, k5, sf, lc, vT, vG, vM, vO, vN, vD, vA, rc, rl, rm, rd, ro, qi, qt, qc, qp) := by
          rw [f_X9_restore, if_pos (e.mpr c), if_pos rfl, if_neg cf]
        rw [hF, hG1 (show z 0 = 0 by rw [hu.1]; exact bi_1.mpr cf)]
        exact ⟨rfl, h, hlc, hrc⟩
    · have ca2 : a.toInt ≠ 0 := fun q => ca (tj (q.trans xI0.symm))
      obtain rfl : a = 1 := tj (by rw [xI1]; omega)
      have e0 : (1 : Int32).toInt.toNat = 1 := by decide
      rw [e0] at hG0
      by_cases cf : fw = true
      · have hF : f_X9_restore 1 tm k1 k2 k3 k4 k5 sf lc lr vT vG vM vO vN vD vA rc rl rm rd ro fu tmu k1u k2u k3u k4u k5u sfu lcu lru vTu vGu vMu vOu vNu vDu vAu rcu rlu rmu rdu rou fw tmw k1w k2w k3w k4w k5w sfw lcw lrw vTw vGw vMw vOw vNw vDw vAw rcw rlw rmw rdw row qi qt qc qp = f_X9_restore_k2 (f_X8_becomeLike sf lr rd ro tmw k1w k2w k3w k4w k5w sfw lcw lrw vTw vGw vMw vOw vNw vDw vAw rcw rlw rmw rdw row qi qt qc qp) := by
          rw [f_X9_restore, if_pos (e.mpr c), if_neg ca, if_pos cf]
        obtain ⟨g1, g2⟩ := hG0 (show ¬ z 1 = 0 by rw [hw.1]; exact fun q => bi_1.mp q cf)
        rw [hF]
        have hr := hw.2.2.2 cf
        refine ⟨?_, relM_93 hr (fun k hk => by rw [g1 k hk]) (fun k hk => cpy_k hk), ?_, hw.2.2.1⟩
        · rw [g2]; exact (relM_hi hr).symm
        · show okC (f_X8_becomeLike sf lr rd ro tmw k1w k2w k3w k4w k5w sfw lcw lrw vTw vGw vMw vOw vNw vDw vAw rcw rlw rmw rdw row qi qt qc qp).2.2.2.2.2.2.2.1 10
          rw [bl_lc rfl]; exact hw.2.1
      · have hF : f_X9_restore 1 tm k1 k2 k3 k4 k5 sf lc lr vT vG vM vO vN vD vA rc rl rm rd ro fu tmu k1u k2u k3u k4u k5u sfu lcu lru vTu vGu vMu vOu vNu vDu vAu rcu rlu rmu rdu rou fw tmw k1w k2w k3w k4w k5w sfw lcw lrw vTw vGw vMw vOw vNw vDw vAw rcw rlw rmw rdw row qi qt qc qp = (-5, tm, k1, k2, k3, k4, k5, sf, lc, vT, vG, vM, vO, vN, vD, vA, rc, rl, rm, rd, ro, qi, qt, qc, qp) := by
          rw [f_X9_restore, if_pos (e.mpr c), if_neg ca, if_neg cf]
        rw [hF, hG1 (show z 1 = 0 by rw [hw.1]; exact bi_1.mpr cf)]
        exact ⟨rfl, h, hlc, hrc⟩
  · have hF : f_X9_restore a tm k1 k2 k3 k4 k5 sf lc lr vT vG vM vO vN vD vA rc rl rm rd ro fu tmu k1u k2u k3u k4u k5u sfu lcu lru vTu vGu vMu vOu vNu vDu vAu rcu rlu rmu rdu rou fw tmw k1w k2w k3w k4w k5w sfw lcw lrw vTw vGw vMw vOw vNw vDw vAw rcw rlw rmw rdw row qi qt qc qp = (-2, tm, k1, k2, k3, k4, k5, sf, lc, vT, vG, vM, vO, vN, vD, vA, rc, rl, rm, rd, ro, qi, qt, qc, qp) := by
      rw [f_X9_restore, if_neg (fun q => c (e.mp q))]
    have hG : f_X10_restore a f s z = (-2, f) := by rw [f_X10_restore, if_neg c]
    rw [hF, hG]
    exact ⟨rfl, h, hlc, hrc⟩
