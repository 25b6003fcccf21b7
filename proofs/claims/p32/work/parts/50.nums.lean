/-! numbers of both widths, sums -/
theorem tj {x y : Int32} (h : x.toInt = y.toInt) : x = y := Int32.toInt_inj.mp h
theorem tjL {x y : Int64} (h : x.toInt = y.toInt) : x = y := Int64.toInt_inj.mp h
theorem xleL {x y : Int64} : x ≤ y ↔ x.toInt ≤ y.toInt := Int64.le_iff_toInt_le
theorem xltL {x y : Int64} : x < y ↔ x.toInt < y.toInt := Int64.lt_iff_toInt_lt
theorem xnltL {x y : Int64} : ¬ x < y ↔ y.toInt ≤ x.toInt := by rw [xltL]; omega
theorem xnleL {x y : Int64} : ¬ x ≤ y ↔ y.toInt < x.toInt := by rw [xleL]; omega
theorem tL (x : Int32) : x.toInt64.toInt = x.toInt := Int32.toInt_toInt64 x
theorem tI {x : Int64} (h1 : -2147483648 ≤ x.toInt) (h2 : x.toInt < 2147483648) : x.toInt32.toInt = x.toInt := by
  rw [Int64.toInt_toInt32]; exact xbmod h1 h2
theorem tI64 (x : Int32) : x.toInt64.toInt32 = x := by
  have h1 := xrng x
  refine tj ?_
  rw [tI (by rw [tL]; omega) (by rw [tL]; omega), tL]
theorem tL64 {x : Int64} (h1 : -2147483648 ≤ x.toInt) (h2 : x.toInt < 2147483648) : x.toInt32.toInt64 = x := tjL (by rw [tL, tI h1 h2])
theorem xaddL {x y : Int64} (h1 : -9223372036854775808 ≤ x.toInt + y.toInt) (h2 : x.toInt + y.toInt < 9223372036854775808) : (x + y).toInt = x.toInt + y.toInt := by
  rw [Int64.toInt_add, Int.bmod_eq_of_le (by omega) (by omega)]
theorem xsubL {x y : Int64} (h1 : -9223372036854775808 ≤ x.toInt - y.toInt) (h2 : x.toInt - y.toInt < 9223372036854775808) : (x - y).toInt = x.toInt - y.toInt := by
  rw [Int64.toInt_sub, Int.bmod_eq_of_le (by omega) (by omega)]
theorem xmulL {x y : Int64} (h1 : -9223372036854775808 ≤ x.toInt * y.toInt) (h2 : x.toInt * y.toInt < 9223372036854775808) : (x * y).toInt = x.toInt * y.toInt := by
  rw [Int64.toInt_mul, Int.bmod_eq_of_le (by omega) (by omega)]
theorem xL0 : (0 : Int64).toInt = 0 := by decide
theorem xL1 : (1 : Int64).toInt = 1 := by decide
/-- a quotient lies between 0 and what is divided -/
theorem td_pos {x y : Int} (hx : 0 ≤ x) (hy : 1 ≤ y) : 0 ≤ x.tdiv y ∧ x.tdiv y ≤ x := by
  rw [Int.tdiv_eq_ediv_of_nonneg hx]
  exact ⟨Int.ediv_nonneg hx (by omega), Int.ediv_le_self y hx⟩
theorem td_neg {x y : Int} (hx : x ≤ 0) (hy : 1 ≤ y) : x ≤ x.tdiv y ∧ x.tdiv y ≤ 0 := by
  have h := td_pos (x := -x) (y := y) (by omega) hy
  have e : (-x).tdiv y = -(x.tdiv y) := Int.neg_tdiv x y
  rw [e] at h
  omega
theorem td_bd {x y : Int} (hy : 1 ≤ y) : (0 ≤ x → 0 ≤ x.tdiv y ∧ x.tdiv y ≤ x) ∧ (x ≤ 0 → x ≤ x.tdiv y ∧ x.tdiv y ≤ 0) := ⟨fun h => td_pos h hy, fun h => td_neg h hy⟩
theorem xdivI {x y : Int32} (hy : 1 ≤ y.toInt) : (x / y).toInt = x.toInt.tdiv y.toInt := by
  have h := td_bd (x := x.toInt) hy
  have h2 := xrng x
  rw [Int32.toInt_div, xbmod (by omega) (by omega)]
theorem xdivL {x y : Int64} (hy : 1 ≤ y.toInt) : (x / y).toInt = x.toInt.tdiv y.toInt := by
  have h := td_bd (x := x.toInt) hy
  have h2 := xrngL x
  rw [Int64.toInt_div, Int.bmod_eq_of_le (by omega) (by omega)]
/-- the class's division by way of longs is the law's over ints -/
theorem quo_I {x y : Int32} (hy : 1 ≤ y.toInt) : (f_X9_quotient x.toInt64 y.toInt64).toInt32 = x / y := by
  have e1 := xL1
  have hq : (1 : Int64) ≤ y.toInt64 := xleL.mpr (by rw [tL]; omega)
  rw [f_X9_quotient, if_pos hq]
  have h := td_bd (x := x.toInt) hy
  have h2 := xrng x
  have e : (x.toInt64 / y.toInt64).toInt = x.toInt.tdiv y.toInt := by rw [xdivL (by rw [tL]; omega), tL, tL]
  refine tj ?_
  rw [tI (by rw [e]; omega) (by rw [e]; omega), e, xdivI hy]
theorem quo_L {x y : Int64} (hy : 1 ≤ y.toInt) : f_X9_quotient x y = x / y := by
  have e1 := xL1
  rw [f_X9_quotient, if_pos (xleL.mpr (by omega))]
/-- sums -/
def sm (f : Nat → Int) : Nat → Int
  | 0 => 0
  | n + 1 => sm f n + f n
theorem sm_ext {f g : Nat → Int} : ∀ {n : Nat}, (∀ k, k < n → f k = g k) → sm f n = sm g n := by
  intro n
  induction n with
  | zero => intro _; rfl
  | succ n ih =>
    intro h
    show sm f n + f n = sm g n + g n
    rw [ih (fun k hk => h k (by omega)), h n (by omega)]
theorem sm_sub {f g : Nat → Int} : ∀ {n : Nat}, sm (fun k => f k - g k) n = sm f n - sm g n := by
  intro n
  induction n with
  | zero => rfl
  | succ n ih =>
    show sm (fun k => f k - g k) n + (f n - g n) = sm f n + f n - (sm g n + g n)
    rw [ih]; omega
theorem sm_bd {f : Nat → Int} {M : Int} (hM : 0 ≤ M) : ∀ {n : Nat}, (∀ k, k < n → 0 ≤ f k ∧ f k ≤ M) → 0 ≤ sm f n ∧ sm f n ≤ n * M := by
  intro n
  induction n with
  | zero => intro _; exact ⟨Int.le_refl _, by show (0 : Int) ≤ ((0 : Nat) : Int) * M; simp⟩
  | succ n ih =>
    intro h
    have h1 := ih fun k hk => h k (by omega)
    have h2 := h n (by omega)
    have e : ((n + 1 : Nat) : Int) * M = n * M + M := by rw [Int.natCast_add, Int.add_mul]; simp
    show 0 ≤ sm f n + f n ∧ sm f n + f n ≤ ((n + 1 : Nat) : Int) * M
    rw [e]; omega
theorem sm_30 {f : Nat → Int} {n : Nat} (hn : n ≤ 10) (h : ∀ k, k < n → 0 ≤ f k ∧ f k ≤ 3000000) : 0 ≤ sm f n ∧ sm f n ≤ 30000000 := by
  have h1 := sm_bd (M := 3000000) (by decide) h
  have h2 : (n : Int) * 3000000 ≤ 10 * 3000000 := Int.mul_le_mul_of_nonneg_right (by omega) (by decide)
  omega
theorem sm_at {f : Nat → Int} : ∀ {n : Nat}, (∀ k, k < n → 0 ≤ f k) → 0 ≤ sm f n ∧ ∀ k, k < n → f k ≤ sm f n := by
  intro n
  induction n with
  | zero => intro _; exact ⟨Int.le_refl _, fun k hk => absurd hk (Nat.not_lt_zero _)⟩
  | succ n ih =>
    intro h
    have h1 := ih fun k hk => h k (by omega)
    have h2 := h n (by omega)
    refine ⟨?_, fun k hk => ?_⟩
    · show 0 ≤ sm f n + f n; omega
    · show f k ≤ sm f n + f n
      by_cases q : k = n
      · rw [q]; omega
      · have := h1.2 k (by omega); omega
/-- a row turned by one place -/
theorem tel_up {f : Nat → Int} {a : Nat} : ∀ {t : Nat}, a ≤ t → sm (fun k => if a ≤ k then f (k + 1) else f k) t = sm f t + f t - f a := by
  intro t
  induction t with
  | zero =>
    intro h
    have e : a = 0 := by omega
    subst e
    show (0 : Int) = 0 + f 0 - f 0
    omega
  | succ t ih =>
    intro h
    by_cases q : a = t + 1
    · subst q
      have e : sm (fun k => if t + 1 ≤ k then f (k + 1) else f k) (t + 1) = sm f (t + 1) := sm_ext fun k hk => by rw [if_neg (by omega)]
      rw [e]; omega
    · have h1 := ih (by omega)
      show sm (fun k => if a ≤ k then f (k + 1) else f k) t + (if a ≤ t then f (t + 1) else f t) = sm f t + f t + f (t + 1) - f a
      rw [h1, if_pos (by omega)]; omega
def pmU (a t k : Nat) : Nat := if k = t then a else if a ≤ k ∧ k < t then k + 1 else k
def pmD (a t k : Nat) : Nat := if k = t then a else if t < k ∧ k ≤ a then k - 1 else k
theorem sm_U {f : Nat → Int} {a t : Nat} (h : a ≤ t) : ∀ {n : Nat}, t < n → sm (fun k => f (pmU a t k)) n = sm f n := by
  intro n
  induction n with
  | zero => intro q; omega
  | succ n ih =>
    intro q
    show sm (fun k => f (pmU a t k)) n + f (pmU a t n) = sm f n + f n
    by_cases e : t = n
    · subst e
      have h1 : sm (fun k => f (pmU a t k)) t = sm (fun k => if a ≤ k then f (k + 1) else f k) t := sm_ext fun k hk => by
        unfold pmU
        rw [if_neg (by omega)]
        by_cases q2 : a ≤ k
        · rw [if_pos ⟨q2, hk⟩, if_pos q2]
        · rw [if_neg (by omega), if_neg q2]
      have h2 : pmU a t t = a := by unfold pmU; rw [if_pos rfl]
      rw [h1, h2, tel_up h]; omega
    · have h2 : pmU a t n = n := by unfold pmU; rw [if_neg (by omega), if_neg (by omega)]
      rw [ih (by omega), h2]
theorem sm_Dm {f : Nat → Int} {a t : Nat} : ∀ {m : Nat}, t ≤ m → m ≤ a → sm (fun k => f (pmD a t k)) (m + 1) = sm f m + f a := by
  intro m
  induction m with
  | zero =>
    intro h1 h2
    have e : t = 0 := by omega
    subst e
    show (0 : Int) + f (pmD a 0 0) = 0 + f a
    have h3 : pmD a 0 0 = a := by unfold pmD; rw [if_pos rfl]
    rw [h3]
  | succ m ih =>
    intro h1 h2
    show sm (fun k => f (pmD a t k)) (m + 1) + f (pmD a t (m + 1)) = sm f m + f m + f a
    by_cases e : t = m + 1
    · subst e
      have h3 : sm (fun k => f (pmD a (m + 1) k)) (m + 1) = sm f (m + 1) := sm_ext fun k hk => by
        unfold pmD; rw [if_neg (by omega), if_neg (by omega)]
      have h4 : pmD a (m + 1) (m + 1) = a := by unfold pmD; rw [if_pos rfl]
      rw [h3, h4]; rfl
    · have h4 : pmD a t (m + 1) = m := by unfold pmD; rw [if_neg (by omega), if_pos (by omega)]; omega
      rw [ih (by omega) (by omega), h4]; omega
theorem sm_D {f : Nat → Int} {a t : Nat} (h : t ≤ a) : ∀ {n : Nat}, a < n → sm (fun k => f (pmD a t k)) n = sm f n := by
  intro n
  induction n with
  | zero => intro q; omega
  | succ n ih =>
    intro q
    by_cases e : a = n
    · subst e; rw [sm_Dm h (Nat.le_refl _)]; rfl
    · show sm (fun k => f (pmD a t k)) n + f (pmD a t n) = sm f n + f n
      have h2 : pmD a t n = n := by unfold pmD; rw [if_neg (by omega), if_neg (by omega)]
      rw [ih (by omega), h2]
theorem sm_Ut {f : Nat → Int} {a t : Nat} (h : a ≤ t) : sm (fun k => f (pmU a t k)) t = sm f (t + 1) - f a := by
  have h1 : sm (fun k => f (pmU a t k)) t = sm (fun k => if a ≤ k then f (k + 1) else f k) t := sm_ext fun k hk => by
    unfold pmU
    rw [if_neg (by omega)]
    by_cases q2 : a ≤ k
    · rw [if_pos ⟨q2, hk⟩, if_pos q2]
    · rw [if_neg (by omega), if_neg q2]
  rw [h1, tel_up h]; rfl
theorem pmU_lt {a t k n : Nat} (ha : a < n) (ht : t < n) (hk : k < n) : pmU a t k < n := by
  unfold pmU; split; · exact ha
  split <;> omega
theorem pmD_lt {a t k n : Nat} (ha : a < n) (hk : k < n) : pmD a t k < n := by
  unfold pmD; split; · exact ha
  split <;> omega
theorem pmU_inj {a t i j : Nat} (h : a ≤ t) (e : pmU a t i = pmU a t j) : i = j := by
  unfold pmU at e; split at e <;> split at e <;> (try split at e) <;> (try split at e) <;> omega
theorem pmD_inj {a t i j : Nat} (h : t ≤ a) (e : pmD a t i = pmD a t j) : i = j := by
  unfold pmD at e; split at e <;> split at e <;> (try split at e) <;> (try split at e) <;> omega
