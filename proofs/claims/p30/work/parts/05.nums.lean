/-! numbers, and what a lane's row of boxes must be -/
theorem xrng (x : Int32) : -2147483648 ≤ x.toInt ∧ x.toInt < 2147483648 := by
  have h1 := Int32.le_toInt x
  have h2 := Int32.toInt_lt x
  omega
theorem xbmod {z : Int} (h1 : -2147483648 ≤ z) (h2 : z < 2147483648) : z.bmod (2 ^ 32) = z := by
  rw [Int.bmod_eq_of_le (by omega) (by omega)]
theorem xaddI {x y : Int32} (h1 : -2147483648 ≤ x.toInt + y.toInt) (h2 : x.toInt + y.toInt < 2147483648) : (x + y).toInt = x.toInt + y.toInt := by
  rw [Int32.toInt_add, xbmod h1 h2]
theorem xsubI {x y : Int32} (h1 : -2147483648 ≤ x.toInt - y.toInt) (h2 : x.toInt - y.toInt < 2147483648) : (x - y).toInt = x.toInt - y.toInt := by
  rw [Int32.toInt_sub, xbmod h1 h2]
theorem xmulI {x y : Int32} (h1 : -2147483648 ≤ x.toInt * y.toInt) (h2 : x.toInt * y.toInt < 2147483648) : (x * y).toInt = x.toInt * y.toInt := by
  rw [Int32.toInt_mul, xbmod h1 h2]
theorem xrngL (x : Int64) : -9223372036854775808 ≤ x.toInt ∧ x.toInt < 9223372036854775808 := by
  have h1 := Int64.le_toInt x
  have h2 := Int64.toInt_lt x
  omega
theorem xlt {x y : Int32} : x < y ↔ x.toInt < y.toInt := Int32.lt_iff_toInt_lt
theorem xle {x y : Int32} : x ≤ y ↔ x.toInt ≤ y.toInt := Int32.le_iff_toInt_le
theorem xnlt {x y : Int32} : ¬ x < y ↔ y.toInt ≤ x.toInt := by rw [xlt]; omega
theorem xnle {x y : Int32} : ¬ x ≤ y ↔ y.toInt < x.toInt := by rw [xle]; omega
theorem xI0 : (0 : Int32).toInt = 0 := by decide
theorem xI1 : (1 : Int32).toInt = 1 := by decide
/-- each place of a row names a box of the pool -/
def okR (L : List Nat) (f : Nat → Option Nat) : Prop := ∀ k, k < 10 → ∃ x, x ∈ L ∧ f k = some x
def okC (c : Int32) (n : Int) : Prop := 0 ≤ c.toInt ∧ c.toInt ≤ n
theorem ok_some {L : List Nat} {f : Nat → Option Nat} (h : okR L f) {i : Int32} (hi : vp_in i 10) : ∃ x, f i.toNatClampNeg = some x := by
  obtain ⟨x, -, hx⟩ := h i.toNatClampNeg (Nat.not_le.mp fun q => hi (Or.inr q))
  exact ⟨x, hx⟩
theorem ok_mem {L : List Nat} {f : Nat → Option Nat} (h : okR L f) {i : Int32} (hi : vp_in i 10) : bxa f i.toNatClampNeg ∈ L := by
  obtain ⟨x, h1, hx⟩ := h i.toNatClampNeg (Nat.not_le.mp fun q => hi (Or.inr q))
  rw [bxa, hx]; exact h1
theorem ok_up {L : List Nat} {f : Nat → Option Nat} (h : okR L f) {a j : Nat} (ha : a ∈ L) : okR L (va_up f j (some a)) := by
  intro k hk
  by_cases e : k = j
  · subst e; exact ⟨a, ha, by rw [va_up_self]⟩
  · obtain ⟨x, h1, h2⟩ := h k hk
    exact ⟨x, h1, by rw [va_up_ne _ _ e]; exact h2⟩
theorem in_lt {i n : Int32} {N : Nat} (h0 : 0 ≤ i.toInt) (c : ¬ n ≤ i) (hn : n.toInt ≤ N) : vp_in i N :=
  vp_in_iff.mpr ⟨h0, by have h := xnle.mp c; omega⟩
theorem up_i {i n : Int32} (c : ¬ n ≤ i) : (i + 1).toInt = i.toInt + 1 := by
  have h := xnle.mp c
  have h1 := xrng n
  have h2 := xrng i
  have e := xI1
  rw [xaddI (by omega) (by omega), e]
theorem up_0 {i n : Int32} (h0 : 0 ≤ i.toInt) (c : ¬ n ≤ i) : 0 ≤ (i + 1).toInt := by rw [up_i c]; omega
theorem up_mu {i n : Int32} {k : Nat} (c : ¬ n ≤ i) (h : (n.toInt - i.toInt).toNat < k + 1) : (n.toInt - (i + 1).toInt).toNat < k := by
  have h1 := xnle.mp c
  rw [up_i c]; omega
theorem dn_i {i n : Int32} (c : ¬ i ≤ n) : (i + (-1)).toInt = i.toInt - 1 := by
  have h := xnle.mp c
  have h1 := xrng n
  have h2 := xrng i
  have e : (-1 : Int32).toInt = -1 := by decide
  rw [xaddI (by rw [e]; omega) (by rw [e]; omega), e]; omega
theorem dn_mu {i n : Int32} {k : Nat} (c : ¬ i ≤ n) (h : (i.toInt - n.toInt).toNat < k + 1) : ((i + (-1)).toInt - n.toInt).toNat < k := by
  have h1 := xnle.mp c
  rw [dn_i c]; omega
theorem dn_s {i n : Int32} (c : ¬ i ≤ n) : (i - 1).toInt = i.toInt - 1 := by
  have h := xnle.mp c
  have h1 := xrng n
  have h2 := xrng i
  have e := xI1
  rw [xsubI (by rw [e]; omega) (by rw [e]; omega), e]
theorem m1_i {n : Int32} {N : Int} (h : okC n N) : (n - 1).toInt = n.toInt - 1 := by
  have h1 := xrng n
  have e := xI1
  rw [xsubI (by rw [e]; have := h.1; omega) (by rw [e]; omega), e]
