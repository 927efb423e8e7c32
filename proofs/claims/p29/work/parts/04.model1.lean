/-! the reference's methods that only read -/
def plI (pl : Int32) (n : Nat) : Bool := inI pl (nI 0) (nI n - nI 1)
theorem popI_0 : popI 0 = 0 := by decide +kernel
theorem and_half (a b : Nat) : (a &&& b) / 2 = a / 2 &&& b / 2 := by
  refine Nat.eq_of_testBit_eq fun i => ?_
  rw [Nat.testBit_div_two, Nat.testBit_and, Nat.testBit_and, Nat.testBit_div_two, Nat.testBit_div_two]
theorem sumN_end {P : Nat → Nat} {q n c : Nat} (h1 : q ≤ n) (h2 : n ≤ q) (h : c = sumN P q) : nI c = nI (sumN P n) := by
  rw [← Nat.le_antisymm h1 h2, h]
theorem fmN_end {rs : List RV} {s d p i : Nat} (h1 : i ≤ rs.length) (h3 : rs.length ≤ i) (h2 : ∀ j, j < i → mbI (gt rs j) s d p = false) : nI i = nI (fmN rs s d p) :=
  congrArg nI (fstN_eq h2 rs.length h1 (Or.inl (Nat.le_antisymm h1 h3))).symm
theorem fmN_hit {rs : List RV} {s d p i : Nat} (h1 : i ≤ rs.length) (h2 : ∀ j, j < i → mbI (gt rs j) s d p = false) (h : mbI (gt rs i) s d p = true) : nI i = nI (fmN rs s d p) :=
  congrArg nI (fstN_eq h2 rs.length h1 (Or.inr h)).symm
