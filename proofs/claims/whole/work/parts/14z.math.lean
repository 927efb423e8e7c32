/-! one bit less -/
theorem and_half (a b : Nat) : (a &&& b) / 2 = a / 2 &&& b / 2 := by
  refine Nat.eq_of_testBit_eq fun i => ?_
  rw [Nat.testBit_div_two, Nat.testBit_and, Nat.testBit_and, Nat.testBit_div_two, Nat.testBit_div_two]
theorem and_odd (a b : Nat) : (a &&& b) % 2 = if a % 2 = 1 ∧ b % 2 = 1 then 1 else 0 := by
  have h := Nat.and_mod_two_pow (a := a) (b := b) (n := 1)
  rw [Nat.pow_one] at h
  rw [h]
  rcases Nat.mod_two_eq_zero_or_one a with p | p <;> rcases Nat.mod_two_eq_zero_or_one b with q | q <;> rw [p, q] <;> rfl
theorem popN_kern : ∀ (k n : Nat), 0 < n → n < 2 ^ k → popN k (n &&& (n - 1)) + 1 = popN k n
  | 0, n, h, h2 => absurd h (by rw [Nat.pow_zero] at h2; omega)
  | k + 1, n, h, h2 => by
    rw [Nat.pow_succ] at h2
    show (n &&& (n - 1)) % 2 + popN k ((n &&& (n - 1)) / 2) + 1 = n % 2 + popN k (n / 2)
    rw [and_half, and_odd]
    by_cases ho : n % 2 = 1
    · rw [show (n - 1) / 2 = n / 2 from by omega, Nat.and_self, if_neg (by omega), ho]
      omega
    · rw [show (n - 1) / 2 = n / 2 - 1 from by omega, if_neg (by omega), show n % 2 = 0 from by omega]
      have := popN_kern k (n / 2) (by omega) (by omega)
      omega
theorem popI_kern2 {x : Int32} (h : ¬ x = 0) : popI (x &&& (x - nI 1)) + 1 = popI x := by
  unfold popI
  have h0 : 0 < x.toBitVec.toNat := Nat.pos_of_ne_zero fun z => h (Int32.toBitVec_inj.mp (BitVec.eq_of_toNat_eq (by rw [z]; rfl)))
  have h1 := x.toBitVec.isLt
  rw [Int32.toBitVec_and, BitVec.toNat_and, Int32.toBitVec_sub, BitVec.toNat_sub]
  rw [show (nI 1).toBitVec.toNat = 1 from rfl, show (2 ^ 32 - 1 + x.toBitVec.toNat) % 2 ^ 32 = x.toBitVec.toNat - 1 from by omega]
  exact popN_kern 32 _ h0 h1
