/-! the reference's public reading methods -/
theorem dcN_lt (rs : List RV) (pl : Nat) : dcN rs pl < 2 ^ 31 := Nat.lt_of_le_of_lt (sumN_le (c := 32) 128 (fun k _ => popI_le _)) (by decide)
/-- how many packets are permitted -/
def pmT (rs : List RV) : Nat := sumN (fun k => popI (pmI rs (k / 4) (k % 4) (-1))) 128
/-- how many packets are decided in another way -/
def chN (rs rs2 : List RV) : Nat := sumN (fun k => popI (pmI rs (k / 4) (k % 4) (-1) ^^^ pmI rs2 (k / 4) (k % 4) (-1))) 128
theorem fstN_le (P : Nat → Bool) : ∀ n, fstN P n ≤ n
  | 0 => Nat.le_refl 0
  | n + 1 => by
    have h := fstN_le P n
    rw [fstN]
    by_cases h1 : fstN P n < n
    · rw [if_pos h1]; omega
    · rw [if_neg h1]
      cases P n with
      | true => exact Nat.le_succ n
      | false => exact Nat.le_refl _
