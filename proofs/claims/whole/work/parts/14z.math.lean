/-! two rules' common packets, counted in two ways -/
theorem rng_sum (lo hi : Nat) : ∀ n, sumN (fun s => bN (decide (lo ≤ s) && decide (s ≤ hi))) n = min n (hi + 1) - lo
  | 0 => by
    show 0 = _
    omega
  | n + 1 => by
    show sumN (fun s => bN (decide (lo ≤ s) && decide (s ≤ hi))) n + bN (decide (lo ≤ n) && decide (n ≤ hi)) = _
    rw [rng_sum lo hi n]
    by_cases h1 : lo ≤ n
    · by_cases h2 : n ≤ hi
      · rw [decide_eq_true h1, decide_eq_true h2]
        show _ + 1 = _
        omega
      · rw [decide_eq_false h2, Bool.and_false]
        show _ + 0 = _
        omega
    · rw [decide_eq_false h1]
      show _ + 0 = _
      omega
theorem in_two (s f t f2 t2 : Nat) : (inN s f t && inN s f2 t2) = (decide (max f f2 ≤ s) && decide (s ≤ min t t2)) := by
  unfold inN
  rw [Bool.eq_iff_iff, Bool.and_eq_true, Bool.and_eq_true, Bool.and_eq_true, Bool.and_eq_true, decide_eq_true_eq, decide_eq_true_eq, decide_eq_true_eq, decide_eq_true_eq, decide_eq_true_eq, decide_eq_true_eq]
  omega
theorem cn_sum {f t f2 t2 : Nat} (h : t ≤ 31 ∧ t2 ≤ 31) : sumN (fun s => bN (inN s f t && inN s f2 t2)) 32 = cnN f t f2 t2 := by
  rw [sumN_congr 32 (g := fun s => bN (decide (max f f2 ≤ s) && decide (s ≤ min t t2))) (fun s _ => congrArg bN (in_two s f t f2 t2)), rng_sum]
  unfold cnN
  omega
theorem pop_mk2 {a b c0 d0 : Nat} (h : a ≤ 31 ∧ b ≤ 31 ∧ c0 ≤ 31 ∧ d0 ≤ 31) : popI (mkI a b &&& mkI c0 d0) = cnN a b c0 d0 := by
  rw [popI_sum, ← cn_sum ⟨h.2.1, h.2.2.2⟩]
  refine sumN_congr 32 fun i hi => congrArg bN ?_
  have e : bt (mkI a b &&& mkI c0 d0) i = (bt (mkI a b) i && bt (mkI c0 d0) i) := by
    unfold bt
    rw [Int32.toBitVec_and, BitVec.getLsbD_and]
  rw [e, bt_mk h.1 h.2.1 hi, bt_mk h.2.2.1 h.2.2.2 hi]
  rfl
theorem pop_pr : ∀ a b : Fin 16, sumN (fun p => bN (hol a.val p && hol b.val p)) 4 = popI (nI (a.val &&& b.val)) := by decide +kernel
theorem sum_mulL (k : Nat) (g : Nat → Nat) : ∀ n, sumN (fun p => k * g p) n = k * sumN g n
  | 0 => rfl
  | n + 1 => by
    show sumN (fun p => k * g p) n + k * g n = k * (sumN g n + g n)
    rw [sum_mulL k g n, Nat.mul_add]
theorem sum_mulR (k : Nat) (g : Nat → Nat) : ∀ n, sumN (fun p => g p * k) n = sumN g n * k
  | 0 => (Nat.zero_mul k).symm
  | n + 1 => by
    show sumN (fun p => g p * k) n + g n * k = (sumN g n + g n) * k
    rw [sum_mulR k g n, Nat.add_mul]
theorem mt_two (a b : RV) (s p : Nat) : popI (mtI a s p &&& mtI b s p) = bN (inN s (sF a) (sT a) && inN s (sF b) (sT b)) * (bN (hol (pR a) p && hol (pR b) p) * popI (mkI (dF a) (dT a) &&& mkI (dF b) (dT b))) := by
  have z1 : ∀ x : Int32, popI (0 &&& x) = 0 := fun x => by simp [popI_0]
  have z2 : ∀ x : Int32, popI (x &&& 0) = 0 := fun x => by simp [popI_0]
  unfold mtI con
  cases inN s (sF a) (sT a) <;> cases hol (pR a) p <;> cases inN s (sF b) (sT b) <;> cases hol (pR b) p <;> simp [z1, z2, bN, popI_0]
theorem cp_cm2 {r r2 : RV} (h : rvOk r) (h2 : rvOk r2) : cpN r r2 = cmN r r2 := by
  have hv := h
  have hv2 := h2
  unfold rvOk at hv hv2
  unfold cmN cpN
  rw [sum4 (fun s p => popI (mtI r s p &&& mtI r2 s p)) 32]
  rw [sumN_congr 32 (g := fun s => bN (inN s (sF r) (sT r) && inN s (sF r2) (sT r2)) * (popI (nI (pR r &&& pR r2)) * cnN (dF r) (dT r) (dF r2) (dT r2))) (fun s _ => ?_)]
  · rw [sum_mulR, cn_sum (by omega), Nat.mul_assoc, Nat.mul_comm (popI _)]
  · rw [sumN_congr 4 (fun p _ => mt_two r r2 s p), sum_mulL, sum_mulR, pop_pr ⟨pR r, by omega⟩ ⟨pR r2, by omega⟩, pop_mk2 (by omega)]
