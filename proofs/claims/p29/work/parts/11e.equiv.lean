/-! what the class asks of two rules, and what the words ask, is the same -/
theorem popN_zero : ∀ k, popN k 0 = 0
  | 0 => rfl
  | k + 1 => by rw [popN, Nat.zero_div, popN_zero k]
theorem rng_sum (lo hi : Nat) : ∀ n, sumN (fun s => bN (decide (lo ≤ s) && decide (s ≤ hi))) n = min n (hi + 1) - lo
  | 0 => by
    show 0 = _
    omega
  | n + 1 => by
    show sumN (fun s => bN (decide (lo ≤ s) && decide (s ≤ hi))) n + bN (decide (lo ≤ n) && decide (n ≤ hi)) = _
    rw [rng_sum lo hi n]
    by_cases h1 : lo ≤ n
    · by_cases h2 : n ≤ hi
      · rw [decide_eq_true h1, decide_eq_true h2]
        show _ + 1 = _
        omega
      · rw [decide_eq_false h2, Bool.and_false]
        show _ + 0 = _
        omega
    · rw [decide_eq_false h1]
      show _ + 0 = _
      omega
theorem in_two (s f t f2 t2 : Nat) : (inN s f t && inN s f2 t2) = (decide (max f f2 ≤ s) && decide (s ≤ min t t2)) := by
  unfold inN
  rw [Bool.eq_iff_iff, Bool.and_eq_true, Bool.and_eq_true, Bool.and_eq_true, Bool.and_eq_true, decide_eq_true_eq, decide_eq_true_eq, decide_eq_true_eq, decide_eq_true_eq, decide_eq_true_eq, decide_eq_true_eq]
  omega
theorem cn_sum {f t f2 t2 : Nat} (h : t ≤ 31 ∧ t2 ≤ 31) : sumN (fun s => bN (inN s f t && inN s f2 t2)) 32 = cnN f t f2 t2 := by
  rw [sumN_congr 32 (g := fun s => bN (decide (max f f2 ≤ s) && decide (s ≤ min t t2))) (fun s _ => congrArg bN (in_two s f t f2 t2)), rng_sum]
  unfold cnN
  omega
theorem pop_mk2 {a b c0 d0 : Nat} (h : a ≤ 31 ∧ b ≤ 31 ∧ c0 ≤ 31 ∧ d0 ≤ 31) : popI (mkI a b &&& mkI c0 d0) = cnN a b c0 d0 := by
  rw [popI_sum, ← cn_sum ⟨h.2.1, h.2.2.2⟩]
  refine sumN_congr 32 fun i hi => congrArg bN ?_
  have e : bt (mkI a b &&& mkI c0 d0) i = (bt (mkI a b) i && bt (mkI c0 d0) i) := by
    unfold bt
    rw [Int32.toBitVec_and, BitVec.getLsbD_and]
  rw [e, bt_mk h.1 h.2.1 hi, bt_mk h.2.2.1 h.2.2.2 hi]
  rfl
theorem pop_pr : ∀ a b : Fin 16, sumN (fun p => bN (hol a.val p && hol b.val p)) 4 = popI (nI (a.val &&& b.val)) := by decide +kernel
theorem sum_mulL (k : Nat) (g : Nat → Nat) : ∀ n, sumN (fun p => k * g p) n = k * sumN g n
  | 0 => rfl
  | n + 1 => by
    show sumN (fun p => k * g p) n + k * g n = k * (sumN g n + g n)
    rw [sum_mulL k g n, Nat.mul_add]
theorem sum_mulR (k : Nat) (g : Nat → Nat) : ∀ n, sumN (fun p => g p * k) n = sumN g n * k
  | 0 => (Nat.zero_mul k).symm
  | n + 1 => by
    show sumN (fun p => g p * k) n + g n * k = (sumN g n + g n) * k
    rw [sum_mulR k g n, Nat.add_mul]
theorem mt_two (a b : RV) (s p : Nat) : popI (mtI a s p &&& mtI b s p) = bN (inN s (sF a) (sT a) && inN s (sF b) (sT b)) * (bN (hol (pR a) p && hol (pR b) p) * popI (mkI (dF a) (dT a) &&& mkI (dF b) (dT b))) := by
  have z1 : ∀ x : Int32, popI (0 &&& x) = 0 := fun x => by simp [popI_0]
  have z2 : ∀ x : Int32, popI (x &&& 0) = 0 := fun x => by simp [popI_0]
  unfold mtI con
  cases inN s (sF a) (sT a) <;> cases hol (pR a) p <;> cases inN s (sF b) (sT b) <;> cases hol (pR b) p <;> simp [z1, z2, bN, popI_0]
theorem cp_cm {r r2 : RV} (h : rvOk r) (h2 : rvOk r2) : cpN r r2 = cmN r r2 := by
  have hv := h
  have hv2 := h2
  unfold rvOk at hv hv2
  unfold cmN cpN
  rw [sum4 (fun s p => popI (mtI r s p &&& mtI r2 s p)) 32]
  rw [sumN_congr 32 (g := fun s => bN (inN s (sF r) (sT r) && inN s (sF r2) (sT r2)) * (popI (nI (pR r &&& pR r2)) * cnN (dF r) (dT r) (dF r2) (dT r2))) (fun s _ => ?_)]
  · rw [sum_mulR, cn_sum (by omega), Nat.mul_assoc, Nat.mul_comm (popI _)]
  · rw [sumN_congr 4 (fun p _ => mt_two r r2 s p), sum_mulL, sum_mulR, pop_pr ⟨pR r, by omega⟩ ⟨pR r2, by omega⟩, pop_mk2 (by omega)]
theorem le_prod {a b c0 x y z : Nat} (ha : a ≤ x) (hb : b ≤ y) (hc : c0 ≤ z) (hx : 0 < x) (hy : 0 < y) (hz : 0 < z) : x * y * z ≤ a * b * c0 ↔ x ≤ a ∧ y ≤ b ∧ z ≤ c0 := by
  constructor
  · intro q
    refine ⟨Nat.le_of_not_lt fun w => ?_, Nat.le_of_not_lt fun w => ?_, Nat.le_of_not_lt fun w => ?_⟩
    · have h1 : a * b * c0 ≤ a * y * z := Nat.mul_le_mul (Nat.mul_le_mul (Nat.le_refl a) hb) hc
      have h2 : a * y * z < x * y * z := Nat.mul_lt_mul_of_pos_right (Nat.mul_lt_mul_of_pos_right w hy) hz
      omega
    · have h1 : a * b * c0 ≤ x * b * z := Nat.mul_le_mul (Nat.mul_le_mul ha (Nat.le_refl b)) hc
      have h2 : x * b * z < x * y * z := Nat.mul_lt_mul_of_pos_right (Nat.mul_lt_mul_of_pos_left w hx) hz
      omega
    · have h1 : a * b * c0 ≤ x * y * c0 := Nat.mul_le_mul (Nat.mul_le_mul ha hb) (Nat.le_refl c0)
      have h2 : x * y * c0 < x * y * z := Nat.mul_lt_mul_of_pos_left w (Nat.mul_pos hx hy)
      omega
  · intro q
    exact Nat.mul_le_mul (Nat.mul_le_mul q.1 q.2.1) q.2.2
theorem pop_cv : ∀ a b : Fin 16, 1 ≤ b.val → popI (nI (a.val &&& b.val)) ≤ popI (nI (b.val &&& b.val)) ∧ 0 < popI (nI (b.val &&& b.val)) ∧ (popI (nI (b.val &&& b.val)) ≤ popI (nI (a.val &&& b.val)) ↔ a.val &&& b.val = b.val) := by decide +kernel
theorem cn_cv {f t f2 t2 : Nat} (h : f2 ≤ t2) : cnN f t f2 t2 ≤ cnN f2 t2 f2 t2 ∧ 0 < cnN f2 t2 f2 t2 ∧ (cnN f2 t2 f2 t2 ≤ cnN f t f2 t2 ↔ f ≤ f2 ∧ t2 ≤ t) := by
  unfold cnN
  omega
theorem cv_cm {r r2 : RV} (h : rvOk r) (h2 : rvOk r2) : cvB r r2 = decide (cmN r2 r2 ≤ cmN r r2) := by
  have hv := h
  have hv2 := h2
  unfold rvOk at hv hv2
  rw [← cp_cm h h2, ← cp_cm h2 h2]
  have p1 := pop_cv ⟨pR r, by omega⟩ ⟨pR r2, by omega⟩ hv2.2.2.2.2.1
  have s1 := cn_cv (f := sF r) (t := sT r) (f2 := sF r2) (t2 := sT r2) hv2.1
  have d1 := cn_cv (f := dF r) (t := dT r) (f2 := dF r2) (t2 := dT r2) hv2.2.2.1
  rw [Bool.eq_iff_iff, decide_eq_true_eq]
  unfold cpN
  rw [le_prod s1.1 d1.1 p1.1 s1.2.1 d1.2.1 p1.2.1, s1.2.2, d1.2.2, p1.2.2]
  unfold cvB iaB
  rw [Bool.and_eq_true, Bool.and_eq_true, Bool.and_eq_true, Bool.and_eq_true, decide_eq_true_eq, decide_eq_true_eq, decide_eq_true_eq, decide_eq_true_eq, decide_eq_true_eq]
  exact and_assoc
theorem mj_bool : ∀ S T Q JS JT Pm : Bool, (S = true → JS = true) → (T = true → JT = true) → ((Pm && decide (bN (!S) + bN (!T) + bN (!Q) ≤ 1)) && (JS && JT)) = ((((Pm && (S || JS)) && (T || JT)) && (Q || true)) && decide (0 + bN (!S) + bN (!T) + bN (!Q) < 2)) := by decide
theorem mj_eq {a b : Nat} (ha : a ≤ 31) (hb : b ≤ 31) : decide (nI a = nI b) = decide (b = a) := decide_eq_decide.mpr ⟨fun z => ((nI_eq (by omega) (by omega)).mp z).symm, fun z => by rw [z]⟩
theorem mj_le {a b : Nat} (ha : a ≤ 31) (hb : b ≤ 31) : decide (nI a ≤ nI b + nI 1) = decide (a ≤ b + 1) := by rw [nI_add]; exact decide_eq_decide.mpr (nI_leI (by omega) (by omega))
theorem mj_sj {f t f2 t2 : Nat} (h : f ≤ t) : smB f t f2 t2 = true → jnB f t f2 t2 = true := by
  unfold smB jnB
  rw [Bool.and_eq_true, Bool.and_eq_true, decide_eq_true_eq, decide_eq_true_eq, decide_eq_true_eq, decide_eq_true_eq]
  omega
theorem mj_mg {r r2 : RV} (h : rvOk r) (h2 : rvOk r2) : mjB r r2 = mgB r r2 := by
  have hv := h
  have hv2 := h2
  unfold rvOk at hv hv2
  have a0 : alB r r2 (2 * 0) = smB (sF r) (sT r) (sF r2) (sT r2) := by
    show (decide (nI (sF r) = nI (sF r2)) && (false || decide (nI (sT r) = nI (sT r2)))) = _
    rw [mj_eq (by omega) (by omega), mj_eq (by omega) (by omega), Bool.false_or]
    rfl
  have a1 : alB r r2 (2 * 1) = smB (dF r) (dT r) (dF r2) (dT r2) := by
    show (decide (nI (dF r) = nI (dF r2)) && (false || decide (nI (dT r) = nI (dT r2)))) = _
    rw [mj_eq (by omega) (by omega), mj_eq (by omega) (by omega), Bool.false_or]
    rfl
  have a2 : alB r r2 (2 * 2) = decide (pR r = pR r2) := by
    show (decide (nI (pR r) = nI (pR r2)) && (true || _)) = _
    rw [mj_eq (by omega) (by omega), Bool.true_or, Bool.and_true]
    exact decide_eq_decide.mpr ⟨Eq.symm, Eq.symm⟩
  have o0 : onB r r2 (2 * 0) = jnB (sF r) (sT r) (sF r2) (sT r2) := by
    show (false || (decide (nI (sF r) ≤ nI (sT r2) + nI 1) && decide (nI (sF r2) ≤ nI (sT r) + nI 1))) = _
    rw [mj_le (by omega) (by omega), mj_le (by omega) (by omega), Bool.false_or]
    rfl
  have o1 : onB r r2 (2 * 1) = jnB (dF r) (dT r) (dF r2) (dT r2) := by
    show (false || (decide (nI (dF r) ≤ nI (dT r2) + nI 1) && decide (nI (dF r2) ≤ nI (dT r) + nI 1))) = _
    rw [mj_le (by omega) (by omega), mj_le (by omega) (by omega), Bool.false_or]
    rfl
  have o2 : onB r r2 (2 * 2) = true := rfl
  have pm : decide (bN (pM r) = bN (pM r2)) = decide (pM r = pM r2) := decide_eq_decide.mpr ⟨bN_inj, fun z => congrArg bN z⟩
  show ((decide (pM r = pM r2) && decide (bN (!smB (sF r) (sT r) (sF r2) (sT r2)) + bN (!smB (dF r) (dT r) (dF r2) (dT r2)) + bN (!decide (pR r = pR r2)) ≤ 1)) && (jnB (sF r) (sT r) (sF r2) (sT r2) && jnB (dF r) (dT r) (dF r2) (dT r2))) = ((((decide (bN (pM r) = bN (pM r2)) && (alB r r2 (2 * 0) || onB r r2 (2 * 0))) && (alB r r2 (2 * 1) || onB r r2 (2 * 1))) && (alB r r2 (2 * 2) || onB r r2 (2 * 2))) && decide (0 + bN (!alB r r2 (2 * 0)) + bN (!alB r r2 (2 * 1)) + bN (!alB r r2 (2 * 2)) < 2))
  rw [a0, a1, a2, o0, o1, o2, pm]
  exact mj_bool _ _ _ _ _ _ (mj_sj hv.1) (mj_sj hv.2.2.1)
theorem ex_cm {r r2 : RV} (h : rvOk r) (h2 : rvOk r2) : exB r r2 = (decide (bN (pM r) = bN (pM r2)) || decide (cmN r r2 = 0)) := by
  unfold exB
  rw [cp_cm h h2, show decide (pM r = pM r2) = decide (bN (pM r) = bN (pM r2)) from decide_eq_decide.mpr ⟨fun z => congrArg bN z, bN_inj⟩]
