/-! what the class asks of two rules, and what the words ask, is the same -/
theorem popN_zero : ∀ k, popN k 0 = 0
  | 0 => rfl
  | k + 1 => by rw [popN, Nat.zero_div, popN_zero k]
theorem cp_cm {r r2 : RV} (h : rvOk r) (h2 : rvOk r2) : cpN r r2 = cmN r r2 := by sorry
theorem mj_bool : ∀ S T Q JS JT Pm : Bool, (S = true → JS = true) → (T = true → JT = true) → ((Pm && decide (bN (!S) + bN (!T) + bN (!Q) ≤ 1)) && (JS && JT)) = ((((Pm && (S || JS)) && (T || JT)) && (Q || true)) && decide (0 + bN (!S) + bN (!T) + bN (!Q) < 2)) := by decide
theorem mj_eq {a b : Nat} (ha : a ≤ 31) (hb : b ≤ 31) : decide (nI a = nI b) = decide (b = a) := decide_eq_decide.mpr ⟨fun z => ((nI_eq (by omega) (by omega)).mp z).symm, fun z => by rw [z]⟩
theorem mj_le {a b : Nat} (ha : a ≤ 31) (hb : b ≤ 31) : decide (nI a ≤ nI b + nI 1) = decide (a ≤ b + 1) := by rw [nI_add]; exact decide_eq_decide.mpr (nI_leI (by omega) (by omega))
theorem mj_sj {f t f2 t2 : Nat} (h : f ≤ t) : smB f t f2 t2 = true → jnB f t f2 t2 = true := by
  unfold smB jnB
  rw [Bool.and_eq_true, Bool.and_eq_true, decide_eq_true_eq, decide_eq_true_eq, decide_eq_true_eq, decide_eq_true_eq]
  omega
theorem mj_mg {r r2 : RV} (h : rvOk r) (h2 : rvOk r2) : mjB r r2 = mgB r r2 := by
  have hv := h
  have hv2 := h2
  unfold rvOk at hv hv2
  have a0 : alB r r2 (2 * 0) = smB (sF r) (sT r) (sF r2) (sT r2) := by
    show (decide (nI (sF r) = nI (sF r2)) && (false || decide (nI (sT r) = nI (sT r2)))) = _
    rw [mj_eq (by omega) (by omega), mj_eq (by omega) (by omega), Bool.false_or]
    rfl
  have a1 : alB r r2 (2 * 1) = smB (dF r) (dT r) (dF r2) (dT r2) := by
    show (decide (nI (dF r) = nI (dF r2)) && (false || decide (nI (dT r) = nI (dT r2)))) = _
    rw [mj_eq (by omega) (by omega), mj_eq (by omega) (by omega), Bool.false_or]
    rfl
  have a2 : alB r r2 (2 * 2) = decide (pR r = pR r2) := by
    show (decide (nI (pR r) = nI (pR r2)) && (true || _)) = _
    rw [mj_eq (by omega) (by omega), Bool.true_or, Bool.and_true]
    exact decide_eq_decide.mpr ⟨Eq.symm, Eq.symm⟩
  have o0 : onB r r2 (2 * 0) = jnB (sF r) (sT r) (sF r2) (sT r2) := by
    show (false || (decide (nI (sF r) ≤ nI (sT r2) + nI 1) && decide (nI (sF r2) ≤ nI (sT r) + nI 1))) = _
    rw [mj_le (by omega) (by omega), mj_le (by omega) (by omega), Bool.false_or]
    rfl
  have o1 : onB r r2 (2 * 1) = jnB (dF r) (dT r) (dF r2) (dT r2) := by
    show (false || (decide (nI (dF r) ≤ nI (dT r2) + nI 1) && decide (nI (dF r2) ≤ nI (dT r) + nI 1))) = _
    rw [mj_le (by omega) (by omega), mj_le (by omega) (by omega), Bool.false_or]
    rfl
  have o2 : onB r r2 (2 * 2) = true := rfl
  have pm : decide (bN (pM r) = bN (pM r2)) = decide (pM r = pM r2) := decide_eq_decide.mpr ⟨bN_inj, fun z => congrArg bN z⟩
  show ((decide (pM r = pM r2) && decide (bN (!smB (sF r) (sT r) (sF r2) (sT r2)) + bN (!smB (dF r) (dT r) (dF r2) (dT r2)) + bN (!decide (pR r = pR r2)) ≤ 1)) && (jnB (sF r) (sT r) (sF r2) (sT r2) && jnB (dF r) (dT r) (dF r2) (dT r2))) = ((((decide (bN (pM r) = bN (pM r2)) && (alB r r2 (2 * 0) || onB r r2 (2 * 0))) && (alB r r2 (2 * 1) || onB r r2 (2 * 1))) && (alB r r2 (2 * 2) || onB r r2 (2 * 2))) && decide (0 + bN (!alB r r2 (2 * 0)) + bN (!alB r r2 (2 * 1)) + bN (!alB r r2 (2 * 2)) < 2))
  rw [a0, a1, a2, o0, o1, o2, pm]
  exact mj_bool _ _ _ _ _ _ (mj_sj hv.1) (mj_sj hv.2.2.1)
theorem cv_cm {r r2 : RV} (h : rvOk r) (h2 : rvOk r2) : cvB r r2 = decide (cmN r2 r2 ≤ cmN r r2) := by sorry
theorem ex_cm {r r2 : RV} (h : rvOk r) (h2 : rvOk r2) : exB r r2 = (decide (bN (pM r) = bN (pM r2)) || decide (cmN r r2 = 0)) := by
  unfold exB
  rw [cp_cm h h2, show decide (pM r = pM r2) = decide (bN (pM r) = bN (pM r2)) from decide_eq_decide.mpr ⟨fun z => congrArg bN z, bN_inj⟩]
