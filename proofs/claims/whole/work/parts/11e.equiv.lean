/-! what the class asks of two rules, and what the words ask, is the same -/
theorem popN_zero : ∀ k, popN k 0 = 0
  | 0 => rfl
  | k + 1 => by rw [popN, Nat.zero_div, popN_zero k]
theorem cp_cm {r r2 : RV} (h : rvOk r) (h2 : rvOk r2) : cpN r r2 = cmN r r2 := by sorry
theorem mj_mg {r r2 : RV} (h : rvOk r) (h2 : rvOk r2) : mjB r r2 = mgB r r2 := by sorry
theorem cv_cm {r r2 : RV} (h : rvOk r) (h2 : rvOk r2) : cvB r r2 = decide (cmN r2 r2 ≤ cmN r r2) := by sorry
theorem ex_cm {r r2 : RV} (h : rvOk r) (h2 : rvOk r2) : exB r r2 = (decide (bN (pM r) = bN (pM r2)) || decide (cmN r r2 = 0)) := by
  unfold exB
  rw [cp_cm h h2, show decide (pM r = pM r2) = decide (bN (pM r) = bN (pM r2)) from decide_eq_decide.mpr ⟨fun z => congrArg bN z, bN_inj⟩]
