/-! averageLooks, on -/
theorem av_in {a b ju lo : Nat} (h : avL a b = true) (h1 : a ≤ ju) (h2 : ju < b) (hl : lo ≤ 16 * ju) : avC lo ju = true := by
  have h3 := List.all_eq_true.mp h (ju - a) (List.mem_range.mpr (by omega))
  have h4 := List.all_eq_true.mp h3 lo (List.mem_range.mpr (by rw [show a + (ju - a) = ju from by omega]; omega))
  rw [show a + (ju - a) = ju from by omega] at h4
  exact h4
theorem av_c {ju lo : Nat} (h0 : 0 < ju) (hj : ju ≤ 72) (hl : lo ≤ 16 * ju) : avC lo ju = true := by
  rcases (show (1 ≤ ju ∧ ju < 5) ∨ (5 ≤ ju ∧ ju < 25) ∨ (25 ≤ ju ∧ ju < 37) ∨ (37 ≤ ju ∧ ju < 46) ∨ (46 ≤ ju ∧ ju < 54) ∨ (54 ≤ ju ∧ ju < 61) ∨ (61 ≤ ju ∧ ju < 67) ∨ (67 ≤ ju ∧ ju < 73) by omega) with h | h | h | h | h | h | h | h
  · exact av_in av_k1 h.1 h.2 hl
  · exact av_in av_k2 h.1 h.2 hl
  · exact av_in av_k3 h.1 h.2 hl
  · exact av_in av_k4 h.1 h.2 hl
  · exact av_in av_k5 h.1 h.2 hl
  · exact av_in av_k6 h.1 h.2 hl
  · exact av_in av_k7 h.1 h.2 hl
  · exact av_in av_k8 h.1 h.2 hl
theorem av_0 : avK FP.fconst0 = true := by decide +kernel
theorem av_nn {r : UInt32} (h : avK r = true) : isNaN32 r = false := by
  cases hn : isNaN32 r with
  | false => rfl
  | true =>
    have h1 : FP.Core.decode FP.Core.b32 r.toNat = .nan := of_decide_eq_true (fp_nan32 hn)
    have h2 : FP.fcmp r r = none := by
      show FP.Core.order (FP.Core.decode FP.Core.b32 r.toNat) (FP.Core.decode FP.Core.b32 r.toNat) = none
      rw [h1]
      rfl
    unfold avK at h
    have h3 : decide ((none : Option Ordering) = some .eq) = false := rfl
    rw [h2, h3, Bool.false_and, Bool.false_and] at h
    cases h
/-- one number for all draws -/
theorem av_one {lo ju : Nat} (hj : ju ≤ 72) (hl : lo ≤ 16 * ju) : ∃ q : UInt32, avK q = true ∧ ∀ r, avR (nI lo) (nI ju) r → r = q := by
  by_cases h0 : ju = 0
  · refine ⟨FP.fconst0, av_0, fun r h => ?_⟩
    unfold avR at h
    rw [if_pos (by rw [h0]; rfl)] at h
    exact h
  · have hc := av_c (by omega) hj hl
    refine ⟨_, hc, fun r h => ?_⟩
    unfold avR at h
    have hz : ¬ nI ju = 0 := fun z => h0 ((nI_eq (by omega) (by decide)).mp z)
    rw [if_neg hz] at h
    rcases al32_or h with e | e
    · exact e
    · rw [av_nn hc] at e
      exact absurd e.2 (by decide)
theorem avK_at {q : UInt32} (h : avK q = true) : FP.fcmp q q = some .eq ∧ (FP.fcmp q FP.fconst0 = some .gt ∨ FP.fcmp q FP.fconst0 = some .eq) ∧ (FP.fcmp q f16 = some .lt ∨ FP.fcmp q f16 = some .eq) := by
  unfold avK at h
  rw [Bool.and_eq_true, Bool.and_eq_true, Bool.or_eq_true, Bool.or_eq_true, decide_eq_true_eq, decide_eq_true_eq, decide_eq_true_eq, decide_eq_true_eq, decide_eq_true_eq] at h
  exact ⟨h.1.1, h.1.2, h.2⟩
