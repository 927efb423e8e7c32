/-! averageLooks: a number, 0 to 16 -/
abbrev f16 : UInt32 := 1098907648
def avK (r : UInt32) : Bool := decide (FP.fcmp r r = some .eq) && (decide (FP.fcmp r FP.fconst0 = some .gt) || decide (FP.fcmp r FP.fconst0 = some .eq)) && (decide (FP.fcmp r f16 = some .lt) || decide (FP.fcmp r f16 = some .eq))
def avC (lo ju : Nat) : Bool := avK (FP.fdiv (FP.i2f (nI lo)) (FP.i2f (nI ju)))
def avL (a b : Nat) : Bool := (List.range (b - a)).all (fun j => (List.range (16 * (a + j) + 1)).all (fun lo => avC lo (a + j)))
theorem av_k1 : avL 1 5 = true := by decide +kernel
theorem av_k2 : avL 5 25 = true := by decide +kernel
theorem av_k3 : avL 25 37 = true := by decide +kernel
theorem av_k4 : avL 37 46 = true := by decide +kernel
theorem av_k5 : avL 46 54 = true := by decide +kernel
theorem av_k6 : avL 54 61 = true := by decide +kernel
theorem av_k7 : avL 61 67 = true := by decide +kernel
theorem av_k8 : avL 67 73 = true := by decide +kernel
