/-! small facts on bits, and the steps of pmN -/
theorem i_not (x : Int32) : x ^^^ (-1) = ~~~x := by
  apply Int32.toBitVec_inj.mp
  rw [Int32.toBitVec_xor, Int32.toBitVec_not]
  rw [show (-1 : Int32).toBitVec = BitVec.allOnes 32 from by decide +kernel, BitVec.xor_allOnes]
theorem z_0and (m : Int32) : (0 : Int32) &&& m = 0 := b_ext fun i _ => by rw [b_and, b_0, Bool.false_and]
theorem pmN_e {rs : List RV} {s p i : Nat} {wo : Int32} (h : nI i = wo) : pmN rs s p wo (i + 1) = pmN rs s p wo i := by
  rw [pmN, if_pos h]
theorem pmN_1 {rs : List RV} {s p i : Nat} {wo : Int32} (h : ¬ nI i = wo) : (pmN rs s p wo (i + 1)).1 = (pmN rs s p wo i).1 &&& ~~~(mtI (gt rs i) s p) := by
  rw [pmN, if_neg h]
theorem pmN_t {rs : List RV} {s p i : Nat} {wo : Int32} (h : ¬ nI i = wo) (hp : pM (gt rs i) = true) : (pmN rs s p wo (i + 1)).2 = (pmN rs s p wo i).2 ||| ((pmN rs s p wo i).1 &&& mtI (gt rs i) s p) := by
  rw [pmN, if_neg h]
  exact if_pos hp
theorem pmN_f {rs : List RV} {s p i : Nat} {wo : Int32} (h : ¬ nI i = wo) (hp : pM (gt rs i) = false) : (pmN rs s p wo (i + 1)).2 = (pmN rs s p wo i).2 := by
  rw [pmN, if_neg h]
  exact if_neg (by rw [hp]; decide)
theorem pmI_end {rs : List RV} {s p i : Nat} {wo ac : Int32} (h : i ≤ rs.length) (h2 : rs.length ≤ i) (h3 : ac = (pmN rs s p wo i).2) : ac = pmI rs s p wo := by
  have h4 : i = rs.length := Nat.le_antisymm h h2
  rw [h3, h4]
  rfl
