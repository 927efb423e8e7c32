/-! small facts on bits, and the steps of pmN -/
theorem bt_inv (x : Int32) {i : Nat} (hi : i < 32) : bt (x ^^^ (-1)) i = !bt x i := by rw [b_xor, b_m1 i hi, Bool.xor_true]
theorem i_not (x : Int32) : x ^^^ (-1) = ~~~x := by
  apply Int32.toBitVec_inj.mp
  rw [Int32.toBitVec_xor, Int32.toBitVec_not]
  rw [show (-1 : Int32).toBitVec = BitVec.allOnes 32 from by decide +kernel, BitVec.xor_allOnes]
theorem bt_not (x : Int32) {i : Nat} (hi : i < 32) : bt (~~~x) i = !bt x i := by rw [← i_not, bt_inv x hi]
theorem z_and (x : Int32) : x &&& (nI 0 ^^^ (-1)) = x := b_ext fun i hi => by rw [b_and, bt_inv _ hi, show nI 0 = 0 from rfl, b_0, Bool.not_false, Bool.and_true]
theorem z_or (x : Int32) : x ||| nI 0 = x := b_ext fun i _ => by rw [b_or, show nI 0 = 0 from rfl, b_0, Bool.or_false]
theorem z_ors (a m o : Int32) : a ||| (m &&& o) = a ||| (o &&& m) := b_ext fun i _ => by rw [b_or, b_or, b_and, b_and, Bool.and_comm]
theorem z_andn (o m : Int32) : o &&& ((m &&& o) ^^^ (-1)) = o &&& ~~~m := b_ext fun i hi => by
  rw [b_and, bt_inv _ hi, b_and, b_and, bt_not _ hi]
  cases bt o i <;> cases bt m i <;> rfl
theorem z_andn2 (o m : Int32) : o &&& (m ^^^ (-1)) = o &&& ~~~m := by rw [i_not]
theorem z_0and (m : Int32) : (0 : Int32) &&& m = 0 := b_ext fun i _ => by rw [b_and, b_0, Bool.false_and]
theorem pmN_e {rs : List RV} {s p i : Nat} {wo : Int32} (h : nI i = wo) : pmN rs s p wo (i + 1) = pmN rs s p wo i := by
  rw [pmN, if_pos h]
theorem pmN_1 {rs : List RV} {s p i : Nat} {wo : Int32} (h : ¬ nI i = wo) : (pmN rs s p wo (i + 1)).1 = (pmN rs s p wo i).1 &&& ~~~(mtI (gt rs i) s p) := by
  rw [pmN, if_neg h]
theorem pmN_t {rs : List RV} {s p i : Nat} {wo : Int32} (h : ¬ nI i = wo) (hp : pM (gt rs i) = true) : (pmN rs s p wo (i + 1)).2 = (pmN rs s p wo i).2 ||| ((pmN rs s p wo i).1 &&& mtI (gt rs i) s p) := by
  rw [pmN, if_neg h]
  exact if_pos hp
theorem pmN_f {rs : List RV} {s p i : Nat} {wo : Int32} (h : ¬ nI i = wo) (hp : pM (gt rs i) = false) : (pmN rs s p wo (i + 1)).2 = (pmN rs s p wo i).2 := by
  rw [pmN, if_neg h]
  exact if_neg (by rw [hp]; decide)
theorem pmN_done {rs : List RV} {s p i : Nat} {wo : Int32} (h : (pmN rs s p wo i).1 = 0) : ∀ k, (pmN rs s p wo (i + k)).1 = 0 ∧ (pmN rs s p wo (i + k)).2 = (pmN rs s p wo i).2
  | 0 => ⟨h, rfl⟩
  | k + 1 => by
    obtain ⟨h1, h2⟩ := pmN_done h k
    rw [← Nat.add_assoc]
    by_cases hw : nI (i + k) = wo
    · rw [pmN_e hw]
      exact ⟨h1, h2⟩
    · refine ⟨by rw [pmN_1 hw, h1, z_0and], ?_⟩
      cases hp : pM (gt rs (i + k)) with
      | true =>
        rw [pmN_t hw hp, h1, h2, z_0and]
        exact z_or _
      | false => rw [pmN_f hw hp, h2]
theorem pmI_done {rs : List RV} {s p i : Nat} {wo : Int32} (h : (pmN rs s p wo i).1 = 0) (hi : i ≤ rs.length) : pmI rs s p wo = (pmN rs s p wo i).2 := by
  have h1 := (pmN_done h (rs.length - i)).2
  rw [Nat.add_sub_cancel' hi] at h1
  exact h1
theorem pmI_end {rs : List RV} {s p i : Nat} {wo ac : Int32} (h : i ≤ rs.length) (h2 : rs.length ≤ i) (h3 : ac = (pmN rs s p wo i).2) : ac = pmI rs s p wo := by
  have h4 : i = rs.length := Nat.le_antisymm h h2
  rw [h3, h4]
  rfl
