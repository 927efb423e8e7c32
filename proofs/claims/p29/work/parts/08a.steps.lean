/-! shortening and sorting a list of rules, step by step -/
theorem nx_or (a b : Nat) : nI a ||| nI b = nI (a ||| b) := by
  apply Int32.toBitVec_inj.mp
  rw [Int32.toBitVec_or]
  show BitVec.ofNat 32 a ||| BitVec.ofNat 32 b = BitVec.ofNat 32 (a ||| b)
  exact BitVec.ofNat_or.symm
/-- the row of a rule in the reference's numbers -/
def rowp (f : Nat → Int32) (i : Nat) (r : RV) : Prop := ∀ w, w < 7 → f (7 * i + w) = rvI r w
def offp (f g : Nat → Int32) (i : Nat) : Prop := ∀ j, (j < 7 * i ∨ 7 * i + 7 ≤ j) → f j = g j
theorem rowp_upd {f g : Nat → Int32} {i w : Nat} {v : Int32} {r r2 : RV} (h : rowp f i r) (e : g = upd f (7 * i + w) v) (hv : rvI r2 w = v) (ho : ∀ a, a < 7 → a ≠ w → rvI r2 a = rvI r a) : rowp g i r2 := by
  intro a ha
  rw [e]
  by_cases hw : a = w
  · rw [hw, pk_us, hv]
  · rw [pk_un (by omega), h a ha, ho a ha hw]
theorem offp_upd {f g f0 : Nat → Int32} {i w : Nat} {v : Int32} (h : offp f f0 i) (e : g = upd f (7 * i + w) v) (hw : w < 7) : offp g f0 i := by
  intro j hj
  rw [e, pk_un (by omega)]
  exact h j hj
/-- the merged rule -/
def mgV (r c : RV) : RV := (min (sF c) (sF r), max (sT c) (sT r), min (dF c) (dF r), max (dT c) (dT r), pR r ||| pR c, pM r, hT r + hT c)
theorem mgV_ok {r c : RV} (h : rvOk r) (h2 : rvOk c) : rvOk (mgV r c) := by
  unfold rvOk at *
  have h3 : pR r ||| pR c < 2 ^ 4 := Nat.or_lt_two_pow (by omega) (by omega)
  have h4 : pR r ≤ pR r ||| pR c := Nat.left_le_or
  refine ⟨?_, ?_, ?_, ?_, ?_, ?_⟩
  · show min (sF c) (sF r) ≤ max (sT c) (sT r); omega
  · show max (sT c) (sT r) ≤ 31; omega
  · show min (dF c) (dF r) ≤ max (dT c) (dT r); omega
  · show max (dT c) (dT r) ≤ 31; omega
  · show 1 ≤ pR r ||| pR c; omega
  · show pR r ||| pR c ≤ 15; omega
/-- the greatest i below n with P, and 1; 0 if there is none -/
def lstN (P : Nat → Bool) : Nat → Nat
  | 0 => 0
  | n + 1 => if P n then n + 1 else lstN P n
theorem lstN_le (P : Nat → Bool) : ∀ n, lstN P n ≤ n
  | 0 => Nat.le_refl 0
  | n + 1 => by
    have h := lstN_le P n
    rw [lstN]
    cases P n with
    | true => exact Nat.le_refl _
    | false => exact Nat.le_succ_of_le h
theorem lstN_go {P : Nat → Bool} {k : Nat} (h : P k = false) : lstN P (k + 1) = lstN P k := by rw [lstN, if_neg (by rw [h]; decide)]
theorem lstN_hit {P : Nat → Bool} {k : Nat} (h : P k = true) : lstN P (k + 1) = k + 1 := by rw [lstN, if_pos h]
def mgL (rs : List RV) (i : Nat) : List RV := (rs.eraseIdx (i + 1)).set i (mgV (gt rs i) (gt rs (i + 1)))
def fmg (rs : List RV) : Nat := fstN (fun i => mgB (gt rs i) (gt rs (i + 1))) (rs.length - 1)
/-- one step of shortening; whether there was one -/
def stS (rs : List RV) : List RV × Bool := if lstN (ndB rs) rs.length = 0 then (if fmg rs < rs.length - 1 then (mgL rs (fmg rs), true) else (rs, false)) else (rs.eraseIdx (lstN (ndB rs) rs.length - 1), true)
theorem mgL_len {rs : List RV} {i : Nat} (h : i + 1 < rs.length) : (mgL rs i).length = rs.length - 1 := by
  unfold mgL
  rw [List.length_set, len_erase h]
theorem mgL_ok {rs : List RV} {i : Nat} (h : rsOk rs) (hi : i + 1 < rs.length) : rsOk (mgL rs i) :=
  rsOk_set (rsOk_erase h hi) (by rw [len_erase hi]; omega) (mgV_ok (h.2 i (by omega)) (h.2 (i + 1) hi))
theorem stS_len {rs : List RV} (h : (stS rs).2 = true) : (stS rs).1.length + 1 = rs.length := by
  have h1 := lstN_le (ndB rs) rs.length
  unfold stS at h ⊢
  by_cases h0 : lstN (ndB rs) rs.length = 0
  · rw [if_pos h0] at h ⊢
    by_cases h2 : fmg rs < rs.length - 1
    · rw [if_pos h2]
      rw [mgL_len (by omega)]
      omega
    · rw [if_neg h2] at h
      cases h
  · rw [if_neg h0]
    rw [len_erase (by omega)]
    omega
theorem stS_same {rs : List RV} (h : (stS rs).2 = false) : (stS rs).1 = rs := by
  unfold stS at h ⊢
  by_cases h0 : lstN (ndB rs) rs.length = 0
  · rw [if_pos h0] at h ⊢
    by_cases h2 : fmg rs < rs.length - 1
    · rw [if_pos h2] at h
      cases h
    · rw [if_neg h2]
  · rw [if_neg h0] at h
    cases h
theorem stS_ok {rs : List RV} (h : rsOk rs) : rsOk (stS rs).1 := by
  have h1 := lstN_le (ndB rs) rs.length
  unfold stS
  by_cases h0 : lstN (ndB rs) rs.length = 0
  · rw [if_pos h0]
    by_cases h2 : fmg rs < rs.length - 1
    · rw [if_pos h2]
      exact mgL_ok h (by omega)
    · rw [if_neg h2]
      exact h
  · rw [if_neg h0]
    exact rsOk_erase h (by omega)
/-- all steps -/
def itS : Nat → List RV → List RV × Nat
  | 0, rs => (rs, 0)
  | k + 1, rs => if (stS rs).2 then ((itS k (stS rs).1).1, (itS k (stS rs).1).2 + 1) else (rs, 0)
theorem itS_go {rs : List RV} {k : Nat} (h : (stS rs).2 = true) : itS (k + 1) rs = ((itS k (stS rs).1).1, (itS k (stS rs).1).2 + 1) := by rw [itS, if_pos h]
theorem itS_stop {rs : List RV} {k : Nat} (h : (stS rs).2 = false) : itS k rs = (rs, 0) := by
  cases k with
  | zero => rfl
  | succ k => rw [itS, if_neg (by rw [h]; decide)]
/-- two neighbours that are exchanged -/
def swB (rs : List RV) (i : Nat) : Bool := decide (hT (gt rs i) < hT (gt rs (i + 1))) && (decide (bN (pM (gt rs i)) = bN (pM (gt rs (i + 1)))) || decide (cmN (gt rs i) (gt rs (i + 1)) = 0))
def swL (rs : List RV) (i : Nat) : List RV := (rs.eraseIdx i).insertIdx (i + 1) (gt rs i)
theorem swL_len {rs : List RV} {i : Nat} (h : i + 1 < rs.length) : (swL rs i).length = rs.length := by
  unfold swL
  rw [len_insert (by rw [len_erase (by omega)]; omega), len_erase (by omega)]
  omega
theorem swL_ok {rs : List RV} {i : Nat} (h : rsOk rs) (hi : i + 1 < rs.length) : rsOk (swL rs i) := by
  have := h.1
  exact rsOk_insert (rsOk_erase h (by omega)) (by rw [len_erase (by omega)]; omega) (h.2 i (by omega)) (by rw [len_erase (by omega)]; omega)
/-- the first i neighbours of a pass -/
def psN (rs : List RV) : Nat → List RV × Nat
  | 0 => (rs, 0)
  | i + 1 => if swB (psN rs i).1 i then (swL (psN rs i).1 i, (psN rs i).2 + 1) else psN rs i
theorem psN_len {rs : List RV} : ∀ i, i < rs.length → (psN rs i).1.length = rs.length
  | 0, _ => rfl
  | i + 1, h => by
    have h1 := psN_len (rs := rs) i (by omega)
    rw [psN]
    by_cases hs : swB (psN rs i).1 i = true
    · rw [if_pos hs]
      show (swL (psN rs i).1 i).length = _
      rw [swL_len (by omega), h1]
    · rw [if_neg hs, h1]
theorem psN_ok {rs : List RV} (h : rsOk rs) : ∀ i, i < rs.length → rsOk (psN rs i).1
  | 0, _ => h
  | i + 1, hi => by
    have h1 := psN_len (rs := rs) i (by omega)
    have h2 := psN_ok h i (by omega)
    rw [psN]
    by_cases hs : swB (psN rs i).1 i = true
    · rw [if_pos hs]
      exact swL_ok h2 (by omega)
    · rw [if_neg hs]
      exact h2
theorem psN_t {rs : List RV} {i : Nat} (h : swB (psN rs i).1 i = true) : psN rs (i + 1) = (swL (psN rs i).1 i, (psN rs i).2 + 1) := by rw [psN, if_pos h]
theorem psN_f {rs : List RV} {i : Nat} (h : swB (psN rs i).1 i = false) : psN rs (i + 1) = psN rs i := by rw [psN, if_neg (by rw [h]; decide)]
def pas (rs : List RV) : List RV × Nat := psN rs (rs.length - 1)
/-- passes until one exchanges nothing -/
def soF : Nat → List RV → List RV × Nat
  | 0, rs => (rs, 0)
  | k + 1, rs => if (pas rs).2 = 0 then ((pas rs).1, 0) else ((soF k (pas rs).1).1, (pas rs).2 + (soF k (pas rs).1).2)
/-- pairs that stand in the wrong order -/
def inv : List Int32 → Nat
  | [] => 0
  | x :: t => t.countP (fun y => decide (x < y)) + inv t
theorem inv_le : ∀ l : List Int32, inv l ≤ l.length * l.length
  | [] => Nat.le_refl 0
  | x :: t => by
    have h1 := inv_le t
    have h2 : t.countP (fun y => decide (x < y)) ≤ t.length := List.countP_le_length
    have h3 : (x :: t).length = t.length + 1 := rfl
    rw [h3, inv, Nat.add_mul, Nat.mul_add]
    omega
theorem inv_swap {x y : Int32} {b : List Int32} (h : x < y) : ∀ a : List Int32, inv (a ++ y :: x :: b) + 1 = inv (a ++ x :: y :: b)
  | [] => by
    have h1 : decide (x < y) = true := decide_eq_true h
    have h2 : decide (y < x) = false := decide_eq_false (Int32.lt_asymm h)
    simp only [List.nil_append, inv, List.countP_cons, h1, h2]
    simp
    omega
  | z :: a => by
    have ih := inv_swap (b := b) h a
    have hc : (a ++ y :: x :: b).countP (fun w => decide (z < w)) = (a ++ x :: y :: b).countP (fun w => decide (z < w)) := by
      rw [List.countP_append, List.countP_append, List.countP_cons, List.countP_cons, List.countP_cons, List.countP_cons]
      omega
    show (a ++ y :: x :: b).countP _ + inv (a ++ y :: x :: b) + 1 = (a ++ x :: y :: b).countP _ + inv (a ++ x :: y :: b)
    rw [hc]
    omega
