/-! sorting ends -/
theorem nI_les {k b : Nat} (hk : k < 2 ^ 30) (hb : b < 2 ^ 30) : nI k - nI 1 ≤ nI b ↔ k ≤ b + 1 := by
  cases k with
  | zero =>
    refine ⟨fun _ => Nat.zero_le _, fun _ => ?_⟩
    rw [Int32.le_iff_toInt_le, nI_toInt (by omega), show (nI 0 - nI 1).toInt = -1 from by decide +kernel]
    omega
  | succ k =>
    rw [pk_sub (by omega), Nat.add_sub_cancel, nI_leI (by omega) (by omega)]
    omega
theorem gt_lt {rs : List RV} {i : Nat} (h : i < rs.length) : gt rs i = rs[i] := by
  unfold gt
  rw [List.getD_eq_getElem?_getD, List.getElem?_eq_getElem h]
  rfl
theorem rs_cut {rs : List RV} {i : Nat} (h : i + 1 < rs.length) : rs = rs.take i ++ gt rs i :: gt rs (i + 1) :: rs.drop (i + 2) := by
  rw [gt_lt (by omega), gt_lt h]
  have h1 : rs.drop i = rs[i] :: rs.drop (i + 1) := List.drop_eq_getElem_cons (by omega)
  have h2 : rs.drop (i + 1) = rs[i + 1] :: rs.drop (i + 2) := List.drop_eq_getElem_cons h
  rw [← h2, ← h1, List.take_append_drop]
theorem gt_ext {a b : List RV} (hl : a.length = b.length) (h : ∀ i, i < a.length → gt a i = gt b i) : a = b := by
  refine List.ext_getElem hl fun i h1 h2 => ?_
  rw [← gt_lt h1, ← gt_lt h2]
  exact h i h1
theorem swL_gt {rs : List RV} {i : Nat} (h : i + 1 < rs.length) (j : Nat) : gt (swL rs i) j = if j = i then gt rs (i + 1) else if j = i + 1 then gt rs i else gt rs j := by
  unfold swL
  rw [gt_insert _ _ _ _ (by rw [len_erase (by omega)]; omega), gt_erase, gt_erase]
  by_cases h1 : j < i
  · rw [if_pos (by omega), if_pos h1, if_neg (by omega), if_neg (by omega)]
  · by_cases h2 : j = i
    · rw [if_pos (by omega), if_neg h1, if_pos h2, h2]
    · rw [if_neg (by omega), if_neg h2]
      by_cases h3 : j = i + 1
      · rw [if_pos h3, if_pos h3]
      · rw [if_neg h3, if_neg h3, if_neg (by omega), show j - 1 + 1 = j from by omega]
theorem swL_cut {rs : List RV} {i : Nat} (h : i + 1 < rs.length) : swL rs i = rs.take i ++ gt rs (i + 1) :: gt rs i :: rs.drop (i + 2) := by
  have hl : (rs.take i ++ gt rs (i + 1) :: gt rs i :: rs.drop (i + 2)).length = rs.length := by
    rw [List.length_append, List.length_cons, List.length_cons, List.length_take, List.length_drop]
    omega
  have ht : (rs.take i).length = i := by rw [List.length_take]; omega
  refine gt_ext (by rw [hl, swL_len h]) fun j hj => ?_
  rw [swL_len h] at hj
  rw [swL_gt h]
  show _ = (rs.take i ++ gt rs (i + 1) :: gt rs i :: rs.drop (i + 2)).getD j rv0
  rw [List.getD_eq_getElem?_getD]
  by_cases h1 : j < i
  · rw [List.getElem?_append_left (by omega), List.getElem?_take, if_pos h1, if_neg (by omega), if_neg (by omega)]
    rfl
  · rw [List.getElem?_append_right (by omega), ht]
    by_cases h2 : j = i
    · rw [if_pos h2, h2, Nat.sub_self]
      rfl
    · rw [if_neg h2]
      by_cases h3 : j = i + 1
      · rw [if_pos h3, h3, show i + 1 - i = 1 from by omega]
        rfl
      · rw [if_neg h3, show j - i = (j - i - 2) + 2 from by omega, List.getElem?_cons_succ, List.getElem?_cons_succ, List.getElem?_drop, show i + 2 + (j - i - 2) = j from by omega]
        rfl
def invR (rs : List RV) : Nat := inv (rs.map hT)
theorem invR_sw {rs : List RV} {i : Nat} (h : i + 1 < rs.length) (hs : swB rs i = true) : invR (swL rs i) + 1 = invR rs := by
  have hh : hT (gt rs i) < hT (gt rs (i + 1)) := by
    unfold swB at hs
    rw [Bool.and_eq_true] at hs
    exact of_decide_eq_true hs.1
  unfold invR
  rw [swL_cut h]
  conv => rhs; rw [rs_cut h]
  rw [List.map_append, List.map_append, List.map_cons, List.map_cons, List.map_cons, List.map_cons]
  exact inv_swap hh _
theorem psN_inv {rs : List RV} : ∀ i, i < rs.length → invR (psN rs i).1 + (psN rs i).2 = invR rs
  | 0, _ => rfl
  | i + 1, h => by
    have h1 := psN_len (rs := rs) i (by omega)
    have h2 := psN_inv (rs := rs) i (by omega)
    cases hs : swB (psN rs i).1 i with
    | true =>
      rw [psN_t hs]
      have h3 := invR_sw (by omega) hs
      show invR (swL (psN rs i).1 i) + ((psN rs i).2 + 1) = _
      omega
    | false => rw [psN_f hs, h2]
theorem pas_inv (rs : List RV) : invR (pas rs).1 + (pas rs).2 = invR rs := by
  cases rs with
  | nil => rfl
  | cons r t => exact psN_inv _ (by show t.length + 1 - 1 < t.length + 1; omega)
theorem pas_len (rs : List RV) : (pas rs).1.length = rs.length := by
  cases rs with
  | nil => rfl
  | cons r t => exact psN_len _ (by show t.length + 1 - 1 < t.length + 1; omega)
theorem pas_ok {rs : List RV} (h : rsOk rs) : rsOk (pas rs).1 := by
  cases rs with
  | nil => exact h
  | cons r t => exact psN_ok h _ (by show t.length + 1 - 1 < t.length + 1; omega)
theorem soF_eq : ∀ (j k : Nat) (rs : List RV), invR rs < j → invR rs < k → soF j rs = soF k rs
  | 0, _, _, h, _ => absurd h (Nat.not_lt_zero _)
  | _ + 1, 0, _, _, h => absurd h (Nat.not_lt_zero _)
  | j + 1, k + 1, rs, h1, h2 => by
    have h3 := pas_inv rs
    rw [soF, soF]
    by_cases hc : (pas rs).2 = 0
    · rw [if_pos hc, if_pos hc]
    · rw [if_neg hc, if_neg hc, soF_eq j k (pas rs).1 (by omega) (by omega)]
theorem soF_le : ∀ (k : Nat) (rs : List RV), (soF k rs).2 ≤ invR rs
  | 0, _ => Nat.zero_le _
  | k + 1, rs => by
    have h3 := pas_inv rs
    have h4 := soF_le k (pas rs).1
    rw [soF]
    by_cases hc : (pas rs).2 = 0
    · rw [if_pos hc]; exact Nat.zero_le _
    · rw [if_neg hc]
      show (pas rs).2 + (soF k (pas rs).1).2 ≤ _
      omega
theorem inv_le2 : ∀ l : List Int32, inv l + l.length ≤ l.length * l.length
  | [] => Nat.le_refl 0
  | x :: t => by
    have h1 := inv_le2 t
    have h2 : t.countP (fun y => decide (x < y)) ≤ t.length := List.countP_le_length
    have h3 : (x :: t).length = t.length + 1 := rfl
    rw [h3, inv, Nat.add_mul, Nat.mul_add]
    omega
theorem invR_le {rs : List RV} (h : rs.length ≤ 16) : invR rs ≤ 240 := by
  have h1 := inv_le2 (rs.map hT)
  rw [List.length_map] at h1
  have h2 : rs.length * rs.length ≤ 15 * rs.length + rs.length := by
    rw [← Nat.succ_mul]
    exact Nat.mul_le_mul_right _ h
  unfold invR
  omega
/-- the sorted list, and how many exchanges there were -/
def sor (rs : List RV) : List RV × Nat := soF 241 rs
theorem soF_0 {k : Nat} {rs : List RV} (h : (pas rs).2 = 0) : soF (k + 1) rs = ((pas rs).1, 0) := by rw [soF, if_pos h]
theorem soF_n {k : Nat} {rs : List RV} (h : (pas rs).2 ≠ 0) : soF (k + 1) rs = ((soF k (pas rs).1).1, (pas rs).2 + (soF k (pas rs).1).2) := by rw [soF, if_neg h]
theorem soF_ok : ∀ (k : Nat) {rs : List RV}, rsOk rs → rsOk (soF k rs).1 ∧ (soF k rs).1.length = rs.length
  | 0, _, h => ⟨h, rfl⟩
  | k + 1, rs, h => by
    by_cases hc : (pas rs).2 = 0
    · rw [soF_0 hc]; exact ⟨pas_ok h, pas_len rs⟩
    · rw [soF_n hc]
      have h2 := soF_ok k (pas_ok h)
      exact ⟨h2.1, h2.2.trans (pas_len rs)⟩
theorem stS_nd {rs : List RV} {k : Nat} (h : lstN (ndB rs) rs.length = k + 1) : stS rs = (rs.eraseIdx k, true) := by
  unfold stS
  rw [if_neg (by omega), h, Nat.add_sub_cancel]
theorem stS_mg {rs : List RV} {i : Nat} (h : lstN (ndB rs) rs.length = 0) (h2 : fmg rs = i) (h3 : i < rs.length - 1) : stS rs = (mgL rs i, true) := by
  unfold stS
  rw [if_pos h, h2, if_pos h3]
theorem stS_no {rs : List RV} (h : lstN (ndB rs) rs.length = 0) (h2 : fmg rs = rs.length - 1) : stS rs = (rs, false) := by
  unfold stS
  rw [if_pos h, h2, if_neg (Nat.lt_irrefl _)]
