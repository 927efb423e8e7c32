/-! lists of rules under taking out and putting in; the reference's rows behind its copying loops -/
theorem gt_erase (rs : List RV) (p i : Nat) : gt (rs.eraseIdx p) i = if i < p then gt rs i else gt rs (i + 1) := by
  unfold gt
  rw [List.getD_eq_getElem?_getD, List.getD_eq_getElem?_getD, List.getD_eq_getElem?_getD, List.getElem?_eraseIdx]
  by_cases h : i < p
  · rw [if_pos h, if_pos h]
  · rw [if_neg h, if_neg h]
theorem gt_insert (rs : List RV) (p i : Nat) (r : RV) (hp : p ≤ rs.length) : gt (rs.insertIdx p r) i = if i < p then gt rs i else if i = p then r else gt rs (i - 1) := by
  unfold gt
  rw [List.getD_eq_getElem?_getD, List.getD_eq_getElem?_getD, List.getD_eq_getElem?_getD, List.getElem?_insertIdx]
  by_cases h : i < p
  · rw [if_pos h, if_pos h]
  · rw [if_neg h, if_neg h]
    by_cases h2 : i = p
    · rw [if_pos h2, if_pos h2, if_pos (by omega)]
      rfl
    · rw [if_neg h2, if_neg h2]
theorem gt_set (rs : List RV) (p i : Nat) (r : RV) (hp : p < rs.length) : gt (rs.set p r) i = if i = p then r else gt rs i := by
  unfold gt
  rw [List.getD_eq_getElem?_getD, List.getD_eq_getElem?_getD, List.getElem?_set]
  by_cases h : i = p
  · subst h
    rw [if_pos rfl, if_pos hp, if_pos rfl]
    rfl
  · rw [if_neg (fun z => h z.symm), if_neg h]
theorem len_erase {rs : List RV} {p : Nat} (hp : p < rs.length) : (rs.eraseIdx p).length = rs.length - 1 := List.length_eraseIdx_of_lt hp
theorem len_insert {rs : List RV} {p : Nat} {r : RV} (hp : p ≤ rs.length) : (rs.insertIdx p r).length = rs.length + 1 := List.length_insertIdx_of_le_length hp r
theorem rsOk_erase {rs : List RV} {p : Nat} (h : rsOk rs) (hp : p < rs.length) : rsOk (rs.eraseIdx p) := by
  refine ⟨by rw [len_erase hp]; have := h.1; omega, fun i hi => ?_⟩
  rw [len_erase hp] at hi
  rw [gt_erase]
  by_cases hip : i < p
  · rw [if_pos hip]; exact h.2 i (by omega)
  · rw [if_neg hip]; exact h.2 (i + 1) (by omega)
theorem rsOk_insert {rs : List RV} {p : Nat} {r : RV} (h : rsOk rs) (hp : p ≤ rs.length) (hr : rvOk r) (hl : rs.length ≤ 15) : rsOk (rs.insertIdx p r) := by
  refine ⟨by rw [len_insert hp]; omega, fun i hi => ?_⟩
  rw [len_insert hp] at hi
  rw [gt_insert _ _ _ _ hp]
  by_cases hip : i < p
  · rw [if_pos hip]; exact h.2 i (by omega)
  · rw [if_neg hip]
    by_cases h2 : i = p
    · rw [if_pos h2]; exact hr
    · rw [if_neg h2]; exact h.2 (i - 1) (by omega)
theorem rsOk_set {rs : List RV} {p : Nat} {r : RV} (h : rsOk rs) (hp : p < rs.length) (hr : rvOk r) : rsOk (rs.set p r) := by
  refine ⟨by rw [List.length_set]; exact h.1, fun i hi => ?_⟩
  rw [List.length_set] at hi
  rw [gt_set _ _ _ _ hp]
  by_cases hip : i = p
  · rw [if_pos hip]; exact hr
  · rw [if_neg hip]; exact h.2 i hi
def crep (r : RV) (ca : Nat → Int32) : Prop := ∀ w, w < 7 → ca w = rvI r w
theorem crep_s {ca g : Nat → Int32} {w : Nat} (h : ∀ a, a < w → ca a = g a) : ∀ a, a < w + 1 → upd ca w (g w) a = g a := by
  intro a ha
  by_cases h2 : a = w
  · rw [h2, pk_us]
  · rw [pk_un h2]; exact h a (by omega)
/-- places a to b hold what stood seven behind -/
def shF (f : Nat → Int32) (a b : Nat) : Nat → Int32 := fun j => if a ≤ j ∧ j < b then f (j + 7) else f j
theorem shF_0 (f : Nat → Int32) (a : Nat) : shF f a a = f := funext fun j => if_neg (by omega)
theorem shF_s {f : Nat → Int32} {a b : Nat} (h : a ≤ b) : upd (shF f a b) b (shF f a b (b + 7)) = shF f a (b + 1) := funext fun j => by
  unfold upd shF
  by_cases h1 : j = b
  · subst h1
    rw [if_pos rfl, if_neg (by omega), if_pos (by omega)]
  · rw [if_neg h1]
    by_cases h2 : a ≤ j ∧ j < b
    · rw [if_pos h2, if_pos (by omega)]
    · rw [if_neg h2, if_neg (by omega)]
/-- places k + 7 to b + 7 hold what stood seven ahead -/
def suF (f : Nat → Int32) (k b : Nat) : Nat → Int32 := fun j => if k + 7 ≤ j ∧ j < b + 7 then f (j - 7) else f j
theorem suF_0 (f : Nat → Int32) (b : Nat) : suF f b b = f := funext fun j => if_neg (by omega)
theorem suF_s {f : Nat → Int32} {k b : Nat} (h : k < b) : upd (suF f (k + 1) b) (k + 7) (suF f (k + 1) b k) = suF f k b := funext fun j => by
  unfold upd suF
  by_cases h1 : j = k + 7
  · subst h1
    rw [if_pos rfl, if_neg (by omega), if_pos (by omega), Nat.add_sub_cancel]
  · rw [if_neg h1]
    by_cases h2 : k + 1 + 7 ≤ j ∧ j < b + 7
    · rw [if_pos h2, if_pos (by omega)]
    · rw [if_neg h2, if_neg (by omega)]
/-- places a to a + w hold the first w of g -/
def inF (f g : Nat → Int32) (a w : Nat) : Nat → Int32 := fun j => if a ≤ j ∧ j < a + w then g (j - a) else f j
theorem inF_0 (f g : Nat → Int32) (a : Nat) : inF f g a 0 = f := funext fun j => if_neg (by omega)
theorem inF_s {f g : Nat → Int32} {a w : Nat} : upd (inF f g a w) (a + w) (g w) = inF f g a (w + 1) := funext fun j => by
  unfold upd inF
  by_cases h1 : j = a + w
  · subst h1
    rw [if_pos rfl, if_pos (by omega), Nat.add_sub_cancel_left]
  · rw [if_neg h1]
    by_cases h2 : a ≤ j ∧ j < a + w
    · rw [if_pos h2, if_pos (by omega)]
    · rw [if_neg h2, if_neg (by omega)]
theorem nI_lts {k b : Nat} (hk : k < 2 ^ 30) (hb : b < 2 ^ 30) : nI k - nI 1 < nI b ↔ k ≤ b := by
  cases k with
  | zero => 
    refine ⟨fun _ => Nat.zero_le b, fun _ => ?_⟩
    rw [Int32.lt_iff_toInt_lt, nI_toInt (by omega), show (nI 0 - nI 1).toInt = -1 from by decide +kernel]
    omega
  | succ k =>
    rw [pk_sub (by omega), Nat.add_sub_cancel, nI_ltI (by omega) (by omega)]
    omega
theorem m1_sub (x : Int32) : x + Int32.ofInt (-1) = x - nI 1 := by
  rw [Int32.sub_eq_add_neg]
  rfl
