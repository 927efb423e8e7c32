/-! blocks of a range, greedily; of a set of protocols, run by run -/
def szF : Nat → Nat → Nat → Nat → Nat
  | 0, _, _, s => s
  | k + 1, a, t, s => if a % (2 * s) = 0 ∧ a + 2 * s ≤ t then szF k a t (2 * s) else s
/-- the size of the block that begins at a, of a range that ends ahead of t -/
def szN (a t : Nat) : Nat := szF 6 a t 1
theorem szF_pos : ∀ (k a t s : Nat), 0 < s → 0 < szF k a t s
  | 0, _, _, _, h => h
  | k + 1, a, t, s, h => by
    rw [szF]
    by_cases hc : a % (2 * s) = 0 ∧ a + 2 * s ≤ t
    · rw [if_pos hc]; exact szF_pos k a t (2 * s) (by omega)
    · rw [if_neg hc]; exact h
theorem szF_le : ∀ (k a t s : Nat), a + s ≤ t → a + szF k a t s ≤ t
  | 0, _, _, _, h => h
  | k + 1, a, t, s, h => by
    rw [szF]
    by_cases hc : a % (2 * s) = 0 ∧ a + 2 * s ≤ t
    · rw [if_pos hc]; exact szF_le k a t (2 * s) hc.2
    · rw [if_neg hc]; exact h
theorem szN_pos (a t : Nat) : 0 < szN a t := szF_pos 6 a t 1 (by decide)
theorem szN_le {a t : Nat} (h : a < t) : a + szN a t ≤ t := szF_le 6 a t 1 h
def BkF : Nat → Nat → Nat → List (Nat × Nat)
  | 0, _, _ => []
  | k + 1, a, t => if a < t then (a, szN a t) :: BkF k (a + szN a t) t else []
theorem BkF_nil : ∀ (k : Nat) {a t : Nat}, t ≤ a → BkF k a t = []
  | 0, _, _, _ => rfl
  | _ + 1, _, _, h => by rw [BkF, if_neg (by omega)]
theorem BkF_eq : ∀ (k j a t : Nat), t - a ≤ k → t - a ≤ j → BkF k a t = BkF j a t
  | 0, j, a, t, h, _ => by rw [BkF_nil 0 (by omega), BkF_nil j (by omega)]
  | k + 1, 0, a, t, _, h => by rw [BkF_nil (k + 1) (by omega), BkF_nil 0 (by omega)]
  | k + 1, j + 1, a, t, h1, h2 => by
    rw [BkF, BkF]
    by_cases h : a < t
    · have := szN_pos a t
      rw [if_pos h, if_pos h, BkF_eq k j (a + szN a t) t (by omega) (by omega)]
    · rw [if_neg h, if_neg h]
/-- the blocks of the numbers from a to ahead of t: where they begin, their sizes -/
def Bk (a t : Nat) : List (Nat × Nat) := BkF (t - a) a t
theorem Bk_nil {a t : Nat} (h : t ≤ a) : Bk a t = [] := BkF_nil _ h
theorem Bk_cons {a t : Nat} (h : a < t) : Bk a t = (a, szN a t) :: Bk (a + szN a t) t := by
  have h1 := szN_pos a t
  unfold Bk
  rw [BkF_eq (t - a) (t - a + 1) a t (Nat.le_refl _) (by omega), BkF, if_pos h, BkF_eq (t - a) (t - (a + szN a t)) _ t (by omega) (Nat.le_refl _)]
def bkB (l : List (Nat × Nat)) (j : Nat) : Nat := (l.getD j (0, 0)).1
def bkS (l : List (Nat × Nat)) (j : Nat) : Nat := (l.getD j (0, 0)).2
theorem bkB_drop (l : List (Nat × Nat)) (n j : Nat) : bkB (l.drop n) j = bkB l (n + j) := by
  unfold bkB
  rw [List.getD_eq_getElem?_getD, List.getD_eq_getElem?_getD, List.getElem?_drop]
theorem bkS_drop (l : List (Nat × Nat)) (n j : Nat) : bkS (l.drop n) j = bkS l (n + j) := by
  unfold bkS
  rw [List.getD_eq_getElem?_getD, List.getD_eq_getElem?_getD, List.getElem?_drop]
theorem bkB_app {l m : List (Nat × Nat)} {j : Nat} (h : j < l.length) : bkB (l ++ m) j = bkB l j := by
  unfold bkB
  rw [List.getD_eq_getElem?_getD, List.getD_eq_getElem?_getD, List.getElem?_append_left h]
theorem bkS_app {l m : List (Nat × Nat)} {j : Nat} (h : j < l.length) : bkS (l ++ m) j = bkS l j := by
  unfold bkS
  rw [List.getD_eq_getElem?_getD, List.getD_eq_getElem?_getD, List.getElem?_append_left h]
/-- at most eight blocks -/
theorem Bk_len : ∀ t, t ≤ 32 → ∀ a, a ≤ 32 → (Bk a t).length ≤ 8 := by
  have h : ∀ t : Fin 33, ∀ a : Fin 33, (Bk a.val t.val).length ≤ 8 := by decide +kernel
  exact fun t ht a ha => h ⟨t, by omega⟩ ⟨a, by omega⟩
theorem inF_cat {f g h : Nat → Int32} {a n m : Nat} (hh : ∀ j, j < m → h j = g (n + j)) : inF (inF f g a n) h (a + n) m = inF f g a (n + m) := funext fun j => by
  unfold inF
  by_cases h1 : a + n ≤ j ∧ j < a + n + m
  · rw [if_pos h1, if_pos (by omega), hh _ (by omega), show n + (j - (a + n)) = j - a from by omega]
  · rw [if_neg h1]
    by_cases h2 : a ≤ j ∧ j < a + n
    · rw [if_pos h2, if_pos (by omega)]
    · rw [if_neg h2, if_neg (by omega)]
/-- where the run of protocols from a on ends -/
def reF : Nat → Nat → Nat → Nat
  | 0, _, a => a
  | k + 1, pr, a => if hol pr a then reF k pr (a + 1) else a
def reN (pr a : Nat) : Nat := reF 5 pr a
def PbF : Nat → Nat → Nat → List (Nat × Nat)
  | 0, _, _ => []
  | k + 1, pr, a => if a < 4 then Bk a (reN pr a) ++ PbF k pr (reN pr a + 1) else []
/-- the blocks of a set of protocols -/
def Pb (pr : Nat) : List (Nat × Nat) := PbF 4 pr 0
theorem reF_stop {k pr a : Nat} (h : hol pr a = false) : reF (k + 1) pr a = a := by rw [reF, if_neg (by rw [h]; decide)]
theorem reF_go {k pr a : Nat} (h : hol pr a = true) : reF (k + 1) pr a = reF k pr (a + 1) := by rw [reF, if_pos h]
theorem hol_4 : ∀ pr, pr ≤ 15 → hol pr 4 = false := by
  have h : ∀ pr : Fin 16, hol pr.val 4 = false := by decide +kernel
  exact fun pr hp => h ⟨pr, by omega⟩
theorem Pb_len : ∀ pr, pr ≤ 15 → (Pb pr).length ≤ 2 := by
  have h : ∀ pr : Fin 16, (Pb pr.val).length ≤ 2 := by decide +kernel
  exact fun pr hp => h ⟨pr, by omega⟩
theorem reN_le : ∀ pr, pr ≤ 15 → ∀ a, a ≤ 4 → a ≤ reN pr a ∧ reN pr a ≤ 4 := by
  have h : ∀ pr : Fin 16, ∀ a : Fin 5, a.val ≤ reN pr.val a.val ∧ reN pr.val a.val ≤ 4 := by decide +kernel
  exact fun pr hp a ha => h ⟨pr, by omega⟩ ⟨a, by omega⟩
/-- a rule's blocks -/
def bS (r : RV) : List (Nat × Nat) := Bk (sF r) (sT r + 1)
def bD (r : RV) : List (Nat × Nat) := Bk (dF r) (dT r + 1)
def bP (r : RV) : List (Nat × Nat) := Pb (pR r)
def enN (r : RV) : Nat := (bS r).length * (bD r).length * (bP r).length
/-- an entry's blocks -/
def eP (r : RV) (e : Nat) : Nat := e % (bP r).length
def eD (r : RV) (e : Nat) : Nat := e / (bP r).length % (bD r).length
def eS (r : RV) (e : Nat) : Nat := e / (bP r).length / (bD r).length
def evN (r : RV) (e : Nat) : Nat := 128 * bkB (bS r) (eS r e) + 4 * bkB (bD r) (eD r e) + bkB (bP r) (eP r e)
def emN (r : RV) (e : Nat) : Nat := 128 * (32 - bkS (bS r) (eS r e)) + 4 * (32 - bkS (bD r) (eD r e)) + 4 - bkS (bP r) (eP r e)
theorem bS_len {r : RV} (h : rvOk r) : 1 ≤ (bS r).length ∧ (bS r).length ≤ 8 := by
  unfold rvOk at h
  refine ⟨?_, Bk_len _ (by omega) _ (by omega)⟩
  unfold bS
  rw [Bk_cons (by omega)]
  exact Nat.succ_le_succ (Nat.zero_le _)
theorem bD_len {r : RV} (h : rvOk r) : 1 ≤ (bD r).length ∧ (bD r).length ≤ 8 := by
  unfold rvOk at h
  refine ⟨?_, Bk_len _ (by omega) _ (by omega)⟩
  unfold bD
  rw [Bk_cons (by omega)]
  exact Nat.succ_le_succ (Nat.zero_le _)
theorem bP_len {r : RV} (h : rvOk r) : 1 ≤ (bP r).length ∧ (bP r).length ≤ 2 := by
  unfold rvOk at h
  refine ⟨?_, Pb_len _ (by omega)⟩
  have h2 : ∀ pr : Fin 16, 1 ≤ pr.val → 1 ≤ (Pb pr.val).length := by decide +kernel
  exact h2 ⟨pR r, by omega⟩ (by show 1 ≤ pR r; omega)
/-- the rows of blocks hold the rule's -/
def brep (r : RV) (bg sz : Nat → Int32) : Prop := (∀ j, j < (bS r).length → bg j = nI (bkB (bS r) j) ∧ sz j = nI (bkS (bS r) j)) ∧ (∀ j, j < (bD r).length → bg (8 + j) = nI (bkB (bD r) j) ∧ sz (8 + j) = nI (bkS (bD r) j)) ∧ ∀ j, j < (bP r).length → bg (16 + j) = nI (bkB (bP r) j) ∧ sz (16 + j) = nI (bkS (bP r) j)
def gB (l : List (Nat × Nat)) : Nat → Int32 := fun j => nI (bkB l j)
def gS (l : List (Nat × Nat)) : Nat → Int32 := fun j => nI (bkS l j)
theorem inF_in {f g : Nat → Int32} {a n j : Nat} (h : j < n) : inF f g a n (a + j) = g j := by
  unfold inF
  rw [if_pos (by omega), Nat.add_sub_cancel_left]
theorem inF_out {f g : Nat → Int32} {a n j : Nat} (h : j < a ∨ a + n ≤ j) : inF f g a n j = f j := if_neg (by omega)
theorem szF_step {k a t s : Nat} (h : a % (2 * s) = 0) (h2 : a + 2 * s ≤ t) : szF (k + 1) a t s = szF k a t (s * 2) := by
  rw [szF, if_pos ⟨h, h2⟩, Nat.mul_comm]
theorem PbF_stop {k pr a : Nat} (h : 4 ≤ a) : PbF k pr a = [] := by
  cases k with
  | zero => rfl
  | succ k => rw [PbF, if_neg (by omega)]
theorem PbF_go {k pr a : Nat} (h : a < 4) : PbF (k + 1) pr a = Bk a (reN pr a) ++ PbF k pr (reN pr a + 1) := by rw [PbF, if_pos h]
theorem inF_in0 {f g : Nat → Int32} {n j : Nat} (h : j < n) : inF f g 0 n j = g j := by
  have h1 := inF_in (f := f) (g := g) (a := 0) h
  rw [Nat.zero_add] at h1
  exact h1
theorem brep_make {r : RV} {bg sz : Nat → Int32} (h : rvOk r) : brep r (inF (inF (inF bg (gB (bS r)) 0 (bS r).length) (gB (bD r)) 8 (bD r).length) (gB (bP r)) 16 (bP r).length) (inF (inF (inF sz (gS (bS r)) 0 (bS r).length) (gS (bD r)) 8 (bD r).length) (gS (bP r)) 16 (bP r).length) := by
  have h1 := bS_len h
  have h2 := bD_len h
  have h3 := bP_len h
  refine ⟨fun j hj => ⟨?_, ?_⟩, fun j hj => ⟨?_, ?_⟩, fun j hj => ⟨inF_in hj, inF_in hj⟩⟩
  · exact (inF_out (Or.inl (by omega))).trans ((inF_out (Or.inl (by omega))).trans (inF_in0 hj))
  · exact (inF_out (Or.inl (by omega))).trans ((inF_out (Or.inl (by omega))).trans (inF_in0 hj))
  · exact (inF_out (Or.inl (by omega))).trans (inF_in hj)
  · exact (inF_out (Or.inl (by omega))).trans (inF_in hj)
/-- writing the blocks of destinations and protocols once more changes nothing of them -/
theorem brep_again {r : RV} {bg sz : Nat → Int32} (h : rvOk r) (hb : brep r bg sz) : brep r (inF (inF bg (gB (bD r)) 8 (bD r).length) (gB (bP r)) 16 (bP r).length) (inF (inF sz (gS (bD r)) 8 (bD r).length) (gS (bP r)) 16 (bP r).length) := by
  have h1 := bS_len h
  have h2 := bD_len h
  have h3 := bP_len h
  refine ⟨fun j hj => ⟨?_, ?_⟩, fun j hj => ⟨?_, ?_⟩, fun j hj => ⟨inF_in hj, inF_in hj⟩⟩
  · exact (inF_out (Or.inl (by omega))).trans ((inF_out (Or.inl (by omega))).trans (hb.1 j hj).1)
  · exact (inF_out (Or.inl (by omega))).trans ((inF_out (Or.inl (by omega))).trans (hb.1 j hj).2)
  · exact (inF_out (Or.inl (by omega))).trans (inF_in hj)
  · exact (inF_out (Or.inl (by omega))).trans (inF_in hj)
theorem eP_lt {r : RV} (h : rvOk r) (e : Nat) : eP r e < (bP r).length := Nat.mod_lt _ (bP_len h).1
theorem eD_lt {r : RV} (h : rvOk r) (e : Nat) : eD r e < (bD r).length := Nat.mod_lt _ (bD_len h).1
theorem eS_lt {r : RV} {e : Nat} (h : e < enN r) : eS r e < (bS r).length := by
  unfold eS
  rw [Nat.div_div_eq_div_mul]
  refine Nat.div_lt_of_lt_mul ?_
  rw [Nat.mul_comm (bP r).length, Nat.mul_comm _ (bS r).length, ← Nat.mul_assoc]
  exact h
theorem bk_all {l : List (Nat × Nat)} {c : Nat} (h : l.all (fun b => decide (b.2 ≤ c)) = true) (j : Nat) : bkS l j ≤ c := by
  unfold bkS
  rw [List.getD_eq_getElem?_getD]
  cases hj : l[j]? with
  | none => exact Nat.zero_le c
  | some b => exact of_decide_eq_true (List.all_eq_true.mp h b (List.mem_of_getElem? hj))
theorem Bk_s32 : ∀ t, t ≤ 32 → ∀ a, a ≤ 32 → ∀ j, bkS (Bk a t) j ≤ 32 := by
  have h : ∀ t : Fin 33, ∀ a : Fin 33, (Bk a.val t.val).all (fun b => decide (b.2 ≤ 32)) = true := by decide +kernel
  exact fun t ht a ha j => bk_all (h ⟨t, by omega⟩ ⟨a, by omega⟩) j
theorem Pb_s4 : ∀ pr, pr ≤ 15 → ∀ j, bkS (Pb pr) j ≤ 4 := by
  have h : ∀ pr : Fin 16, (Pb pr.val).all (fun b => decide (b.2 ≤ 4)) = true := by decide +kernel
  exact fun pr hp j => bk_all (h ⟨pr, by omega⟩) j
theorem bS_s32 {r : RV} (h : rvOk r) (j : Nat) : bkS (bS r) j ≤ 32 := by unfold rvOk at h; exact Bk_s32 _ (by omega) _ (by omega) j
theorem bD_s32 {r : RV} (h : rvOk r) (j : Nat) : bkS (bD r) j ≤ 32 := by unfold rvOk at h; exact Bk_s32 _ (by omega) _ (by omega) j
theorem bP_s4 {r : RV} (h : rvOk r) (j : Nat) : bkS (bP r) j ≤ 4 := by unfold rvOk at h; exact Pb_s4 _ (by omega) j
theorem enN_le {r : RV} (h : rvOk r) : 1 ≤ enN r ∧ enN r ≤ 128 := by
  have h1 := bS_len h
  have h2 := bD_len h
  have h3 := bP_len h
  unfold enN
  refine ⟨Nat.mul_pos (Nat.mul_pos h1.1 h2.1) h3.1, ?_⟩
  exact Nat.mul_le_mul (Nat.mul_le_mul h1.2 h2.2) h3.2
