/-! blocks, as the class finds them in the bits of a set -/
theorem blk_le : ∀ n, n < 32 → ∀ k, k ≤ 5 → n / 2 ^ k * 2 ^ k + 2 ^ k ≤ 32 ∧ 1 ≤ 2 ^ k := by
  have h : ∀ n : Fin 32, ∀ k : Fin 6, n.val / 2 ^ k.val * 2 ^ k.val + 2 ^ k.val ≤ 32 ∧ 1 ≤ 2 ^ k.val := by decide +kernel
  exact fun n hn k hk => h ⟨n, hn⟩ ⟨k, by omega⟩
def blkI (n k : Nat) : Int32 := mkI (n / 2 ^ k * 2 ^ k) (n / 2 ^ k * 2 ^ k + 2 ^ k - 1)
/-- the size of the greatest block within a set that holds n, of those below 2^k -/
def bsF (set : Int32) (n : Nat) : Nat → Nat
  | 0 => 0
  | k + 1 => if set &&& blkI n k = blkI n k then 2 ^ k else bsF set n k
theorem bsF_t {set : Int32} {n k : Nat} (h : set &&& blkI n k = blkI n k) : bsF set n (k + 1) = 2 ^ k := by rw [bsF, if_pos h]
theorem bsF_f {set : Int32} {n k : Nat} (h : ¬ set &&& blkI n k = blkI n k) : bsF set n (k + 1) = bsF set n k := by rw [bsF, if_neg h]
theorem bsF_le (set : Int32) (n : Nat) : ∀ k, k ≤ 6 → bsF set n k ≤ 32
  | 0, _ => Nat.zero_le _
  | k + 1, hk => by
    by_cases h : set &&& blkI n k = blkI n k
    · rw [bsF_t h]
      exact Nat.pow_le_pow_right (n := 2) (by decide) (show k ≤ 5 by omega)
    · rw [bsF_f h]
      exact bsF_le set n k (by omega)
/-- whether a block begins at n -/
def bgB (set : Int32) (n : Nat) : Bool := decide (0 < bsF set n 6) && decide (n &&& (bsF set n 6 - 1) = 0)
def bbF (set : Int32) : Nat → Int32
  | 0 => nI 0
  | n + 1 => if bgB set n then bbF set n ||| (nI 1 <<< (nI n &&& 31)) else bbF set n
theorem bbF_t {set : Int32} {n : Nat} (h : bgB set n = true) : bbF set (n + 1) = bbF set n ||| (nI 1 <<< (nI n &&& 31)) := by rw [bbF, if_pos h]
theorem bbF_f {set : Int32} {n : Nat} (h : bgB set n = false) : bbF set (n + 1) = bbF set n := by rw [bbF, if_neg (by rw [h]; decide)]
theorem bt_bbF {set : Int32} : ∀ n, n ≤ 32 → ∀ j, j < 32 → bt (bbF set n) j = (decide (j < n) && bgB set j)
  | 0, _, j, _ => by rw [show bbF set 0 = 0 from rfl, b_0]; rfl
  | n + 1, hn, j, hj => by
    have ih := bt_bbF (set := set) n (by omega) j hj
    have h1 : bt (nI 1 <<< (nI n &&& 31)) j = decide (j = n) := by
      rw [b_shl n (by omega) _ hj]
      by_cases h : n ≤ j
      · rw [bt_1 _ (by omega), decide_eq_true h, Bool.true_and]
        exact decide_eq_decide.mpr (by omega)
      · rw [decide_eq_false h, decide_eq_false (by omega)]
        rfl
    by_cases hjn : j = n
    · subst hjn
      cases hb : bgB set j with
      | true => rw [bbF_t hb, b_or, h1, ih, decide_eq_true rfl, Bool.or_true, decide_eq_true (show j < j + 1 by omega)]; rfl
      | false => rw [bbF_f hb, ih, decide_eq_false (Nat.lt_irrefl j), Bool.false_and, Bool.and_false]
    · have h2 : decide (j < n + 1) = decide (j < n) := decide_eq_decide.mpr (by omega)
      rw [h2]
      cases hb : bgB set n with
      | true => rw [bbF_t hb, b_or, h1, ih, decide_eq_false hjn, Bool.or_false]
      | false => rw [bbF_f hb, ih]
/-- the set of the numbers where blocks begin -/
def bb (set : Int32) : Int32 := bbF set 32
theorem hol_bb (set : Int32) {j : Nat} (hj : j < 32) : holI (bb set) (nI j) = bgB set j := by
  rw [holI_bt _ hj]
  unfold bb
  rw [bt_bbF 32 (Nat.le_refl _) j hj, decide_eq_true hj, Bool.true_and]
/-- a number's bits, summed -/
theorem popN_sum : ∀ (k n : Nat), popN k n = sumN (fun i => bN (n.testBit i)) k
  | 0, _ => rfl
  | k + 1, n => by
    have h : ∀ (f : Nat → Nat) (k : Nat), sumN f (k + 1) = f 0 + sumN (fun i => f (i + 1)) k := fun f k => by
      induction k with
      | zero => show 0 + f 0 = f 0 + 0; omega
      | succ k ih => rw [sumN, ih, sumN]; omega
    rw [popN, popN_sum k (n / 2), h]
    have h0 : bN (n.testBit 0) = n % 2 := by
      rw [Nat.testBit_zero]
      unfold bN
      by_cases hm : n % 2 = 1
      · rw [decide_eq_true hm, hm]; rfl
      · rw [decide_eq_false hm]
        show 0 = n % 2
        omega
    rw [h0]
    refine congrArg (fun q => n % 2 + q) (sumN_congr k fun i _ => ?_)
    rw [Nat.testBit_succ]
theorem popI_sum (x : Int32) : popI x = sumN (fun i => bN (bt x i)) 32 := popN_sum 32 _
theorem pop_bb (set : Int32) : popI (bb set) = sumN (fun i => bN (bgB set i)) 32 := by
  rw [popI_sum]
  refine sumN_congr 32 fun i hi => ?_
  unfold bb
  rw [bt_bbF 32 (Nat.le_refl _) i hi, decide_eq_true hi, Bool.true_and]
/-- a block within the numbers f to t -/
theorem mk_sub {f t a b : Nat} (hf : f ≤ 31) (ht : t ≤ 31) (hab : a ≤ b) (hb : b ≤ 31) : (mkI f t &&& mkI a b = mkI a b) ↔ (f ≤ a ∧ b ≤ t) := by
  constructor
  · intro h
    have h1 : bt (mkI f t &&& mkI a b) a = bt (mkI a b) a := by rw [h]
    have h2 : bt (mkI f t &&& mkI a b) b = bt (mkI a b) b := by rw [h]
    rw [b_and, bt_mk hf ht (by omega), bt_mk (by omega) hb (by omega), decide_eq_true (Nat.le_refl a), decide_eq_true hab, Bool.and_true, Bool.and_true, Bool.and_eq_true] at h1
    rw [b_and, bt_mk hf ht (by omega), bt_mk (by omega) hb (by omega), decide_eq_true (Nat.le_refl b), decide_eq_true hab, Bool.and_true, Bool.and_true, Bool.and_eq_true] at h2
    exact ⟨of_decide_eq_true h1.1, of_decide_eq_true h2.2⟩
  · intro h
    refine b_ext fun i hi => ?_
    rw [b_and, bt_mk hf ht hi, bt_mk (by omega) hb hi]
    by_cases h1 : a ≤ i
    · by_cases h2 : i ≤ b
      · rw [decide_eq_true h1, decide_eq_true h2, decide_eq_true (show f ≤ i by omega), decide_eq_true (show i ≤ t by omega)]
        rfl
      · rw [decide_eq_false h2, Bool.and_false, Bool.and_false]
    · rw [decide_eq_false h1, Bool.false_and, Bool.and_false]
/-- the same on numbers -/
def bsN (f t n : Nat) : Nat → Nat
  | 0 => 0
  | k + 1 => if f ≤ n / 2 ^ k * 2 ^ k ∧ n / 2 ^ k * 2 ^ k + 2 ^ k - 1 ≤ t then 2 ^ k else bsN f t n k
theorem bsF_mk {f t n : Nat} (hf : f ≤ 31) (ht : t ≤ 31) (hn : n < 32) : ∀ k, k ≤ 6 → bsF (mkI f t) n k = bsN f t n k
  | 0, _ => rfl
  | k + 1, hk => by
    have h1 := blk_le n hn k (by omega)
    have h2 := mk_sub (f := f) (t := t) (a := n / 2 ^ k * 2 ^ k) (b := n / 2 ^ k * 2 ^ k + 2 ^ k - 1) hf ht (by omega) (by omega)
    rw [bsN]
    by_cases h : f ≤ n / 2 ^ k * 2 ^ k ∧ n / 2 ^ k * 2 ^ k + 2 ^ k - 1 ≤ t
    · rw [if_pos h, bsF_t (h2.mpr h)]
    · rw [if_neg h, bsF_f (fun z => h (h2.mp z))]
      exact bsF_mk hf ht hn k (by omega)
def bgN (f t n : Nat) : Bool := decide (0 < bsN f t n 6) && decide (n &&& (bsN f t n 6 - 1) = 0)
theorem bgB_mk {f t n : Nat} (hf : f ≤ 31) (ht : t ≤ 31) (hn : n < 32) : bgB (mkI f t) n = bgN f t n := by
  unfold bgB bgN
  rw [bsF_mk hf ht hn 6 (Nat.le_refl _)]
/-- what is asked of the places where blocks begin (bg, of sizes bs) and of a list of blocks l: as many below n; the next of the list is n, of its size -/
def bkOk (bg : Nat → Bool) (bs : Nat → Nat) (l : List (Nat × Nat)) : Bool := (List.range 32).all (fun n => !bg n || (decide (sumN (fun i => bN (bg i)) n < l.length) && decide (bkB l (sumN (fun i => bN (bg i)) n) = n) && decide (bkS l (sumN (fun i => bN (bg i)) n) = bs n))) && decide (sumN (fun i => bN (bg i)) 32 = l.length)
theorem bkOk_r : ∀ f, f ≤ 31 → ∀ t, t ≤ 31 → f ≤ t → bkOk (bgN f t) (fun n => bsN f t n 6) (Bk f (t + 1)) = true := by
  have h : ∀ f : Fin 32, ∀ t : Fin 32, (!decide (f.val ≤ t.val) || bkOk (bgN f.val t.val) (fun n => bsN f.val t.val n 6) (Bk f.val (t.val + 1))) = true := by decide +kernel
  intro f hf t ht hft
  have h1 := h ⟨f, by omega⟩ ⟨t, by omega⟩
  rw [decide_eq_true (show f ≤ t from hft)] at h1
  exact h1
theorem bkOk_p : ∀ pr, 1 ≤ pr → pr ≤ 15 → bkOk (bgB (nI pr)) (fun n => bsF (nI pr) n 6) (Pb pr) = true := by
  have h : ∀ pr : Fin 16, (!decide (1 ≤ pr.val) || bkOk (bgB (nI pr.val)) (fun n => bsF (nI pr.val) n 6) (Pb pr.val)) = true := by decide +kernel
  intro pr h1 h2
  have h3 := h ⟨pr, by omega⟩
  rw [decide_eq_true (show 1 ≤ pr from h1)] at h3
  exact h3
/-- what the answers need of it -/
theorem bkOk_at {bg : Nat → Bool} {bs : Nat → Nat} {l : List (Nat × Nat)} (h : bkOk bg bs l = true) {n : Nat} (hn : n < 32) (hb : bg n = true) : sumN (fun i => bN (bg i)) n < l.length ∧ bkB l (sumN (fun i => bN (bg i)) n) = n ∧ bkS l (sumN (fun i => bN (bg i)) n) = bs n := by
  unfold bkOk at h
  rw [Bool.and_eq_true] at h
  have h1 := List.all_eq_true.mp h.1 n (List.mem_range.mpr hn)
  rw [hb] at h1
  simp only [Bool.not_true, Bool.false_or, Bool.and_eq_true, decide_eq_true_iff] at h1
  exact ⟨h1.1.1, h1.1.2, h1.2⟩
theorem bkOk_all {bg : Nat → Bool} {bs : Nat → Nat} {l : List (Nat × Nat)} (h : bkOk bg bs l = true) : sumN (fun i => bN (bg i)) 32 = l.length := by
  unfold bkOk at h
  rw [Bool.and_eq_true] at h
  exact of_decide_eq_true h.2
/-- begins of blocks below n -/
def cB (set : Int32) (n : Nat) : Nat := sumN (fun i => bN (bgB set i)) n
theorem cB_s (set : Int32) (n : Nat) : cB set (n + 1) = cB set n + bN (bgB set n) := rfl
theorem mkOk {f t : Nat} (hf : f ≤ t) (ht : t ≤ 31) : bkOk (bgB (mkI f t)) (fun n => bsF (mkI f t) n 6) (Bk f (t + 1)) = true := by
  have h := bkOk_r f (by omega) t ht hf
  unfold bkOk at h ⊢
  rw [Bool.and_eq_true] at h ⊢
  have hs : ∀ n, n ≤ 32 → sumN (fun i => bN (bgB (mkI f t) i)) n = sumN (fun i => bN (bgN f t i)) n := fun n hn => sumN_congr n fun i hi => by rw [bgB_mk (by omega) ht (by omega)]
  refine ⟨List.all_eq_true.mpr fun n hn => ?_, by rw [hs 32 (Nat.le_refl _)]; exact h.2⟩
  have hn2 := List.mem_range.mp hn
  have h1 := List.all_eq_true.mp h.1 n hn
  rw [bgB_mk (by omega) ht hn2, hs n (by omega), show (fun n => bsF (mkI f t) n 6) n = bsN f t n 6 from bsF_mk (by omega) ht hn2 6 (Nat.le_refl _)]
  exact h1
/-- a rule's three sets: their blocks -/
theorem okS {r : RV} (h : rvOk r) : bkOk (bgB (mkI (sF r) (sT r))) (fun n => bsF (mkI (sF r) (sT r)) n 6) (bS r) = true := by unfold rvOk at h; exact mkOk (by omega) (by omega)
theorem okD {r : RV} (h : rvOk r) : bkOk (bgB (mkI (dF r) (dT r))) (fun n => bsF (mkI (dF r) (dT r)) n 6) (bD r) = true := by unfold rvOk at h; exact mkOk (by omega) (by omega)
theorem okP {r : RV} (h : rvOk r) : bkOk (bgB (nI (pR r))) (fun n => bsF (nI (pR r)) n 6) (bP r) = true := by unfold rvOk at h; exact bkOk_p _ (by omega) (by omega)
theorem pop_okk {set : Int32} {l : List (Nat × Nat)} (h : bkOk (bgB set) (fun n => bsF set n 6) l = true) : popI (bb set) = l.length := (pop_bb set).trans (bkOk_all h)
/-- protocols begin below 4 -/
theorem bgP4 : ∀ pr, pr ≤ 15 → cB (nI pr) 4 = cB (nI pr) 32 := by
  have h : ∀ pr : Fin 16, cB (nI pr.val) 4 = cB (nI pr.val) 32 := by decide +kernel
  exact fun pr hp => h ⟨pr, by omega⟩
/-- the e-th entry's places -/
theorem ent_at {r : RV} {e a b c : Nat} (h : rvOk r) (hb : b < (bD r).length) (hc : c < (bP r).length) (he : e = a * ((bD r).length * (bP r).length) + b * (bP r).length + c) : eS r e = a ∧ eD r e = b ∧ eP r e = c := by
  have hP : 0 < (bP r).length := (bP_len h).1
  have h1 : e = c + (bP r).length * (a * (bD r).length + b) := by
    rw [he, Nat.mul_add, ← Nat.mul_assoc a, Nat.mul_comm (bP r).length (a * (bD r).length), Nat.mul_comm (bP r).length b]
    omega
  have h2 : e / (bP r).length = a * (bD r).length + b := by rw [h1, Nat.add_mul_div_left _ _ hP, Nat.div_eq_of_lt hc, Nat.zero_add]
  have h3 : e % (bP r).length = c := by rw [h1, Nat.add_mul_mod_self_left, Nat.mod_eq_of_lt hc]
  unfold eS eD eP
  rw [h2, h3, Nat.mul_comm a, Nat.add_comm _ b]
  refine ⟨?_, ?_, rfl⟩
  · rw [Nat.add_mul_div_left _ _ (bD_len h).1, Nat.div_eq_of_lt hb, Nat.zero_add]
  · rw [Nat.add_mul_mod_self_left, Nat.mod_eq_of_lt hb]
/-- each block of the list begins where the class finds one, of its size -/
def bkOk2 (bs : Nat → Nat) (l : List (Nat × Nat)) (c : Nat) : Bool := l.all (fun b => decide (b.1 < c) && decide (b.2 = bs b.1) && decide (0 < b.2))
theorem bkOk2_at {bs : Nat → Nat} {l : List (Nat × Nat)} {c : Nat} (h : bkOk2 bs l c = true) {j : Nat} (hj : j < l.length) : bkB l j < c ∧ bkS l j = bs (bkB l j) ∧ 0 < bkS l j := by
  have h1 := List.all_eq_true.mp h l[j] (List.getElem_mem hj)
  rw [Bool.and_eq_true, Bool.and_eq_true] at h1
  have e : l.getD j (0, 0) = l[j] := by rw [List.getD_eq_getElem?_getD, List.getElem?_eq_getElem hj]; rfl
  unfold bkB bkS
  rw [e]
  exact ⟨of_decide_eq_true h1.1.1, of_decide_eq_true h1.1.2, of_decide_eq_true h1.2⟩
theorem bkOk2_r : ∀ f, f ≤ 31 → ∀ t, t ≤ 31 → f ≤ t → bkOk2 (fun n => bsN f t n 6) (Bk f (t + 1)) 32 = true := by
  have h : ∀ f : Fin 32, ∀ t : Fin 32, (!decide (f.val ≤ t.val) || bkOk2 (fun n => bsN f.val t.val n 6) (Bk f.val (t.val + 1)) 32) = true := by decide +kernel
  intro f hf t ht hft
  have h1 := h ⟨f, by omega⟩ ⟨t, by omega⟩
  rw [decide_eq_true (show f ≤ t from hft)] at h1
  exact h1
theorem bkOk2_p : ∀ pr, 1 ≤ pr → pr ≤ 15 → bkOk2 (fun n => bsF (nI pr) n 6) (Pb pr) 4 = true := by
  have h : ∀ pr : Fin 16, (!decide (1 ≤ pr.val) || bkOk2 (fun n => bsF (nI pr.val) n 6) (Pb pr.val) 4) = true := by decide +kernel
  intro pr h1 h2
  have h3 := h ⟨pr, by omega⟩
  rw [decide_eq_true (show 1 ≤ pr from h1)] at h3
  exact h3
theorem bk_r {f t j : Nat} (hf : f ≤ t) (ht : t ≤ 31) (hj : j < (Bk f (t + 1)).length) : bkB (Bk f (t + 1)) j < 32 ∧ bkS (Bk f (t + 1)) j = bsF (mkI f t) (bkB (Bk f (t + 1)) j) 6 ∧ 0 < bkS (Bk f (t + 1)) j := by
  have h := bkOk2_at (bkOk2_r f (by omega) t ht hf) hj
  refine ⟨h.1, ?_, h.2.2⟩
  rw [bsF_mk (by omega) ht h.1 6 (Nat.le_refl _)]
  exact h.2.1
theorem bS_at {r : RV} (h : rvOk r) {j : Nat} (hj : j < (bS r).length) : bkB (bS r) j < 32 ∧ bkS (bS r) j = bsF (mkI (sF r) (sT r)) (bkB (bS r) j) 6 ∧ 0 < bkS (bS r) j := by unfold rvOk at h; exact bk_r (by omega) (by omega) hj
theorem bD_at {r : RV} (h : rvOk r) {j : Nat} (hj : j < (bD r).length) : bkB (bD r) j < 32 ∧ bkS (bD r) j = bsF (mkI (dF r) (dT r)) (bkB (bD r) j) 6 ∧ 0 < bkS (bD r) j := by unfold rvOk at h; exact bk_r (by omega) (by omega) hj
theorem bP_at {r : RV} (h : rvOk r) {j : Nat} (hj : j < (bP r).length) : bkB (bP r) j < 4 ∧ bkS (bP r) j = bsF (nI (pR r)) (bkB (bP r) j) 6 ∧ 0 < bkS (bP r) j := by unfold rvOk at h; exact bkOk2_at (bkOk2_p (pR r) (by omega) (by omega)) hj
theorem bsF_pow (set : Int32) (n : Nat) : ∀ k, k ≤ 6 → 0 < bsF set n k → ∃ j, j ≤ 5 ∧ bsF set n k = 2 ^ j
  | 0, _, h => absurd h (Nat.lt_irrefl 0)
  | k + 1, hk, h => by
    by_cases h1 : set &&& blkI n k = blkI n k
    · exact ⟨k, by omega, bsF_t h1⟩
    · rw [bsF_f h1] at h ⊢
      exact bsF_pow set n k (by omega) h
theorem msk32 {set : Int32} {n : Nat} (h : 0 < bsF set n 6) : nI 31 &&& (-(nI (bsF set n 6))) = nI (32 - bsF set n 6) := by
  obtain ⟨j, hj, e⟩ := bsF_pow set n 6 (Nat.le_refl _) h
  rw [e]
  have h2 : ∀ j : Fin 6, nI 31 &&& (-(nI (2 ^ j.val))) = nI (32 - 2 ^ j.val) := by decide +kernel
  exact h2 ⟨j, by omega⟩
theorem msk4 {set : Int32} {n : Nat} (h : 0 < bsF set n 6) (h4 : bsF set n 6 ≤ 4) : nI 3 &&& (-(nI (bsF set n 6))) = nI (4 - bsF set n 6) := by
  obtain ⟨j, hj, e⟩ := bsF_pow set n 6 (Nat.le_refl _) h
  have h2 : ∀ j : Fin 6, 2 ^ j.val ≤ 4 → nI 3 &&& (-(nI (2 ^ j.val))) = nI (4 - 2 ^ j.val) := by decide +kernel
  rw [e] at h4 ⊢
  exact h2 ⟨j, by omega⟩ h4
