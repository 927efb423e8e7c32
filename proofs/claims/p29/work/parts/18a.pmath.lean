/-! what a list's decisions satisfy: sums, shadows, needless rules, exchanges, merging, moving -/
theorem sumN_mono {f g : Nat → Nat} : ∀ (n : Nat), (∀ i, i < n → f i ≤ g i) → sumN f n ≤ sumN g n
  | 0, _ => Nat.le_refl 0
  | n + 1, h => Nat.add_le_add (sumN_mono n (fun i hi => h i (Nat.lt_succ_of_lt hi))) (h n (Nat.lt_succ_self n))
theorem sumN_add (f g : Nat → Nat) : ∀ n, sumN (fun i => f i + g i) n = sumN f n + sumN g n
  | 0 => rfl
  | n + 1 => by
    show sumN (fun i => f i + g i) n + (f n + g n) = (sumN f n + f n) + (sumN g n + g n)
    rw [sumN_add f g n]
    omega
theorem sumN_swap (f : Nat → Nat → Nat) (m : Nat) : ∀ n, sumN (fun i => sumN (f i) m) n = sumN (fun k => sumN (fun i => f i k) n) m
  | 0 => (sumN_0 (fun _ _ => rfl)).symm
  | n + 1 => by
    show sumN (fun i => sumN (f i) m) n + sumN (f n) m = sumN (fun k => sumN (fun i => f i k) n + f n k) m
    rw [sumN_swap f m n]
    exact (sumN_add (fun k => sumN (fun i => f i k) n) (f n) m).symm
theorem sumN_z {f : Nat → Nat} : ∀ {n : Nat}, sumN f n = 0 → ∀ i, i < n → f i = 0
  | 0, _, i, hi => absurd hi (Nat.not_lt_zero i)
  | n + 1, h, i, hi => by
    have h2 : sumN f n + f n = 0 := h
    by_cases hin : i = n
    · rw [hin]; omega
    · exact sumN_z (n := n) (by omega) i (by omega)
theorem and_c (x y : Int32) : x &&& y = y &&& x := b_ext fun i _ => by rw [b_and, b_and, Bool.and_comm]
theorem and_self (x : Int32) : x &&& x = x := b_ext fun i _ => by rw [b_and, Bool.and_self]
theorem b_not (x : Int32) {i : Nat} (hi : i < 32) : bt (~~~x) i = !bt x i := by
  rw [← i_not, b_xor, b_m1 i hi]
  cases bt x i <;> rfl
theorem pop_mono {x y : Int32} (h : ∀ i, i < 32 → bt x i = true → bt y i = true) : popI x ≤ popI y := by
  simp only [popI_sum]
  refine sumN_mono 32 fun i hi => ?_
  have h1 := h i hi
  cases hx : bt x i with
  | false => exact Nat.zero_le (bN (bt y i))
  | true => rw [h1 hx]; exact Nat.le_refl _
theorem pop_split (x y : Int32) : popI (x &&& y) + popI (x &&& ~~~y) = popI x := by
  simp only [popI_sum]
  rw [← sumN_add]
  refine sumN_congr 32 fun i hi => ?_
  rw [b_and, b_and, b_not y hi]
  cases bt x i <;> cases bt y i <;> rfl
theorem pop_or {x y : Int32} (h : ∀ i, i < 32 → (bt x i && bt y i) = false) : popI (x ||| y) = popI x + popI y := by
  simp only [popI_sum]
  rw [← sumN_add]
  refine sumN_congr 32 fun i hi => ?_
  have h1 := h i hi
  rw [b_or]
  revert h1
  cases bt x i <;> cases bt y i <;> intro h1 <;> first | rfl | exact absurd h1 (by decide)
theorem pop_tri (x y : Int32) : popI x ≤ popI y + popI (x ^^^ y) := by
  simp only [popI_sum]
  rw [← sumN_add]
  refine sumN_mono 32 fun i hi => ?_
  rw [b_xor]
  cases bt x i <;> cases bt y i <;> decide
theorem pop_z {x : Int32} (h : popI x = 0) : x = 0 := b_ext fun i hi => by
  rw [b_0]
  rw [popI_sum] at h
  have h1 := sumN_z h i hi
  cases hx : bt x i with
  | false => rfl
  | true => rw [hx] at h1; exact absurd h1 (by decide)
theorem xor_c (x y : Int32) : x ^^^ y = y ^^^ x := b_ext fun i _ => by
  rw [b_xor, b_xor]
  cases bt x i <;> cases bt y i <;> rfl
/-! what no rule ahead matches; what a rule decides -/
theorem ud_s (rs : List RV) (s p a : Nat) : udN rs s p (a + 1) = udN rs s p a &&& ~~~(mtI (gt rs a) s p) := by
  cases hc : con (gt rs a) s p with
  | true => rw [udN_t hc, mtI_t hc, i_not]
  | false => rw [udN_f hc, mtI_f hc, n_0, and_m1]
theorem bt_ud {rs : List RV} {s p : Nat} : ∀ a i, i < 32 → bt (udN rs s p a) i = true → ∀ j, j < a → bt (mtI (gt rs j) s p) i = false
  | 0, _, _, _, j, hj => absurd hj (Nat.not_lt_zero j)
  | a + 1, i, hi, h, j, hj => by
    rw [ud_s, b_and, b_not _ hi, Bool.and_eq_true] at h
    by_cases hja : j = a
    · rw [hja]
      cases hb : bt (mtI (gt rs a) s p) i with
      | false => rfl
      | true => rw [hb] at h; exact absurd h.2 (by decide)
    · exact bt_ud a i hi h.1 j (by omega)
theorem ad_tot (rs : List RV) (s p : Nat) : ∀ n, sumN (fun i => popI (adN rs i s p i)) n + popI (udN rs s p n) = 32
  | 0 => by
    show 0 + popI (-1) = 32
    decide +kernel
  | n + 1 => by
    have ih := ad_tot rs s p n
    have h := pop_split (udN rs s p n) (mtI (gt rs n) s p)
    have e : popI (adN rs n s p n) = popI (udN rs s p n &&& mtI (gt rs n) s p) := by rw [adN_ud, and_c]
    have e2 : sumN (fun i => popI (adN rs i s p i)) (n + 1) = sumN (fun i => popI (adN rs i s p i)) n + popI (adN rs n s p n) := rfl
    rw [e2, ud_s, e]
    omega
theorem dc_all (rs : List RV) (n : Nat) : sumN (fun i => dcN rs i) n ≤ 4096 := by
  have h1 : sumN (fun i => dcN rs i) n = sumN (fun k => sumN (fun i => popI (adN rs i (k / 4) (k % 4) i)) n) 128 := sumN_swap (fun i k => popI (adN rs i (k / 4) (k % 4) i)) 128 n
  rw [h1]
  refine Nat.le_trans (sumN_le (c := 32) 128 (fun k _ => ?_)) (by decide)
  have h := ad_tot rs (k / 4) (k % 4) n
  omega
theorem nI_m1 {i : Nat} (hi : i < 2 ^ 31) : ¬ nI i = -1 := fun z => by
  have h2 := nI_toInt (n := i) hi
  rw [z] at h2
  have h3 : (-1 : Int32).toInt = -1 := by decide +kernel
  omega
theorem pm_ud (rs : List RV) (s p : Nat) : ∀ i, i < 2 ^ 31 → (pmN rs s p (-1) i).1 = udN rs s p i
  | 0, _ => rfl
  | i + 1, hi => by rw [pmN_1 (nI_m1 (show i < 2 ^ 31 by omega)), pm_ud rs s p i (by omega), ud_s]
theorem pm_dis (rs : List RV) (s p : Nat) {d : Nat} (hd : d < 32) : ∀ i, i < 2 ^ 31 → (bt (pmN rs s p (-1) i).2 d && bt (udN rs s p i) d) = false
  | 0, _ => by
    show (bt 0 d && bt (udN rs s p 0) d) = false
    rw [b_0, Bool.false_and]
  | i + 1, hi => by
    have ih := pm_dis rs s p hd i (by omega)
    rw [ud_s, b_and, b_not _ hd]
    cases hp : pM (gt rs i) with
    | true =>
      rw [pmN_t (nI_m1 (show i < 2 ^ 31 by omega)) hp, b_or, b_and, pm_ud rs s p i (by omega)]
      revert ih
      cases bt (pmN rs s p (-1) i).2 d <;> cases bt (udN rs s p i) d <;> cases bt (mtI (gt rs i) s p) d <;> intro ih <;> first | rfl | exact absurd ih (by decide)
    | false =>
      rw [pmN_f (nI_m1 (show i < 2 ^ 31 by omega)) hp]
      revert ih
      cases bt (pmN rs s p (-1) i).2 d <;> cases bt (udN rs s p i) d <;> cases bt (mtI (gt rs i) s p) d <;> intro ih <;> first | rfl | exact absurd ih (by decide)
theorem pm_pop (rs : List RV) (s p : Nat) : ∀ n, n < 2 ^ 31 → popI (pmN rs s p (-1) n).2 = sumN (fun i => if pM (gt rs i) then popI (adN rs i s p i) else 0) n
  | 0, _ => popI_0
  | n + 1, hn => by
    have ih := pm_pop rs s p n (by omega)
    have e2 : sumN (fun i => if pM (gt rs i) then popI (adN rs i s p i) else 0) (n + 1) = sumN (fun i => if pM (gt rs i) then popI (adN rs i s p i) else 0) n + (if pM (gt rs n) then popI (adN rs n s p n) else 0) := rfl
    rw [e2, ← ih]
    cases hp : pM (gt rs n) with
    | true =>
      rw [pmN_t (nI_m1 (show n < 2 ^ 31 by omega)) hp, pm_ud rs s p n (by omega), if_pos rfl, adN_ud, and_c (mtI (gt rs n) s p)]
      refine pop_or fun d hd => ?_
      rw [b_and]
      have h := pm_dis rs s p hd n (by omega)
      revert h
      cases bt (pmN rs s p (-1) n).2 d <;> cases bt (udN rs s p n) d <;> cases bt (mtI (gt rs n) s p) d <;> intro h <;> first | rfl | exact absurd h (by decide)
    | false =>
      rw [pmN_f (nI_m1 (show n < 2 ^ 31 by omega)) hp, if_neg (by decide), Nat.add_zero]
/-- what is permitted is what the permitting rules decide -/
theorem pmT_dc (rs : List RV) (h : rs.length < 2 ^ 31) : pmT rs = sumN (fun i => if pM (gt rs i) then dcN rs i else 0) rs.length := by
  have h1 : pmT rs = sumN (fun k => sumN (fun i => if pM (gt rs i) then popI (adN rs i (k / 4) (k % 4) i) else 0) rs.length) 128 := sumN_congr 128 fun k _ => pm_pop rs (k / 4) (k % 4) rs.length h
  refine h1.trans ((sumN_swap (fun i k => if pM (gt rs i) then popI (adN rs i (k / 4) (k % 4) i) else 0) 128 rs.length).symm.trans (sumN_congr _ fun i _ => ?_))
  cases pM (gt rs i) with
  | true => 
    rw [if_pos rfl]
    exact sumN_congr 128 fun k _ => if_pos rfl
  | false => 
    rw [if_neg (by decide)]
    exact sumN_0 fun k _ => if_neg (by decide)
theorem pmT_le (rs : List RV) : pmT rs ≤ 4096 := Nat.le_trans (sumN_le (c := 32) 128 (fun k _ => popI_le _)) (by decide)
theorem chN_le (a b : List RV) : chN a b ≤ 4096 := Nat.le_trans (sumN_le (c := 32) 128 (fun k _ => popI_le _)) (by decide)
/-! a rule's size, overlaps -/
theorem cm_comm (a b : RV) : cmN a b = cmN b a := sumN_congr 128 fun k _ => by rw [and_c]
theorem cm_le (a b : RV) : cmN a b ≤ cmN a a := sumN_mono 128 fun k _ => pop_mono fun i hi h => by
  rw [b_and, Bool.and_eq_true] at h
  rw [and_self]
  exact h.1
theorem cm_le2 (a b : RV) : cmN a b ≤ cmN b b := by
  rw [cm_comm]
  exact cm_le b a
theorem cm_max (a b : RV) : cmN a b ≤ 4096 := Nat.le_trans (sumN_le (c := 32) 128 (fun k _ => popI_le _)) (by decide)
theorem dc_le (rs : List RV) (pl : Nat) : dcN rs pl ≤ cmN (gt rs pl) (gt rs pl) := sumN_mono 128 fun k _ => pop_mono fun i hi h => by
  rw [adN_ud, b_and, Bool.and_eq_true] at h
  rw [and_self]
  exact h.1
theorem dc_zero (rs : List RV) : dcN rs 0 = cmN (gt rs 0) (gt rs 0) := sumN_congr 128 fun k _ => by
  rw [and_self]
  rfl
/-- how many numbers, how many protocols -/
def szR (r : RV) : Nat := (sT r - sF r + 1) * (dT r - dF r + 1) * sumN (fun k => bN (bt (nI (pR r)) k)) 4
theorem pop_many : ∀ a : Fin 16, sumN (fun k => bN (bt (nI a.val) k)) 4 = popI (nI (a.val &&& a.val)) := by decide +kernel
theorem sz_cm {r : RV} (h : rvOk r) : szR r = cmN r r := by
  rw [← cp_cm h h]
  unfold rvOk at h
  unfold szR cpN cnN
  have h1 := pop_many ⟨pR r, by omega⟩
  have h1 : sumN (fun k => bN (bt (nI (pR r)) k)) 4 = popI (nI (pR r &&& pR r)) := h1
  rw [h1, show min (sT r) (sT r) = sT r from by omega, show max (sF r) (sF r) = sF r from by omega, show min (dT r) (dT r) = dT r from by omega, show max (dF r) (dF r) = dF r from by omega, show sT r - sF r + 1 = sT r + 1 - sF r from by omega, show dT r - dF r + 1 = dT r + 1 - dF r from by omega]
theorem many_le (x : Int32) : ∀ n, sumN (fun k => bN (bt x k)) n ≤ n
  | 0 => Nat.le_refl 0
  | n + 1 => Nat.add_le_add (many_le x n) (bN_le _)
/-! a packet's bit in what a rule matches -/
theorem bt_mt {r : RV} {s d p : Nat} (h : rvOk r) (hd : d < 32) : bt (mtI r s p) d = mtB r s d p := by
  unfold rvOk at h
  unfold mtB
  cases hc : con r s p with
  | false => rw [mtI_f hc, b_0, Bool.false_and]
  | true =>
    rw [mtI_t hc, bt_mk (by omega) (by omega) hd, Bool.true_and]
    rfl
theorem hol_bt (a : Nat) {p : Nat} (hp : p < 32) : hol a p = bt (nI a) p := holI_bt _ hp
/-- a rule that covers another matches what that matches -/
theorem cv_mt {a b : RV} {s d p : Nat} (hp : p < 32) (h : cvB a b = true) (hm : mtB b s d p = true) : mtB a s d p = true := by
  unfold cvB iaB at h
  rw [Bool.and_eq_true, Bool.and_eq_true, Bool.and_eq_true, Bool.and_eq_true, decide_eq_true_eq, decide_eq_true_eq, decide_eq_true_eq, decide_eq_true_eq, decide_eq_true_eq] at h
  unfold mtB con at hm ⊢
  rw [Bool.and_eq_true, Bool.and_eq_true, inN_iff, inN_iff, hol_bt _ hp] at hm ⊢
  refine ⟨⟨by omega, ?_⟩, by omega⟩
  have h1 := hm.1.2
  rw [← h.2, ← nx_and, b_and, Bool.and_eq_true] at h1
  exact h1.1
theorem dc_shadow {rs : List RV} {k i : Nat} (hok : rsOk rs) (hk : k < i) (hi : i < rs.length) (h : cvB (gt rs k) (gt rs i) = true) : dcN rs i = 0 := sumN_0 fun q _ => by
  have e : adN rs i (q / 4) (q % 4) i = 0 := b_ext fun d hd => by
    rw [b_0, adN_ud, b_and]
    cases h1 : bt (mtI (gt rs i) (q / 4) (q % 4)) d with
    | false => rfl
    | true =>
      cases h2 : bt (udN rs (q / 4) (q % 4) i) d with
      | false => rfl
      | true =>
        have h3 := bt_ud i d hd h2 k hk
        rw [bt_mt (hok.2 i hi) hd] at h1
        rw [bt_mt (hok.2 k (by omega)) hd, cv_mt (by omega) h h1] at h3
        cases h3
  rw [e]
  exact popI_0
theorem cm_shadow {a b : RV} (ha : rvOk a) (hb : rvOk b) (h : cvB a b = true) : cmN a b = cmN b b := by
  rw [cv_cm ha hb] at h
  exact Nat.le_antisymm (cm_le2 a b) (of_decide_eq_true h)
/-! one rule's step -/
def stp (r : RV) (s p : Nat) (x : Int32 × Int32) : Int32 × Int32 := (x.1 &&& ~~~(mtI r s p), if pM r then x.2 ||| (x.1 &&& mtI r s p) else x.2)
theorem pm_s {rs : List RV} {s p i : Nat} {wo : Int32} (h : ¬ nI i = wo) : pmN rs s p wo (i + 1) = stp (gt rs i) s p (pmN rs s p wo i) := by
  rw [pmN, if_neg h]
  rfl
theorem b_st1 {r : RV} {s p i : Nat} {x : Int32 × Int32} (hi : i < 32) : bt (stp r s p x).1 i = (bt x.1 i && !bt (mtI r s p) i) := by
  show bt (x.1 &&& ~~~(mtI r s p)) i = _
  rw [b_and, b_not _ hi]
theorem b_st2 {r : RV} {s p i : Nat} {x : Int32 × Int32} : bt (stp r s p x).2 i = (bt x.2 i || (pM r && (bt x.1 i && bt (mtI r s p) i))) := by
  unfold stp
  cases pM r with
  | true =>
    show bt (x.2 ||| (x.1 &&& mtI r s p)) i = _
    rw [b_or, b_and, Bool.true_and]
  | false =>
    show bt x.2 i = _
    rw [Bool.false_and, Bool.or_false]
theorem pm_shift {A B : List RV} {s p d a : Nat} {wA wB : Int32} (h0 : pmN A s p wA (a + d) = pmN B s p wB a) : ∀ b, a ≤ b → (∀ j, a ≤ j → j < b → gt A (j + d) = gt B j ∧ ¬ nI (j + d) = wA ∧ ¬ nI j = wB) → pmN A s p wA (b + d) = pmN B s p wB b
  | 0, hb, _ => by
    have e : a = 0 := by omega
    rw [e] at h0
    exact h0
  | b + 1, hb, h => by
    by_cases hab : a = b + 1
    · rw [← hab]
      exact h0
    · have h1 := h b (by omega) (by omega)
      rw [show b + 1 + d = b + d + 1 from by omega, pm_s h1.2.1, pm_s h1.2.2, pm_shift h0 b (by omega) (fun j h2 h3 => h j h2 (by omega)), h1.1]
/-- without the rule at a place: the list without it -/
theorem pm_er {rs : List RV} {s p k : Nat} (hk : k < rs.length) (hn : rs.length < 2 ^ 31) : pmI rs s p (nI k) = pmI (rs.eraseIdx k) s p (-1) := by
  have e0 : pmN rs s p (nI k) (k + 0) = pmN (rs.eraseIdx k) s p (-1) k := pm_shift (A := rs) (B := rs.eraseIdx k) (wA := nI k) (wB := -1) (a := 0) (d := 0) rfl k (Nat.zero_le _) (fun j _ hj => ⟨(by rw [gt_erase, if_pos hj] : gt rs j = gt (rs.eraseIdx k) j), fun z => absurd ((nI_eq (by omega) (by omega)).mp z) (by omega), nI_m1 (by omega)⟩)
  have e1 : pmN rs s p (nI k) (k + 1) = pmN (rs.eraseIdx k) s p (-1) k := by
    rw [pmN_e rfl]
    exact e0
  have e2 := pm_shift (d := 1) e1 (rs.length - 1) (by omega) (fun j h1 h2 => ⟨by rw [gt_erase, if_neg (by omega)], fun z => absurd ((nI_eq (by omega) (by omega)).mp z) (by omega), nI_m1 (by omega)⟩)
  unfold pmI
  rw [len_erase hk, ← e2, show rs.length - 1 + 1 = rs.length from by omega]
/-- two lists permit the same -/
def pmE (a b : List RV) : Prop := ∀ s p, s < 32 → p < 4 → pmI a s p (-1) = pmI b s p (-1)
theorem pmE_T {a b : List RV} (h : pmE a b) : pmT a = pmT b := sumN_congr 128 fun k hk => by rw [h (k / 4) (k % 4) (by omega) (by omega)]
theorem pmE_r (a : List RV) : pmE a a := fun _ _ _ _ => rfl
theorem pmE_t {a b c : List RV} (h : pmE a b) (h2 : pmE b c) : pmE a c := fun s p hs hp => (h s p hs hp).trans (h2 s p hs hp)
theorem pmE_nd {rs : List RV} {k : Nat} (hk : k < rs.length) (hn : rs.length < 2 ^ 31) (h : ndB rs k = true) : pmE rs (rs.eraseIdx k) := fun s p hs hp => by
  rw [← pm_er hk hn]
  have h0 : ndP rs k (4 * s + p) = true := allN_iff.mp h (4 * s + p) (by omega)
  unfold ndP at h0
  have h1 := of_decide_eq_true h0
  rw [show (4 * s + p) / 4 = s from by omega, show (4 * s + p) % 4 = p from by omega] at h1
  exact h1
/-- a rule that decides nothing is needless -/
theorem pm_no {rs : List RV} {s p k : Nat} (h : adN rs k s p k = 0) (hk : k < 2 ^ 31) : ∀ i, i < 2 ^ 31 → pmN rs s p (-1) i = pmN rs s p (nI k) i
  | 0, _ => rfl
  | i + 1, hi => by
    have ih := pm_no h hk i (by omega)
    by_cases hik : i = k
    · rw [hik] at ih ⊢
      rw [pmN_e rfl, pm_s (nI_m1 hk), ← ih]
      have hb : ∀ d, d < 32 → (bt (pmN rs s p (-1) k).1 d && bt (mtI (gt rs k) s p) d) = false := fun d hd => by
        rw [pm_ud rs s p k hk, ← b_and, and_c, ← adN_ud, h, b_0]
      refine Prod.ext (b_ext fun d hd => ?_) (b_ext fun d hd => ?_)
      · rw [b_st1 hd]
        have h1 := hb d hd
        revert h1
        cases bt (pmN rs s p (-1) k).1 d <;> cases bt (mtI (gt rs k) s p) d <;> intro h1 <;> first | rfl | exact absurd h1 (by decide)
      · rw [b_st2, hb d hd, Bool.and_false, Bool.or_false]
    · rw [pm_s (nI_m1 (show i < 2 ^ 31 by omega)), pm_s (fun z => hik ((nI_eq (by omega) hk).mp z)), ih]
theorem nd_dc {rs : List RV} {k : Nat} (hk : k < 2 ^ 31) (hn : rs.length < 2 ^ 31) (h : dcN rs k = 0) : ndB rs k = true := allN_iff.mpr fun q hq => decide_eq_true (by
  have h1 : popI (adN rs k (q / 4) (q % 4) k) = 0 := sumN_z (f := fun q => popI (adN rs k (q / 4) (q % 4) k)) h q hq
  unfold pmI
  rw [pm_no (pop_z h1) hk _ hn])
/-! exchanging two neighbours -/
theorem stp_sw {a b : RV} {s p : Nat} {x : Int32 × Int32} (h : pM a = pM b ∨ mtI a s p &&& mtI b s p = 0) : stp b s p (stp a s p x) = stp a s p (stp b s p x) := by
  refine Prod.ext (b_ext fun i hi => ?_) (b_ext fun i hi => ?_)
  · simp only [b_st1 hi]
    cases bt x.1 i <;> cases bt (mtI a s p) i <;> cases bt (mtI b s p) i <;> rfl
  · have h1 : pM a = pM b ∨ (bt (mtI a s p) i && bt (mtI b s p) i) = false := h.imp (fun z => z) (fun z => by rw [← b_and, z, b_0])
    simp only [b_st2, b_st1 hi]
    revert h1
    cases pM a <;> cases pM b <;> cases bt x.2 i <;> cases bt x.1 i <;> cases bt (mtI a s p) i <;> cases bt (mtI b s p) i <;> decide
theorem pmE_sw {rs : List RV} {i : Nat} (hn : rs.length < 2 ^ 31) (h : i + 1 < rs.length) (hs : swB rs i = true) : pmE rs (swL rs i) := fun s p hsp hpp => by
  have e0 : pmN rs s p (-1) (i + 0) = pmN (swL rs i) s p (-1) i := pm_shift (A := rs) (B := swL rs i) (wA := -1) (wB := -1) (a := 0) (d := 0) rfl i (Nat.zero_le _) (fun j _ hj => ⟨(by rw [swL_gt h, if_neg (by omega), if_neg (by omega)] : gt rs j = gt (swL rs i) j), nI_m1 (by omega), nI_m1 (by omega)⟩)
  have e0 : pmN rs s p (-1) i = pmN (swL rs i) s p (-1) i := e0
  have hd : pM (gt rs i) = pM (gt rs (i + 1)) ∨ mtI (gt rs i) s p &&& mtI (gt rs (i + 1)) s p = 0 := by
    unfold swB at hs
    rw [Bool.and_eq_true, Bool.or_eq_true, decide_eq_true_eq, decide_eq_true_eq, decide_eq_true_eq] at hs
    refine hs.2.imp bN_inj (fun z => ?_)
    have h1 : popI (mtI (gt rs i) ((4 * s + p) / 4) ((4 * s + p) % 4) &&& mtI (gt rs (i + 1)) ((4 * s + p) / 4) ((4 * s + p) % 4)) = 0 := sumN_z (f := fun k => popI (mtI (gt rs i) (k / 4) (k % 4) &&& mtI (gt rs (i + 1)) (k / 4) (k % 4))) z (4 * s + p) (by omega)
    rw [show (4 * s + p) / 4 = s from by omega, show (4 * s + p) % 4 = p from by omega] at h1
    exact pop_z h1
  have e2 : pmN rs s p (-1) (i + 1 + 1 + 0) = pmN (swL rs i) s p (-1) (i + 1 + 1) := by
    rw [Nat.add_zero, pm_s (nI_m1 (show i + 1 < 2 ^ 31 by omega)), pm_s (nI_m1 (show i < 2 ^ 31 by omega)), pm_s (nI_m1 (show i + 1 < 2 ^ 31 by omega)), pm_s (nI_m1 (show i < 2 ^ 31 by omega)), swL_gt h, swL_gt h, if_neg (by omega), if_pos rfl, if_pos rfl, e0]
    exact stp_sw hd
  have e3 := pm_shift (d := 0) e2 rs.length (by omega) (fun j h1 h2 => ⟨(by rw [swL_gt h, if_neg (by omega), if_neg (by omega)] : gt rs j = gt (swL rs i) j), nI_m1 (by omega), nI_m1 (by omega)⟩)
  unfold pmI
  rw [swL_len h, ← e3]
  rfl
theorem pmE_ps {rs : List RV} (hn : rs.length < 2 ^ 31) : ∀ i, i < rs.length → pmE rs (psN rs i).1
  | 0, _ => pmE_r rs
  | i + 1, hi => by
    have h1 := psN_len (rs := rs) i (by omega)
    have h2 := pmE_ps hn i (by omega)
    cases hs : swB (psN rs i).1 i with
    | true =>
      rw [psN_t hs]
      exact pmE_t h2 (pmE_sw (by omega) (by omega) hs)
    | false =>
      rw [psN_f hs]
      exact h2
theorem pmE_pas {rs : List RV} (hn : rs.length < 2 ^ 31) : pmE rs (pas rs).1 := by
  cases rs with
  | nil => exact pmE_r _
  | cons r t => exact pmE_ps hn _ (by show t.length + 1 - 1 < t.length + 1; omega)
theorem pmE_soF : ∀ (k : Nat) {rs : List RV}, rs.length < 2 ^ 31 → pmE rs (soF k rs).1
  | 0, rs, _ => pmE_r rs
  | k + 1, rs, hn => by
    by_cases hc : (pas rs).2 = 0
    · rw [soF_0 hc]
      exact pmE_pas hn
    · rw [soF_n hc]
      exact pmE_t (pmE_pas hn) (pmE_soF k (by rw [pas_len]; exact hn))
theorem pmE_sor {rs : List RV} (hn : rs.length < 2 ^ 31) : pmE rs (sor rs).1 := pmE_soF 241 hn
/-! merging two neighbours -/
theorem in_sm {v f t f2 t2 : Nat} (h : smB f t f2 t2 = true) : inN v (min f2 f) (max t2 t) = inN v f t ∧ inN v f2 t2 = inN v f t := by
  unfold smB at h
  rw [Bool.and_eq_true, decide_eq_true_eq, decide_eq_true_eq] at h
  rw [h.1, h.2, show min f f = f from by omega, show max t t = t from by omega]
  exact ⟨rfl, rfl⟩
theorem in_jn {v f t f2 t2 : Nat} (h : jnB f t f2 t2 = true) (h1 : f ≤ t) (h2 : f2 ≤ t2) : inN v (min f2 f) (max t2 t) = (inN v f t || inN v f2 t2) := by
  unfold jnB at h
  rw [Bool.and_eq_true, decide_eq_true_eq, decide_eq_true_eq] at h
  rw [Bool.eq_iff_iff, Bool.or_eq_true, inN_iff, inN_iff, inN_iff]
  omega
theorem hol_or (a b : Nat) {p : Nat} (hp : p < 32) : hol (a ||| b) p = (hol a p || hol b p) := by rw [hol_bt _ hp, hol_bt _ hp, hol_bt _ hp, ← nx_or, b_or]
theorem two_of (S D P : Bool) : bN (!S) + bN (!D) + bN (!P) ≤ 1 → (S = true ∧ D = true) ∨ (S = true ∧ P = true) ∨ (D = true ∧ P = true) := by
  cases S <;> cases D <;> cases P <;> decide
theorem mg_mt {a b : RV} {s d p : Nat} (ha : rvOk a) (hb : rvOk b) (hp : p < 32) (h : mgB a b = true) : pM a = pM b ∧ mtB (mgV a b) s d p = (mtB a s d p || mtB b s d p) := by
  rw [← mj_mg ha hb] at h
  unfold mjB dfN at h
  rw [Bool.and_eq_true, Bool.and_eq_true, Bool.and_eq_true, decide_eq_true_eq, decide_eq_true_eq] at h
  obtain ⟨⟨hpm, hdf⟩, hjs, hjd⟩ := h
  refine ⟨hpm, ?_⟩
  unfold rvOk at ha hb
  show ((inN s (min (sF b) (sF a)) (max (sT b) (sT a)) && hol (pR a ||| pR b) p) && inN d (min (dF b) (dF a)) (max (dT b) (dT a))) = (((inN s (sF a) (sT a) && hol (pR a) p) && inN d (dF a) (dT a)) || ((inN s (sF b) (sT b) && hol (pR b) p) && inN d (dF b) (dT b)))
  rw [hol_or _ _ hp]
  rcases two_of _ _ _ hdf with ⟨h1, h2⟩ | ⟨h1, h2⟩ | ⟨h1, h2⟩
  · rw [(in_sm h1).1, (in_sm h1).2, (in_sm h2).1, (in_sm h2).2]
    cases inN s (sF a) (sT a) <;> cases hol (pR a) p <;> cases hol (pR b) p <;> cases inN d (dF a) (dT a) <;> rfl
  · rw [(in_sm h1).1, (in_sm h1).2, in_jn hjd (by omega) (by omega), ← of_decide_eq_true h2]
    cases inN s (sF a) (sT a) <;> cases hol (pR a) p <;> cases inN d (dF a) (dT a) <;> cases inN d (dF b) (dT b) <;> rfl
  · rw [(in_sm h1).1, (in_sm h1).2, in_jn hjs (by omega) (by omega), ← of_decide_eq_true h2]
    cases inN s (sF a) (sT a) <;> cases inN s (sF b) (sT b) <;> cases hol (pR a) p <;> cases inN d (dF a) (dT a) <;> rfl
theorem stp_mg {a b : RV} {s p : Nat} {x : Int32 × Int32} (ha : rvOk a) (hb : rvOk b) (hp : p < 32) (h : mgB a b = true) : stp (mgV a b) s p x = stp b s p (stp a s p x) := by
  have hpm : pM a = pM b := (mg_mt (s := 0) (d := 0) ha hb hp h).1
  have hq : pM (mgV a b) = pM a := rfl
  refine Prod.ext (b_ext fun i hi => ?_) (b_ext fun i hi => ?_)
  · simp only [b_st1 hi]
    rw [bt_mt (mgV_ok ha hb) hi, bt_mt ha hi, bt_mt hb hi, (mg_mt ha hb hp h).2]
    cases bt x.1 i <;> cases mtB a s i p <;> cases mtB b s i p <;> rfl
  · simp only [b_st2, b_st1 hi]
    rw [bt_mt (mgV_ok ha hb) hi, bt_mt ha hi, bt_mt hb hi, (mg_mt ha hb hp h).2, hq, ← hpm]
    cases bt x.2 i <;> cases pM a <;> cases bt x.1 i <;> cases mtB a s i p <;> cases mtB b s i p <;> rfl
theorem mgL_gt {rs : List RV} {i : Nat} (h : i + 1 < rs.length) (j : Nat) : gt (mgL rs i) j = if j = i then mgV (gt rs i) (gt rs (i + 1)) else if j < i + 1 then gt rs j else gt rs (j + 1) := by
  unfold mgL
  rw [gt_set _ _ _ _ (by rw [len_erase h]; omega), gt_erase]
theorem pmE_mg {rs : List RV} {i : Nat} (hok : rsOk rs) (h : i + 1 < rs.length) (hm : mgB (gt rs i) (gt rs (i + 1)) = true) : pmE rs (mgL rs i) := fun s p hsp hpp => by
  have hn := hok.1
  have e0 : pmN rs s p (-1) (i + 0) = pmN (mgL rs i) s p (-1) i := pm_shift (A := rs) (B := mgL rs i) (wA := -1) (wB := -1) (a := 0) (d := 0) rfl i (Nat.zero_le _) (fun j _ hj => ⟨(by rw [mgL_gt h, if_neg (by omega), if_pos (by omega)] : gt rs j = gt (mgL rs i) j), nI_m1 (by omega), nI_m1 (by omega)⟩)
  have e0 : pmN rs s p (-1) i = pmN (mgL rs i) s p (-1) i := e0
  have e2 : pmN rs s p (-1) (i + 1 + 1) = pmN (mgL rs i) s p (-1) (i + 1) := by
    rw [pm_s (nI_m1 (show i + 1 < 2 ^ 31 by omega)), pm_s (nI_m1 (show i < 2 ^ 31 by omega)), pm_s (nI_m1 (show i < 2 ^ 31 by omega)), mgL_gt h, if_pos rfl, e0]
    exact (stp_mg (hok.2 i (by omega)) (hok.2 (i + 1) h) (by omega) hm).symm
  have e3 := pm_shift (d := 1) e2 (rs.length - 1) (by omega) (fun j h1 h2 => ⟨by rw [mgL_gt h, if_neg (by omega), if_neg (by omega)], nI_m1 (by omega), nI_m1 (by omega)⟩)
  unfold pmI
  rw [mgL_len h, ← e3, show rs.length - 1 + 1 = rs.length from by omega]
/-! shortening -/
theorem lstN_P {P : Nat → Bool} : ∀ n, lstN P n ≠ 0 → P (lstN P n - 1) = true
  | 0, h => absurd rfl h
  | n + 1, h => by
    rw [lstN] at h ⊢
    cases hp : P n with
    | true =>
      rw [if_pos rfl]
      exact hp
    | false =>
      rw [hp, if_neg (by decide)] at h
      rw [if_neg (by decide)]
      exact lstN_P n h
theorem pmE_stS {rs : List RV} (h : rsOk rs) : pmE rs (stS rs).1 := by
  have h1 := lstN_le (ndB rs) rs.length
  have hn := h.1
  unfold stS
  by_cases h0 : lstN (ndB rs) rs.length = 0
  · rw [if_pos h0]
    by_cases h2 : fmg rs < rs.length - 1
    · rw [if_pos h2]
      exact pmE_mg h (by omega) (fstN_hit (P := fun i => mgB (gt rs i) (gt rs (i + 1))) (rs.length - 1) h2)
    · rw [if_neg h2]
      exact pmE_r rs
  · rw [if_neg h0]
    exact pmE_nd (by omega) (by omega) (lstN_P _ h0)
theorem pmE_itS : ∀ (k : Nat) {rs : List RV}, rsOk rs → pmE rs (itS k rs).1
  | 0, rs, _ => pmE_r rs
  | k + 1, rs, h => by
    cases hs : (stS rs).2 with
    | true =>
      rw [itS_go hs]
      exact pmE_t (pmE_stS h) (pmE_itS k (stS_ok h))
    | false =>
      rw [itS_stop hs]
      exact pmE_r rs
/-- a list that was shortened can't be shortened -/
theorem itS_fix : ∀ (k : Nat) {rs : List RV}, rs.length ≤ k → (stS (itS k rs).1).2 = false
  | 0, rs, h => by
    have e : rs = [] := List.length_eq_zero_iff.mp (Nat.le_zero.mp h)
    rw [e]
    rfl
  | k + 1, rs, h => by
    cases hs : (stS rs).2 with
    | true =>
      rw [itS_go hs]
      have := stS_len hs
      exact itS_fix k (by omega)
    | false =>
      rw [itS_stop hs]
      exact hs
theorem itS_two (rs : List RV) : itS (itS rs.length rs).1.length (itS rs.length rs).1 = ((itS rs.length rs).1, 0) := itS_stop (itS_fix rs.length (Nat.le_refl _))
theorem itS_cnt : ∀ (k : Nat) (rs : List RV), (itS k rs).2 ≤ k
  | 0, _ => Nat.le_refl 0
  | k + 1, rs => by
    cases hs : (stS rs).2 with
    | true =>
      rw [itS_go hs]
      exact Nat.succ_le_succ (itS_cnt k _)
    | false =>
      rw [itS_stop hs]
      exact Nat.zero_le _
/-! moving a rule there and back -/
def mvL (rs : List RV) (i j : Nat) : List RV := (rs.eraseIdx i).insertIdx j (gt rs i)
theorem mvL_len {rs : List RV} {i j : Nat} (hi : i < rs.length) (hj : j < rs.length) : (mvL rs i j).length = rs.length := by
  unfold mvL
  rw [len_insert (by rw [len_erase hi]; omega), len_erase hi]
  omega
theorem mvL_gt {rs : List RV} {i j : Nat} (hi : i < rs.length) (hj : j < rs.length) (k : Nat) : gt (mvL rs i j) k = if k < j then (if k < i then gt rs k else gt rs (k + 1)) else if k = j then gt rs i else (if k - 1 < i then gt rs (k - 1) else gt rs (k - 1 + 1)) := by
  unfold mvL
  rw [gt_insert _ _ _ _ (by rw [len_erase hi]; omega), gt_erase, gt_erase]
theorem mvL_at {rs : List RV} {i j : Nat} (hi : i < rs.length) (hj : j < rs.length) : gt (mvL rs i j) j = gt rs i := by
  rw [mvL_gt hi hj, if_neg (Nat.lt_irrefl j), if_pos rfl]
theorem mvL_back {rs : List RV} {i j : Nat} (hi : i < rs.length) (hj : j < rs.length) : mvL (mvL rs i j) j i = rs := by
  have hl := mvL_len hi hj
  have hi2 : i < (mvL rs i j).length := by omega
  have hj2 : j < (mvL rs i j).length := by omega
  refine gt_ext (by rw [mvL_len hj2 hi2, hl]) fun k hk => ?_
  rw [mvL_gt hj2 hi2]
  by_cases h1 : k < i
  · rw [if_pos h1]
    by_cases h2 : k < j
    · rw [if_pos h2, mvL_gt hi hj, if_pos h2, if_pos h1]
    · rw [if_neg h2, mvL_gt hi hj, if_neg (by omega), if_neg (by omega), if_pos (by omega), Nat.add_sub_cancel]
  · rw [if_neg h1]
    by_cases h3 : k = i
    · rw [if_pos h3, mvL_at hi hj, h3]
    · rw [if_neg h3]
      by_cases h2 : k - 1 < j
      · rw [if_pos h2, mvL_gt hi hj, if_pos h2, if_neg (by omega), show k - 1 + 1 = k from by omega]
      · rw [if_neg h2, mvL_gt hi hj, if_neg (by omega), if_neg (by omega), if_neg (by omega), show k - 1 + 1 - 1 + 1 = k from by omega]
theorem chN_comm (a b : List RV) : chN a b = chN b a := sumN_congr 128 fun k _ => by rw [xor_c]
theorem ch_tri (a b : List RV) : pmT a ≤ pmT b + chN a b := by
  have h : pmT b + chN a b = sumN (fun k => popI (pmI b (k / 4) (k % 4) (-1)) + popI (pmI a (k / 4) (k % 4) (-1) ^^^ pmI b (k / 4) (k % 4) (-1))) 128 := (sumN_add _ _ 128).symm
  rw [h]
  exact sumN_mono 128 fun k _ => pop_tri _ _
