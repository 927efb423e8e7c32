/-! what the class computes is what the words say: decisions -/
theorem bt_mk {a b i : Nat} (ha : a ≤ 31) (hb : b ≤ 31) (hi : i < 32) : bt (mkI a b) i = (decide (a ≤ i) && decide (i ≤ b)) := by
  unfold mkI
  rw [b_and, b_shl a (by omega) _ hi, b_ushr (31 - b) (by omega)]
  by_cases h1 : a ≤ i
  · rw [b_m1 _ (by omega)]
    by_cases h2 : i ≤ b
    · rw [b_m1 _ (by omega), decide_eq_true h1, decide_eq_true h2]
      rfl
    · rw [b_big (by omega), decide_eq_false h2, Bool.and_false, Bool.and_false]
  · rw [decide_eq_false h1, Bool.false_and, Bool.false_and, Bool.false_and]
theorem bt_1 (i : Nat) (hi : i < 32) : bt (nI 1) i = decide (i = 0) := by
  have h : ∀ j : Fin 32, bt (nI 1) j.val = decide (j.val = 0) := by decide +kernel
  exact h ⟨i, hi⟩
/-- a bit, as the code asks for it -/
theorem bit_and (x : Int32) {d : Nat} (hd : d < 32) : (x >>> (nI d &&& 31)) &&& nI 1 = nI (bN (bt x d)) := by
  refine b_ext fun i hi => ?_
  rw [b_and, bt_1 i hi]
  by_cases h : i = 0
  · subst h
    rw [b_sshr d hd _ (by decide), if_pos (by omega), Nat.add_zero, decide_eq_true rfl, Bool.and_true]
    cases bt x d with
    | true => decide +kernel
    | false => decide +kernel
  · rw [decide_eq_false h, Bool.and_false]
    cases bt x d with
    | true => show false = bt (nI 1) i; rw [bt_1 i hi, decide_eq_false h]
    | false => show false = bt (nI 0) i; rw [show nI 0 = 0 from rfl, b_0]
theorem holI_bt (x : Int32) {d : Nat} (hd : d < 32) : holI x (nI d) = bt x d := by
  unfold holI
  rw [bit_and x hd]
  cases bt x d <;> decide +kernel
theorem mbI_eq {r : RV} {s d p : Nat} (h : rvOk r) (hd : d < 32) : mbI r s d p = mtB r s d p := by
  unfold rvOk at h
  unfold mbI mtB
  rw [bit_and _ hd]
  cases hc : con r s p with
  | false =>
    rw [mtI_f hc, b_0, Bool.false_and]
    decide +kernel
  | true =>
    rw [mtI_t hc, bt_mk (by omega) (by omega) hd]
    unfold inN
    cases decide (dF r ≤ d) <;> cases decide (d ≤ dT r) <;> decide +kernel
theorem n_0 : ~~~(0 : Int32) = -1 := by decide +kernel
theorem and_m1 (x : Int32) : x &&& (-1) = x := b_ext fun i hi => by rw [b_and, b_m1 i hi, Bool.and_true]
theorem pmN_nc {rs : List RV} {s p i : Nat} {wo : Int32} (h : con (gt rs i) s p = false) : pmN rs s p wo (i + 1) = pmN rs s p wo i := by
  by_cases hw : nI i = wo
  · exact pmN_e hw
  · refine Prod.ext ?_ ?_
    · rw [pmN_1 hw, mtI_f h, n_0, and_m1]
    · cases hp : pM (gt rs i) with
      | true =>
        rw [pmN_t hw hp, mtI_f h]
        refine b_ext fun j _ => ?_
        rw [b_or, b_and, b_0, Bool.and_false, Bool.or_false]
      | false => rw [pmN_f hw hp]
theorem pmN_c1 {rs : List RV} {s p i : Nat} {wo : Int32} (hw : ¬ nI i = wo) (h : con (gt rs i) s p = true) : (pmN rs s p wo (i + 1)).1 = (pmN rs s p wo i).1 &&& (mkI (dF (gt rs i)) (dT (gt rs i)) ^^^ (-1)) := by
  rw [pmN_1 hw, mtI_t h, i_not]
theorem pmN_c2 {rs : List RV} {s p i : Nat} {wo : Int32} (hw : ¬ nI i = wo) (h : con (gt rs i) s p = true) (hp : pM (gt rs i) = true) : (pmN rs s p wo (i + 1)).2 = (pmN rs s p wo i).2 ||| ((pmN rs s p wo i).1 &&& mkI (dF (gt rs i)) (dT (gt rs i))) := by
  rw [pmN_t hw hp, mtI_t h]
/-- a rule that doesn't concern them can be left out -/
theorem pm_out {rs : List RV} {s p pl : Nat} (h : con (gt rs pl) s p = false) (hpl : pl < 2 ^ 31) : ∀ i, i < 2 ^ 31 → pmN rs s p (-1) i = pmN rs s p (nI pl) i
  | 0, _ => rfl
  | i + 1, hi => by
    have ih := pm_out h hpl i (by omega)
    have hm : ¬ nI i = -1 := fun z => by
      have h2 := nI_toInt (n := i) (by omega)
      rw [z] at h2
      have h3 : (-1 : Int32).toInt = -1 := by decide +kernel
      omega
    by_cases hq : i = pl
    · subst hq
      rw [pmN_e rfl, pmN_nc h, ih]
    · have hq2 : ¬ nI i = nI pl := fun z => hq ((nI_eq (by omega) hpl).mp z)
      rw [pmN, if_neg hm, pmN, if_neg hq2, ih]
theorem pmI_out {rs : List RV} {s p pl : Nat} (h : con (gt rs pl) s p = false) (hpl : pl < 2 ^ 31) (hn : rs.length < 2 ^ 31) : pmI rs s p (-1) = pmI rs s p (nI pl) := by
  unfold pmI
  rw [pm_out h hpl _ hn]
theorem ndB_t {rs : List RV} {pl : Nat} (hpl : pl < 2 ^ 31) (hn : rs.length < 2 ^ 31) (h : ∀ s, sF (gt rs pl) ≤ s → s ≤ sT (gt rs pl) → ∀ p, p < 4 → pmI rs s p (-1) = pmI rs s p (nI pl)) : ndB rs pl = true := by
  refine allN_iff.mpr fun k hk => decide_eq_true ?_
  by_cases h1 : sF (gt rs pl) ≤ k / 4 ∧ k / 4 ≤ sT (gt rs pl)
  · exact h _ h1.1 h1.2 _ (Nat.mod_lt _ (by decide))
  · refine pmI_out ?_ hpl hn
    unfold con inN
    by_cases h2 : sF (gt rs pl) ≤ k / 4
    · rw [decide_eq_false (fun z => h1 ⟨h2, z⟩), Bool.and_false]
      rfl
    · rw [decide_eq_false h2]
      rfl
theorem ndB_f {rs : List RV} {pl s p : Nat} (hs : s < 32) (hp : p < 4) (h : ¬ pmI rs s p (-1) = pmI rs s p (nI pl)) : ndB rs pl = false := by
  refine allN_f (k := 4 * s + p) (decide_eq_false ?_) 128 (by omega)
  rw [show (4 * s + p) / 4 = s from by omega, show (4 * s + p) % 4 = p from by omega]
  exact h
/-- sums over sources and protocols -/
theorem sum4 (g : Nat → Nat → Nat) : ∀ n, sumN (fun k => g (k / 4) (k % 4)) (4 * n) = sumN (fun s => sumN (g s) 4) n
  | 0 => rfl
  | n + 1 => by
    rw [show 4 * (n + 1) = 4 * n + 1 + 1 + 1 + 1 from by omega]
    rw [sumN, sumN, sumN, sumN, sum4 g n]
    show _ = sumN (fun s => sumN (g s) 4) n + (((0 + g n 0) + g n 1) + g n 2 + g n 3)
    rw [show (4 * n) / 4 = n from by omega, show (4 * n) % 4 = 0 from by omega, show (4 * n + 1) / 4 = n from by omega, show (4 * n + 1) % 4 = 1 from by omega, show (4 * n + 1 + 1) / 4 = n from by omega, show (4 * n + 1 + 1) % 4 = 2 from by omega, show (4 * n + 1 + 1 + 1) / 4 = n from by omega, show (4 * n + 1 + 1 + 1) % 4 = 3 from by omega]
    omega
theorem sumN_0 {g : Nat → Nat} : ∀ {n : Nat}, (∀ i, i < n → g i = 0) → sumN g n = 0
  | 0, _ => rfl
  | n + 1, h => by rw [sumN, sumN_0 (fun i hi => h i (by omega)), h n (by omega)]
theorem sumN_cut {g : Nat → Nat} {a : Nat} : ∀ {n : Nat}, a ≤ n → (∀ i, a ≤ i → i < n → g i = 0) → sumN g n = sumN g a
  | 0, h, _ => by rw [Nat.le_zero.mp h]
  | n + 1, h, hz => by
    by_cases ha : a = n + 1
    · rw [ha]
    · rw [sumN, sumN_cut (by omega) (fun i h1 h2 => hz i h1 (by omega)), hz n (by omega) (by omega), Nat.add_zero]
/-- what no rule ahead of place a matches -/
def udN (rs : List RV) (s p : Nat) : Nat → Int32
  | 0 => -1
  | a + 1 => if con (gt rs a) s p then udN rs s p a &&& (mkI (dF (gt rs a)) (dT (gt rs a)) ^^^ (-1)) else udN rs s p a
theorem udN_t {rs : List RV} {s p a : Nat} (h : con (gt rs a) s p = true) : udN rs s p (a + 1) = udN rs s p a &&& (mkI (dF (gt rs a)) (dT (gt rs a)) ^^^ (-1)) := by rw [udN, if_pos h]
theorem udN_f {rs : List RV} {s p a : Nat} (h : con (gt rs a) s p = false) : udN rs s p (a + 1) = udN rs s p a := by rw [udN, if_neg (by rw [h]; decide)]
theorem adN_ud {rs : List RV} {pl s p : Nat} : ∀ a, adN rs pl s p a = mtI (gt rs pl) s p &&& udN rs s p a
  | 0 => (and_m1 _).symm
  | a + 1 => by
    rw [adN, adN_ud a]
    cases hc : con (gt rs a) s p with
    | true =>
      rw [udN_t hc, mtI_t hc]
      refine b_ext fun i _ => ?_
      rw [b_and, b_and, b_and, b_and, Bool.and_assoc]
    | false => rw [udN_f hc, mtI_f hc, show (0 : Int32) ^^^ (-1) = -1 from by decide +kernel, and_m1]
/-- the packets of a source and a protocol that a rule decides -/
def dcG (rs : List RV) (pl s p : Nat) : Nat := popI (adN rs pl s p pl)
theorem dcG_t {rs : List RV} {pl s p : Nat} (h : con (gt rs pl) s p = true) : dcG rs pl s p = popI (mkI (dF (gt rs pl)) (dT (gt rs pl)) &&& udN rs s p pl) := by
  unfold dcG
  rw [adN_ud, mtI_t h]
theorem dcG_f {rs : List RV} {pl s p : Nat} (h : con (gt rs pl) s p = false) : dcG rs pl s p = 0 := by
  unfold dcG
  rw [adN_ud, mtI_f h, z_0and]
  decide +kernel
theorem dcN_sum (rs : List RV) (pl : Nat) : dcN rs pl = sumN (fun s => sumN (dcG rs pl s) 4) 32 := sum4 (dcG rs pl) 32
theorem dcG_out {rs : List RV} {pl s : Nat} (h : ¬ (sF (gt rs pl) ≤ s ∧ s ≤ sT (gt rs pl))) : sumN (dcG rs pl s) 4 = 0 := sumN_0 fun p _ => dcG_f (by
  unfold con inN
  by_cases h2 : sF (gt rs pl) ≤ s
  · rw [decide_eq_false (fun z => h ⟨h2, z⟩), Bool.and_false]
    rfl
  · rw [decide_eq_false h2]
    rfl)
theorem dcN_lo (rs : List RV) (pl : Nat) : sumN (fun s => sumN (dcG rs pl s) 4) (sF (gt rs pl)) = 0 := sumN_0 fun s hs => dcG_out (by omega)
theorem dcN_hi {rs : List RV} {pl : Nat} (h : sT (gt rs pl) ≤ 31) : sumN (fun s => sumN (dcG rs pl s) 4) (sT (gt rs pl) + 1) = dcN rs pl := by
  rw [dcN_sum]
  exact (sumN_cut (by omega) fun s h1 _ => dcG_out (by omega)).symm
theorem pmT_sum (rs : List RV) : pmT rs = sumN (fun s => sumN (fun p => popI (pmI rs s p (-1))) 4) 32 := sum4 (fun s p => popI (pmI rs s p (-1))) 32
