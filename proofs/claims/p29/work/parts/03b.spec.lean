/-! the mathematical value of a list of rules, and what is read off it -/
/-- a rule: sources from, to; destinations from, to; protocols; permit; hits -/
abbrev RV : Type := Nat × Nat × Nat × Nat × Nat × Bool × Int32
def sF (r : RV) : Nat := r.1
def sT (r : RV) : Nat := r.2.1
def dF (r : RV) : Nat := r.2.2.1
def dT (r : RV) : Nat := r.2.2.2.1
def pR (r : RV) : Nat := r.2.2.2.2.1
def pM (r : RV) : Bool := r.2.2.2.2.2.1
def hT (r : RV) : Int32 := r.2.2.2.2.2.2
def rv0 : RV := (0, 0, 0, 0, 1, false, 0)
def gt (rs : List RV) (i : Nat) : RV := rs.getD i rv0
def bN (b : Bool) : Nat := if b then 1 else 0
theorem bN_lt (b : Bool) : bN b < 2 := by cases b <;> decide
theorem bN_t {b : Bool} (h : bN b = 1) : b = true := by cases b <;> first | rfl | exact absurd h (by decide)
theorem bN_f {b : Bool} (h : bN b ≠ 1) : b = false := by cases b <;> first | rfl | exact absurd rfl h
theorem bN_inj {a b : Bool} (h : bN a = bN b) : a = b := by cases a <;> cases b <;> first | rfl | exact absurd h (by decide)
def rvOk (r : RV) : Prop := sF r ≤ sT r ∧ sT r ≤ 31 ∧ dF r ≤ dT r ∧ dT r ≤ 31 ∧ 1 ≤ pR r ∧ pR r ≤ 15
/-- one hit more -/
def hitV (r : RV) : RV := (sF r, sT r, dF r, dT r, pR r, pM r, hT r + nI 1)
def rsOk (rs : List RV) : Prop := rs.length ≤ 16 ∧ ∀ i, i < rs.length → rvOk (gt rs i)
/-- a truth as an int -/
def bI (b : Bool) : Int32 := if b then 1 else 0
theorem bI_t {b : Bool} (h : b = true) : nI 1 = bI b := by subst h; rfl
theorem bI_f {b : Bool} (h : b = false) : nI 0 = bI b := by subst h; rfl
theorem bI_0 {b : Bool} (h : bI b = 0) : b = false := by cases b <;> first | rfl | exact absurd h (by decide)
theorem bI_1 {b : Bool} (h : ¬ bI b = 0) : b = true := by cases b <;> first | rfl | exact absurd rfl h
theorem bI_nar (b : Bool) : narrow .boolean (.int (bI b)) = .int (bI b) := by cases b <;> rfl
theorem bI_nI (b : Bool) : bI b = nI (bN b) := by cases b <;> rfl
/-- bit b of a set a, as the code asks for it -/
def holI (a b : Int32) : Bool := decide ((a >>> (b &&& 31)) &&& nI 1 = nI 1)
def hol (a b : Nat) : Bool := holI (nI a) (nI b)
def inN (v a b : Nat) : Bool := decide (a ≤ v) && decide (v ≤ b)
def inI (v a b : Int32) : Bool := decide (a ≤ v) && decide (v ≤ b)
/-- the numbers a to b as the bits of an int, as the code makes it -/
def mkI (a b : Nat) : Int32 := ((-1 : Int32) <<< ((nI a) &&& 31)) &&& (((-1 : Int32).toUInt32 >>> ((nI (31 - b)).toUInt32 &&& Int32.toUInt32 31)).toInt32)
/-- the rule concerns source s and protocol p -/
def con (r : RV) (s p : Nat) : Bool := inN s (sF r) (sT r) && hol (pR r) p
/-- the destinations that the rule matches for them -/
def mtI (r : RV) (s p : Nat) : Int32 := if con r s p then mkI (dF r) (dT r) else 0
/-- the rules ahead of place i (but the one at wo): what is open behind them, what they permit -/
def pmN (rs : List RV) (s p : Nat) (wo : Int32) : Nat → Int32 × Int32
  | 0 => (-1, 0)
  | i + 1 => if nI i = wo then pmN rs s p wo i else ((pmN rs s p wo i).1 &&& ~~~ (mtI (gt rs i) s p), if pM (gt rs i) then (pmN rs s p wo i).2 ||| ((pmN rs s p wo i).1 &&& mtI (gt rs i) s p) else (pmN rs s p wo i).2)
def pmI (rs : List RV) (s p : Nat) (wo : Int32) : Int32 := (pmN rs s p wo rs.length).2
/-- how many bits a number has -/
def popN : Nat → Nat → Nat
  | 0, _ => 0
  | k + 1, n => n % 2 + popN k (n / 2)
def popI (x : Int32) : Nat := popN 32 x.toBitVec.toNat
theorem popN_le : ∀ (k n : Nat), popN k n ≤ k
  | 0, _ => Nat.le_refl 0
  | k + 1, n => by
    have h := popN_le k (n / 2)
    unfold popN
    omega
theorem popI_le (x : Int32) : popI x ≤ 32 := popN_le 32 _
/-- sums -/
def sumN (f : Nat → Nat) : Nat → Nat
  | 0 => 0
  | n + 1 => sumN f n + f n
theorem sumN_le {f : Nat → Nat} {c : Nat} : ∀ (n : Nat), (∀ i, i < n → f i ≤ c) → sumN f n ≤ c * n
  | 0, _ => Nat.zero_le _
  | n + 1, h => by
    have h1 := sumN_le n (fun i hi => h i (Nat.lt_succ_of_lt hi))
    have h2 := h n (Nat.lt_succ_self n)
    unfold sumN
    rw [Nat.mul_succ]
    omega
theorem sumN_congr {f g : Nat → Nat} : ∀ (n : Nat), (∀ i, i < n → f i = g i) → sumN f n = sumN g n
  | 0, _ => rfl
  | n + 1, h => by
    unfold sumN
    rw [sumN_congr n (fun i hi => h i (Nat.lt_succ_of_lt hi)), h n (Nat.lt_succ_self n)]
/-- a bool of a comparison -/
theorem inN_t {v a b : Nat} (h1 : a ≤ v) (h2 : v ≤ b) : inN v a b = true := by unfold inN; rw [decide_eq_true h1, decide_eq_true h2]; rfl
theorem inN_f1 {v a b : Nat} (h1 : v < a) : inN v a b = false := by unfold inN; rw [decide_eq_false (Nat.not_le.mpr h1)]; rfl
theorem inN_f2 {v a b : Nat} (h1 : b < v) : inN v a b = false := by unfold inN; rw [decide_eq_false (Nat.not_le.mpr h1), Bool.and_false]
theorem inN_iff {v a b : Nat} : inN v a b = true ↔ a ≤ v ∧ v ≤ b := by unfold inN; rw [Bool.and_eq_true, decide_eq_true_iff, decide_eq_true_iff]
theorem inI_t {v a b : Int32} (h1 : ¬ v < a) (h2 : ¬ b < v) : inI v a b = true := by unfold inI; rw [decide_eq_true (Int32.not_lt.mp h1), decide_eq_true (Int32.not_lt.mp h2)]; rfl
theorem inI_f1 {v a b : Int32} (h1 : v < a) : inI v a b = false := by unfold inI; rw [decide_eq_false (Int32.not_le.mpr h1)]; rfl
theorem inI_f2 {v a b : Int32} (h1 : b < v) : inI v a b = false := by unfold inI; rw [decide_eq_false (Int32.not_le.mpr h1), Bool.and_false]
theorem inI_nI {v a b : Nat} (hv : v < 2 ^ 31) (ha : a < 2 ^ 31) (hb : b < 2 ^ 31) : inI (nI v) (nI a) (nI b) = inN v a b := by
  unfold inI inN
  rw [show decide (nI a ≤ nI v) = decide (a ≤ v) from decide_eq_decide.mpr (nI_leI ha hv), show decide (nI v ≤ nI b) = decide (v ≤ b) from decide_eq_decide.mpr (nI_leI hv hb)]
theorem holI_t {a b : Int32} (h : (a >>> (b &&& 31)) &&& nI 1 = nI 1) : holI a b = true := decide_eq_true h
theorem holI_f {a b : Int32} (h : ¬ (a >>> (b &&& 31)) &&& nI 1 = nI 1) : holI a b = false := decide_eq_false h
theorem con_t {r : RV} {s p : Nat} (h1 : inN s (sF r) (sT r) = true) (h2 : (nI (pR r) >>> (nI p &&& 31)) &&& nI 1 = nI 1) : con r s p = true := by unfold con hol; rw [h1, holI_t h2]; rfl
theorem con_f1 {r : RV} {s p : Nat} (h1 : inN s (sF r) (sT r) = false) : con r s p = false := by unfold con; rw [h1]; rfl
theorem con_f2 {r : RV} {s p : Nat} (h2 : ¬ (nI (pR r) >>> (nI p &&& 31)) &&& nI 1 = nI 1) : con r s p = false := by unfold con hol; rw [holI_f h2, Bool.and_false]
theorem mtI_t {r : RV} {s p : Nat} (h : con r s p = true) : mtI r s p = mkI (dF r) (dT r) := if_pos h
theorem mtI_f {r : RV} {s p : Nat} (h : con r s p = false) : mtI r s p = 0 := if_neg (by rw [h]; decide)
def allN (P : Nat → Bool) : Nat → Bool
  | 0 => true
  | n + 1 => allN P n && P n
theorem allN_s {P : Nat → Bool} {n : Nat} (h : allN P n = true) (h2 : P n = true) : allN P (n + 1) = true := by rw [allN, h, h2]; rfl
theorem allN_f {P : Nat → Bool} {k : Nat} (h : P k = false) : ∀ n, k < n → allN P n = false
  | 0, hn => absurd hn (Nat.not_lt_zero _)
  | n + 1, hn => by
    rw [allN]
    by_cases hk : k = n
    · rw [← hk, h, Bool.and_false]
    · rw [allN_f h n (by omega), Bool.false_and]
theorem allN_iff {P : Nat → Bool} : ∀ {n : Nat}, allN P n = true ↔ ∀ k, k < n → P k = true
  | 0 => ⟨fun _ k hk => absurd hk (Nat.not_lt_zero _), fun _ => rfl⟩
  | n + 1 => by
    rw [allN, Bool.and_eq_true, allN_iff]
    refine ⟨fun h k hk => ?_, fun h => ⟨fun k hk => h k (by omega), h n (by omega)⟩⟩
    by_cases hkn : k = n
    · rw [hkn]; exact h.2
    · exact h.1 k (by omega)
/-- the first i below n with P, else n -/
def fstN (P : Nat → Bool) : Nat → Nat
  | 0 => 0
  | n + 1 => if fstN P n < n then fstN P n else if P n then n else n + 1
theorem fstN_eq {P : Nat → Bool} {i : Nat} (h1 : ∀ j, j < i → P j = false) : ∀ n, i ≤ n → (i = n ∨ P i = true) → fstN P n = i
  | 0, hn, _ => by rw [Nat.le_zero.mp hn]; rfl
  | n + 1, hn, h2 => by
    rw [fstN]
    by_cases hi : i = n + 1
    · have h3 := fstN_eq (P := P) (i := n) (fun j hj => h1 j (by omega)) n (Nat.le_refl n) (Or.inl rfl)
      rw [h3, if_neg (Nat.lt_irrefl n), h1 n (by omega), hi]
      rfl
    · have hP : P i = true := h2.resolve_left hi
      by_cases hin : i = n
      · have h3 := fstN_eq (P := P) (i := n) (fun j hj => h1 j (by omega)) n (Nat.le_refl n) (Or.inl rfl)
        rw [h3, if_neg (Nat.lt_irrefl n), ← hin, hP]
        rfl
      · have h3 := fstN_eq h1 n (by omega) (Or.inr hP)
        rw [h3, if_pos (by omega)]
/-- a rule is needless: what is permitted is the same without it -/
def ndP (rs : List RV) (pl : Nat) (k : Nat) : Bool := decide (pmI rs (k / 4) (k % 4) (-1) = pmI rs (k / 4) (k % 4) (nI pl))
def ndB (rs : List RV) (pl : Nat) : Bool := allN (ndP rs pl) 128
/-- the packet's bit in what a rule matches -/
def mbI (r : RV) (s d p : Nat) : Bool := !decide ((mtI r s p >>> (nI d &&& 31)) &&& nI 1 = 0)
def fmN (rs : List RV) (s d p : Nat) : Nat := fstN (fun i => mbI (gt rs i) s d p) rs.length
/-- what a rule matches and the first a of the list don't -/
def adN (rs : List RV) (pl s p : Nat) : Nat → Int32
  | 0 => mtI (gt rs pl) s p
  | a + 1 => adN rs pl s p a &&& (mtI (gt rs a) s p ^^^ (-1))
def dcN (rs : List RV) (pl : Nat) : Nat := sumN (fun k => popI (adN rs pl (k / 4) (k % 4) pl)) 128
def cmN (a b : RV) : Nat := sumN (fun k => popI (mtI a (k / 4) (k % 4) &&& mtI b (k / 4) (k % 4))) 128
def rvI (r : RV) (w : Nat) : Int32 := match w with
  | 0 => nI (sF r)
  | 1 => nI (sT r)
  | 2 => nI (dF r)
  | 3 => nI (dT r)
  | 4 => nI (pR r)
  | 5 => nI (bN (pM r))
  | _ => hT r
theorem bN_le (b : Bool) : bN b ≤ 1 := Nat.le_of_lt_succ (bN_lt b)
def alB (r r2 : RV) (w : Nat) : Bool := decide (rvI r w = rvI r2 w) && (decide (w = 4) || decide (rvI r (w + 1) = rvI r2 (w + 1)))
def onB (r r2 : RV) (w : Nat) : Bool := decide (w = 4) || (decide (rvI r w ≤ rvI r2 (w + 1) + nI 1) && decide (rvI r2 w ≤ rvI r (w + 1) + nI 1))
def isB (r r2 : RV) : Nat → Bool
  | 0 => decide (bN (pM r) = bN (pM r2))
  | k + 1 => isB r r2 k && (alB r r2 (2 * k) || onB r r2 (2 * k))
def unN (r r2 : RV) : Nat → Nat
  | 0 => 0
  | k + 1 => unN r r2 k + bN (!alB r r2 (2 * k))
def mgB (r r2 : RV) : Bool := isB r r2 3 && decide (unN r r2 3 < 2)
theorem unN_le (r r2 : RV) : ∀ k, unN r r2 k ≤ k
  | 0 => Nat.le_refl 0
  | k + 1 => Nat.add_le_add (unN_le r r2 k) (bN_le _)
def rgB (a b : Int32) : Bool := inI a (nI 0) (nI 31) && inI b a (nI 31)
def pkB (s d p : Int32) : Bool := inI s (nI 0) (nI 31) && inI d (nI 0) (nI 31) && inI p (nI 0) (nI 3)
section NB
variable {p : Program} {l : Launch} {e : Env} {R : Room} {s : State} {m : MethodId} {args : Array Value} {below : List Frame} {meth : Method} {c : Code} {H : Heap} {locs : List Loc} {cells slots : Nat} {Q : State → Prop} {cc : ByteArray} {pc : Nat} {ls : Array Slot} {rest : List Value}
theorem nr_ifB_eq (hx : p.tables.exec = Jvm.exec) (hb : c.code = cc) {b : Bool} {tgt : Nat} {off : Int} (hdg : decode cc pc = .ok (.ifCond .eq off, 3)) (ht : (pc : Int) + off = (tgt : Int)) (kt : b = false → W p l e R s m args below meth c H locs cells slots Q (F0 m tgt ls rest)) (kf : b = true → W p l e R s m args below meth c H locs cells slots Q (F0 m (pc + 3) ls rest)) : W p l e R s m args below meth c H locs cells slots Q (F0 m pc ls (.int (bI b) :: rest)) :=
  lv_if_eq hx hb hdg ht (fun h => kt (bI_0 h)) (fun h => kf (bI_1 h))
theorem nr_ifB_ne (hx : p.tables.exec = Jvm.exec) (hb : c.code = cc) {b : Bool} {tgt : Nat} {off : Int} (hdg : decode cc pc = .ok (.ifCond .ne off, 3)) (ht : (pc : Int) + off = (tgt : Int)) (kt : b = true → W p l e R s m args below meth c H locs cells slots Q (F0 m tgt ls rest)) (kf : b = false → W p l e R s m args below meth c H locs cells slots Q (F0 m (pc + 3) ls rest)) : W p l e R s m args below meth c H locs cells slots Q (F0 m pc ls (.int (bI b) :: rest)) :=
  lv_if_ne hx hb hdg ht (fun h => kt (bI_1 h)) (fun h => kf (bI_0 (by first | exact h | exact Decidable.byContradiction h)))
end NB
