/-! entries: a packet that the rule matches is in just one, another in none -/
theorem and_two {k a b c e : Nat} (hb : b < 2 ^ k) (he : e < 2 ^ k) : (2 ^ k * a + b) &&& (2 ^ k * c + e) = 2 ^ k * (a &&& c) + (b &&& e) := by
  have hbe : b &&& e < 2 ^ k := Nat.lt_of_le_of_lt Nat.and_le_left hb
  refine Nat.eq_of_testBit_eq fun j => ?_
  rw [Nat.testBit_and, Nat.testBit_two_pow_mul_add _ hb, Nat.testBit_two_pow_mul_add _ he, Nat.testBit_two_pow_mul_add _ hbe]
  by_cases hj : j < k
  · rw [if_pos hj, if_pos hj, if_pos hj, Nat.testBit_and]
  · rw [if_neg hj, if_neg hj, if_neg hj, Nat.testBit_and]
theorem and_pk {s d p S E P : Nat} (hd : d < 32) (hp : p < 4) (hE : E < 32) (hP : P < 4) : (128 * s + 4 * d + p) &&& (128 * S + 4 * E + P) = 128 * (s &&& S) + 4 * (d &&& E) + (p &&& P) := by
  have h1 := and_two (k := 2) (a := 32 * s + d) (b := p) (c := 32 * S + E) (e := P) (by omega) (by omega)
  have h2 := and_two (k := 5) (a := s) (b := d) (c := S) (e := E) (by omega) (by omega)
  have e1 : (2 : Nat) ^ 2 = 4 := rfl
  have e2 : (2 : Nat) ^ 5 = 32 := rfl
  rw [e1] at h1
  rw [e2] at h2
  rw [show 128 * s + 4 * d + p = 4 * (32 * s + d) + p from by omega, show 128 * S + 4 * E + P = 4 * (32 * S + E) + P from by omega, h1, h2]
  omega
theorem sumN_plus (f : Nat → Nat) (n : Nat) : ∀ m, sumN f (n + m) = sumN f n + sumN (fun i => f (n + i)) m
  | 0 => rfl
  | m + 1 => by
    show sumN f (n + m) + f (n + m) = sumN f n + (sumN (fun i => f (n + i)) m + f (n + m))
    rw [sumN_plus f n m]
    omega
theorem sum_dm (F : Nat → Nat → Nat) {C : Nat} (hC : 0 < C) : ∀ N, sumN (fun e => F (e / C) (e % C)) (N * C) = sumN (fun q => sumN (F q) C) N
  | 0 => by
    rw [Nat.zero_mul]
    rfl
  | N + 1 => by
    rw [Nat.succ_mul, sumN_plus, sum_dm F hC N]
    show _ = sumN (fun q => sumN (F q) C) N + sumN (F N) C
    refine congrArg (fun z => sumN (fun q => sumN (F q) C) N + z) (sumN_congr C fun i hi => ?_)
    have h1 : (N * C + i) / C = N := by rw [Nat.add_comm, Nat.mul_comm, Nat.add_mul_div_left _ _ hC, Nat.div_eq_of_lt hi, Nat.zero_add]
    have h2 : (N * C + i) % C = i := by rw [Nat.add_comm, Nat.mul_comm, Nat.add_mul_mod_self_left, Nat.mod_eq_of_lt hi]
    show F ((N * C + i) / C) ((N * C + i) % C) = F N i
    rw [h1, h2]
theorem bN_and3 (x y z : Bool) : bN (x && y && z) = bN x * bN y * bN z := by cases x <;> cases y <;> cases z <;> rfl
theorem sum_abc (f g h : Nat → Nat) {A B C : Nat} (hB : 0 < B) (hC : 0 < C) : sumN (fun e => f (e / C / B) * g (e / C % B) * h (e % C)) (A * B * C) = sumN f A * sumN g B * sumN h C := by
  have h1 := sum_dm (fun q c => f (q / B) * g (q % B) * h c) hC (A * B)
  have h2 := sum_dm (fun a b => f a * g b) hB A
  have h3 : sumN (fun q => sumN (fun c => f (q / B) * g (q % B) * h c) C) (A * B) = sumN (fun q => f (q / B) * g (q % B)) (A * B) * sumN h C := by
    rw [← sum_mulR]
    exact sumN_congr _ fun q _ => sum_mulL _ h C
  have h4 : sumN (fun a => sumN (fun b => f a * g b) B) A = sumN f A * sumN g B := by
    rw [← sum_mulR]
    exact sumN_congr _ fun a _ => sum_mulL _ g B
  exact h1.trans (h3.trans (by rw [← h4]; exact congrArg (fun z => z * sumN h C) h2))
/-- in how many of the blocks of a list a number lies, by their masks -/
def cntB (M : Nat) (l : List (Nat × Nat)) (x : Nat) : Nat := sumN (fun j => bN (decide (x &&& (M - bkS l j) = bkB l j))) l.length
theorem cnt_r : ∀ f : Fin 32, ∀ t : Fin 32, (!decide (f.val ≤ t.val) || (List.range 32).all (fun x => decide (cntB 32 (Bk f.val (t.val + 1)) x = bN (inN x f.val t.val)))) = true := by decide +kernel
theorem cnt_p : ∀ pr : Fin 16, (!decide (1 ≤ pr.val) || (List.range 4).all (fun x => decide (cntB 4 (Pb pr.val) x = bN (hol pr.val x)))) = true := by decide +kernel
theorem cnt_S {f t x : Nat} (h : f ≤ t) (ht : t ≤ 31) (hx : x < 32) : cntB 32 (Bk f (t + 1)) x = bN (inN x f t) := by
  have h1 := cnt_r ⟨f, by omega⟩ ⟨t, by omega⟩
  rw [decide_eq_true (show f ≤ t from h)] at h1
  have h2 : (List.range 32).all (fun x => decide (cntB 32 (Bk f (t + 1)) x = bN (inN x f t))) = true := h1
  exact of_decide_eq_true (List.all_eq_true.mp h2 x (List.mem_range.mpr hx))
theorem cnt_P {pr x : Nat} (h : 1 ≤ pr) (h2 : pr ≤ 15) (hx : x < 4) : cntB 4 (Pb pr) x = bN (hol pr x) := by
  have h1 := cnt_p ⟨pr, by omega⟩
  rw [decide_eq_true (show 1 ≤ pr from h)] at h1
  have h3 : (List.range 4).all (fun x => decide (cntB 4 (Pb pr) x = bN (hol pr x))) = true := h1
  exact of_decide_eq_true (List.all_eq_true.mp h3 x (List.mem_range.mpr hx))
/-- in how many of a rule's first n entries a packet is -/
def metN (r : RV) (q n : Nat) : Nat := sumN (fun e => bN (decide (q &&& emN r e = evN r e))) n
theorem met_e {r : RV} {s d p e : Nat} (h : rvOk r) (hs : s < 32) (hd : d < 32) (hp : p < 4) (he : e < enN r) : decide ((128 * s + 4 * d + p) &&& emN r e = evN r e) = (decide (s &&& (32 - bkS (bS r) (eS r e)) = bkB (bS r) (eS r e)) && decide (d &&& (32 - bkS (bD r) (eD r e)) = bkB (bD r) (eD r e)) && decide (p &&& (4 - bkS (bP r) (eP r e)) = bkB (bP r) (eP r e))) := by
  have a1 := bS_at h (eS_lt he)
  have a2 := bD_at h (eD_lt h e)
  have a3 := bP_at h (eP_lt h e)
  have b1 := bS_s32 h (eS r e)
  have b2 := bD_s32 h (eD r e)
  have b3 := bP_s4 h (eP r e)
  have e1 : emN r e = 128 * (32 - bkS (bS r) (eS r e)) + 4 * (32 - bkS (bD r) (eD r e)) + (4 - bkS (bP r) (eP r e)) := by
    unfold emN
    omega
  have c1 : s &&& (32 - bkS (bS r) (eS r e)) ≤ s := Nat.and_le_left
  have c2 : d &&& (32 - bkS (bD r) (eD r e)) ≤ d := Nat.and_le_left
  have c3 : p &&& (4 - bkS (bP r) (eP r e)) ≤ p := Nat.and_le_left
  rw [e1, and_pk hd hp (by omega) (by omega)]
  unfold evN
  rw [Bool.eq_iff_iff, Bool.and_eq_true, Bool.and_eq_true, decide_eq_true_eq, decide_eq_true_eq, decide_eq_true_eq, decide_eq_true_eq]
  omega
theorem met_all {r : RV} {s d p : Nat} (h : rvOk r) (hs : s < 32) (hd : d < 32) (hp : p < 4) : metN r (128 * s + 4 * d + p) (enN r) = bN (mtB r s d p) := by
  have hv := h
  unfold rvOk at hv
  have h1 : metN r (128 * s + 4 * d + p) (enN r) = sumN (fun e => bN (decide (s &&& (32 - bkS (bS r) (e / (bP r).length / (bD r).length)) = bkB (bS r) (e / (bP r).length / (bD r).length))) * bN (decide (d &&& (32 - bkS (bD r) (e / (bP r).length % (bD r).length)) = bkB (bD r) (e / (bP r).length % (bD r).length))) * bN (decide (p &&& (4 - bkS (bP r) (e % (bP r).length)) = bkB (bP r) (e % (bP r).length)))) (enN r) := sumN_congr _ fun e he => by
    rw [met_e h hs hd hp he, bN_and3]
    rfl
  have h2 := sum_abc (fun a => bN (decide (s &&& (32 - bkS (bS r) a) = bkB (bS r) a))) (fun b => bN (decide (d &&& (32 - bkS (bD r) b) = bkB (bD r) b))) (fun c => bN (decide (p &&& (4 - bkS (bP r) c) = bkB (bP r) c))) (A := (bS r).length) (bD_len h).1 (bP_len h).1
  have s1 : cntB 32 (bS r) s = bN (inN s (sF r) (sT r)) := cnt_S (by omega) (by omega) hs
  have s2 : cntB 32 (bD r) d = bN (inN d (dF r) (dT r)) := cnt_S (by omega) (by omega) hd
  have s3 : cntB 4 (bP r) p = bN (hol (pR r) p) := cnt_P (by omega) (by omega) hp
  have h3 : metN r (128 * s + 4 * d + p) (enN r) = cntB 32 (bS r) s * cntB 32 (bD r) d * cntB 4 (bP r) p := h1.trans h2
  rw [h3, s1, s2, s3]
  unfold mtB con
  cases inN s (sF r) (sT r) <;> cases inN d (dF r) (dT r) <;> cases hol (pR r) p <;> rfl
theorem met_q {r : RV} {q : Nat} (h : rvOk r) (hq : q < 4096) : metN r q (enN r) = bN (mtB r (q / 128) (q / 4 % 32) (q % 4)) := by
  have h1 := met_all (s := q / 128) (d := q / 4 % 32) (p := q % 4) h (by omega) (by omega) (by omega)
  rw [show 128 * (q / 128) + 4 * (q / 4 % 32) + q % 4 = q from by omega] at h1
  exact h1
theorem ev_lt {r : RV} {e : Nat} (h : rvOk r) (he : e < enN r) : evN r e < 4096 ∧ emN r e < 4096 := by
  have a1 := bS_at h (eS_lt he)
  have a2 := bD_at h (eD_lt h e)
  have a3 := bP_at h (eP_lt h e)
  unfold evN emN
  omega
theorem met_le (r : RV) (q : Nat) : ∀ n, metN r q n ≤ n
  | 0 => Nat.le_refl 0
  | n + 1 => Nat.add_le_add (met_le r q n) (bN_le _)
theorem met_s {r : RV} {q e : Nat} {b : Bool} (h : decide (q &&& emN r e = evN r e) = b) : metN r q e + bN b = metN r q (e + 1) := by
  rw [← h]
  rfl
