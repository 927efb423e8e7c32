/-! bits counted byte by byte -/
theorem and_b8 (u v : Nat) : u &&& v = 256 * (u / 256 &&& v / 256) + (u % 256 &&& v % 256) := by
  have h1 : (u &&& v) % 256 = u % 256 &&& v % 256 := Nat.and_mod_two_pow (n := 8)
  have dd : ∀ n : Nat, n / 256 = n / 2 / 2 / 2 / 2 / 2 / 2 / 2 / 2 := fun n => by omega
  have h2 : (u &&& v) / 256 = u / 256 &&& v / 256 := by rw [dd, dd u, dd v, and_half, and_half, and_half, and_half, and_half, and_half, and_half, and_half]
  rw [← h1, ← h2]
  exact (Nat.div_add_mod _ 256).symm
def by4 (a b c0 d : Nat) : Nat := a + 256 * (b + 256 * (c0 + 256 * d))
theorem and_s {t x c0 m : Nat} (hx9 : x < 256) (hm : m < 256) : (x + 256 * t) &&& (m + 256 * c0) = (x &&& m) + 256 * (t &&& c0) := by
  rw [and_b8, show (x + 256 * t) / 256 = t from by omega, show (m + 256 * c0) / 256 = c0 from by omega, show (x + 256 * t) % 256 = x from by omega, show (m + 256 * c0) % 256 = m from by omega]
  exact Nat.add_comm _ _
theorem and_by4 {a b c0 d m : Nat} (ha : a < 256) (hb9 : b < 256) (hc : c0 < 256) (hm : m < 256) : by4 a b c0 d &&& by4 m m m m = by4 (a &&& m) (b &&& m) (c0 &&& m) (d &&& m) := by
  unfold by4
  rw [and_s ha hm, and_s hb9 hm, and_s hc hm]
def g1 (b : Nat) : Nat := b - (b / 2 &&& 85)
def g2 (b : Nat) : Nat := (g1 b &&& 51) + (g1 b / 4 &&& 51)
theorem f1_ok : ∀ b : Fin 256, ∀ e : Fin 2, ((b.val / 2 + 128 * e.val) &&& 85) = (b.val / 2 &&& 85) ∧ (b.val / 2 &&& 85) ≤ b.val := by decide +kernel
theorem g1_ok : ∀ b : Fin 256, ∀ e : Fin 4, ((g1 b.val / 4 + 64 * e.val) &&& 51) = (g1 b.val / 4 &&& 51) ∧ g1 b.val < 256 := by decide +kernel
theorem g2_ok : ∀ b : Fin 256, ∀ k : Fin 5, g2 b.val + g2 b.val / 16 + 16 * k.val < 256 ∧ ((g2 b.val + g2 b.val / 16 + 16 * k.val) &&& 15) = popN 8 b.val ∧ g2 b.val % 16 ≤ 4 ∧ popN 8 b.val ≤ 8 := by decide +kernel
theorem sw1 {a b c0 d : Nat} (ha : a < 256) (hb9 : b < 256) (hc : c0 < 256) (hd : d < 256) : by4 a b c0 d / 2 &&& by4 85 85 85 85 = by4 (a / 2 &&& 85) (b / 2 &&& 85) (c0 / 2 &&& 85) (d / 2 &&& 85) := by
  rw [show by4 a b c0 d / 2 = by4 (a / 2 + 128 * (b % 2)) (b / 2 + 128 * (c0 % 2)) (c0 / 2 + 128 * (d % 2)) (d / 2) from by unfold by4; omega]
  rw [and_by4 (by omega) (by omega) (by omega) (by omega)]
  rw [(f1_ok ⟨a, ha⟩ ⟨b % 2, by omega⟩).1, (f1_ok ⟨b, hb9⟩ ⟨c0 % 2, by omega⟩).1, (f1_ok ⟨c0, hc⟩ ⟨d % 2, by omega⟩).1]
theorem sw2 {a b c0 d : Nat} (ha : a < 256) (hb9 : b < 256) (hc : c0 < 256) (hd : d < 256) : by4 a b c0 d - (by4 a b c0 d / 2 &&& by4 85 85 85 85) = by4 (g1 a) (g1 b) (g1 c0) (g1 d) := by
  rw [sw1 ha hb9 hc hd]
  have h1 := (f1_ok ⟨a, ha⟩ 0).2
  have h2 := (f1_ok ⟨b, hb9⟩ 0).2
  have h3 := (f1_ok ⟨c0, hc⟩ 0).2
  have h4 := (f1_ok ⟨d, hd⟩ 0).2
  have h1 : (a / 2 &&& 85) ≤ a := h1
  have h2 : (b / 2 &&& 85) ≤ b := h2
  have h3 : (c0 / 2 &&& 85) ≤ c0 := h3
  have h4 : (d / 2 &&& 85) ≤ d := h4
  unfold by4 g1
  omega
theorem sw3 {a b c0 d : Nat} (ha : a < 256) (hb9 : b < 256) (hc : c0 < 256) (hd : d < 256) : (by4 (g1 a) (g1 b) (g1 c0) (g1 d) &&& by4 51 51 51 51) + (by4 (g1 a) (g1 b) (g1 c0) (g1 d) / 4 &&& by4 51 51 51 51) = by4 (g2 a) (g2 b) (g2 c0) (g2 d) := by
  have h1 : g1 a < 256 := (g1_ok ⟨a, ha⟩ 0).2
  have h2 : g1 b < 256 := (g1_ok ⟨b, hb9⟩ 0).2
  have h3 : g1 c0 < 256 := (g1_ok ⟨c0, hc⟩ 0).2
  have h4 : g1 d < 256 := (g1_ok ⟨d, hd⟩ 0).2
  rw [show by4 (g1 a) (g1 b) (g1 c0) (g1 d) / 4 = by4 (g1 a / 4 + 64 * (g1 b % 4)) (g1 b / 4 + 64 * (g1 c0 % 4)) (g1 c0 / 4 + 64 * (g1 d % 4)) (g1 d / 4) from by unfold by4; omega]
  rw [and_by4 h1 h2 h3 (by omega), and_by4 (by omega) (by omega) (by omega) (by omega)]
  have q1 : ((g1 a / 4 + 64 * (g1 b % 4)) &&& 51) = (g1 a / 4 &&& 51) := (g1_ok ⟨a, ha⟩ ⟨g1 b % 4, by omega⟩).1
  have q2 : ((g1 b / 4 + 64 * (g1 c0 % 4)) &&& 51) = (g1 b / 4 &&& 51) := (g1_ok ⟨b, hb9⟩ ⟨g1 c0 % 4, by omega⟩).1
  have q3 : ((g1 c0 / 4 + 64 * (g1 d % 4)) &&& 51) = (g1 c0 / 4 &&& 51) := (g1_ok ⟨c0, hc⟩ ⟨g1 d % 4, by omega⟩).1
  rw [q1, q2, q3]
  unfold by4 g2
  omega
theorem sw4 {a b c0 d : Nat} (ha : a < 256) (hb9 : b < 256) (hc : c0 < 256) (hd : d < 256) : (by4 (g2 a) (g2 b) (g2 c0) (g2 d) + by4 (g2 a) (g2 b) (g2 c0) (g2 d) / 16) &&& by4 15 15 15 15 = by4 (popN 8 a) (popN 8 b) (popN 8 c0) (popN 8 d) := by
  have k2 : g2 b % 16 < 5 := Nat.lt_succ_of_le (g2_ok ⟨b, hb9⟩ 0).2.2.1
  have k3 : g2 c0 % 16 < 5 := Nat.lt_succ_of_le (g2_ok ⟨c0, hc⟩ 0).2.2.1
  have k4 : g2 d % 16 < 5 := Nat.lt_succ_of_le (g2_ok ⟨d, hd⟩ 0).2.2.1
  have p1 := g2_ok ⟨a, ha⟩ ⟨g2 b % 16, k2⟩
  have p2 := g2_ok ⟨b, hb9⟩ ⟨g2 c0 % 16, k3⟩
  have p3 := g2_ok ⟨c0, hc⟩ ⟨g2 d % 16, k4⟩
  have p4 := g2_ok ⟨d, hd⟩ 0
  rw [show by4 (g2 a) (g2 b) (g2 c0) (g2 d) + by4 (g2 a) (g2 b) (g2 c0) (g2 d) / 16 = by4 (g2 a + g2 a / 16 + 16 * (g2 b % 16)) (g2 b + g2 b / 16 + 16 * (g2 c0 % 16)) (g2 c0 + g2 c0 / 16 + 16 * (g2 d % 16)) (g2 d + g2 d / 16 + 16 * 0) from by unfold by4; omega]
  rw [and_by4 p1.1 p2.1 p3.1 (by omega), p1.2.1, p2.2.1, p3.2.1]
  rw [show (g2 d + g2 d / 16 + 16 * 0) &&& 15 = popN 8 d from p4.2.1]
theorem popN_app : ∀ (j k a t : Nat), a < 2 ^ j → popN (j + k) (a + 2 ^ j * t) = popN j a + popN k t
  | 0, k, a, t, h => by
    have h : a = 0 := by rw [Nat.pow_zero] at h; omega
    rw [h, Nat.zero_add, Nat.zero_add, Nat.pow_zero, Nat.one_mul]
    exact (Nat.zero_add _).symm
  | j + 1, k, a, t, h => by
    have e : 2 ^ (j + 1) * t = 2 * (2 ^ j * t) := by rw [Nat.pow_succ, Nat.mul_comm (2 ^ j) 2, Nat.mul_assoc]
    rw [Nat.pow_succ] at h
    rw [e, show j + 1 + k = (j + k) + 1 from by omega]
    show (a + 2 * (2 ^ j * t)) % 2 + popN (j + k) ((a + 2 * (2 ^ j * t)) / 2) = (a % 2 + popN j (a / 2)) + popN k t
    rw [show (a + 2 * (2 ^ j * t)) / 2 = a / 2 + 2 ^ j * t from by omega, show (a + 2 * (2 ^ j * t)) % 2 = a % 2 from by omega, popN_app j k (a / 2) t (by omega)]
    omega
theorem sw5 {a b c0 d : Nat} (ha : a < 256) (hb9 : b < 256) (hc : c0 < 256) : popN 32 (by4 a b c0 d) = popN 8 a + popN 8 b + popN 8 c0 + popN 8 d := by
  have e1 : popN 32 (a + 256 * (b + 256 * (c0 + 256 * d))) = popN 8 a + popN 24 (b + 256 * (c0 + 256 * d)) := popN_app 8 24 a _ ha
  have e2 : popN 24 (b + 256 * (c0 + 256 * d)) = popN 8 b + popN 16 (c0 + 256 * d) := popN_app 8 16 b _ hb9
  have e3 : popN 16 (c0 + 256 * d) = popN 8 c0 + popN 8 d := popN_app 8 8 c0 d hc
  unfold by4
  omega
