/-! bits counted byte by byte -/
theorem and_b8 (u v : Nat) : u &&& v = 256 * (u / 256 &&& v / 256) + (u % 256 &&& v % 256) := by
  have h1 : (u &&& v) % 256 = u % 256 &&& v % 256 := Nat.and_mod_two_pow (n := 8)
  have dd : ∀ n : Nat, n / 256 = n / 2 / 2 / 2 / 2 / 2 / 2 / 2 / 2 := fun n => by omega
  have h2 : (u &&& v) / 256 = u / 256 &&& v / 256 := by rw [dd, dd u, dd v, and_half, and_half, and_half, and_half, and_half, and_half, and_half, and_half]
  rw [← h1, ← h2]
  exact (Nat.div_add_mod _ 256).symm
def by4 (a b c0 d : Nat) : Nat := a + 256 * (b + 256 * (c0 + 256 * d))
theorem and_s {t x c0 m : Nat} (hx9 : x < 256) (hm : m < 256) : (x + 256 * t) &&& (m + 256 * c0) = (x &&& m) + 256 * (t &&& c0) := by
  rw [and_b8, show (x + 256 * t) / 256 = t from by omega, show (m + 256 * c0) / 256 = c0 from by omega, show (x + 256 * t) % 256 = x from by omega, show (m + 256 * c0) % 256 = m from by omega]
  exact Nat.add_comm _ _
theorem and_by4 {a b c0 d m : Nat} (ha : a < 256) (hb9 : b < 256) (hc : c0 < 256) (hm : m < 256) : by4 a b c0 d &&& by4 m m m m = by4 (a &&& m) (b &&& m) (c0 &&& m) (d &&& m) := by
  unfold by4
  rw [and_s ha hm, and_s hb9 hm, and_s hc hm]
def g1 (b : Nat) : Nat := b - (b / 2 &&& 85)
def g2 (b : Nat) : Nat := (g1 b &&& 51) + (g1 b / 4 &&& 51)
theorem f1_ok : ∀ b : Fin 256, ∀ e : Fin 2, ((b.val / 2 + 128 * e.val) &&& 85) = (b.val / 2 &&& 85) ∧ (b.val / 2 &&& 85) ≤ b.val := by decide +kernel
theorem g1_ok : ∀ b : Fin 256, ∀ e : Fin 4, ((g1 b.val / 4 + 64 * e.val) &&& 51) = (g1 b.val / 4 &&& 51) ∧ g1 b.val < 256 := by decide +kernel
theorem g2_ok : ∀ b : Fin 256, ∀ k : Fin 5, g2 b.val + g2 b.val / 16 + 16 * k.val < 256 ∧ ((g2 b.val + g2 b.val / 16 + 16 * k.val) &&& 15) = popN 8 b.val ∧ g2 b.val % 16 ≤ 4 ∧ popN 8 b.val ≤ 8 := by decide +kernel
theorem sw1 {a b c0 d : Nat} (ha : a < 256) (hb9 : b < 256) (hc : c0 < 256) (hd : d < 256) : by4 a b c0 d / 2 &&& by4 85 85 85 85 = by4 (a / 2 &&& 85) (b / 2 &&& 85) (c0 / 2 &&& 85) (d / 2 &&& 85) := by
  rw [show by4 a b c0 d / 2 = by4 (a / 2 + 128 * (b % 2)) (b / 2 + 128 * (c0 % 2)) (c0 / 2 + 128 * (d % 2)) (d / 2) from by unfold by4; omega]
  rw [and_by4 (by omega) (by omega) (by omega) (by omega)]
  rw [(f1_ok ⟨a, ha⟩ ⟨b % 2, by omega⟩).1, (f1_ok ⟨b, hb9⟩ ⟨c0 % 2, by omega⟩).1, (f1_ok ⟨c0, hc⟩ ⟨d % 2, by omega⟩).1]
theorem sw2 {a b c0 d : Nat} (ha : a < 256) (hb9 : b < 256) (hc : c0 < 256) (hd : d < 256) : by4 a b c0 d - (by4 a b c0 d / 2 &&& by4 85 85 85 85) = by4 (g1 a) (g1 b) (g1 c0) (g1 d) := by
  rw [sw1 ha hb9 hc hd]
  have h1 := (f1_ok ⟨a, ha⟩ 0).2
  have h2 := (f1_ok ⟨b, hb9⟩ 0).2
  have h3 := (f1_ok ⟨c0, hc⟩ 0).2
  have h4 := (f1_ok ⟨d, hd⟩ 0).2
  have h1 : (a / 2 &&& 85) ≤ a := h1
  have h2 : (b / 2 &&& 85) ≤ b := h2
  have h3 : (c0 / 2 &&& 85) ≤ c0 := h3
  have h4 : (d / 2 &&& 85) ≤ d := h4
  unfold by4 g1
  omega
theorem sw3 {a b c0 d : Nat} (ha : a < 256) (hb9 : b < 256) (hc : c0 < 256) (hd : d < 256) : (by4 (g1 a) (g1 b) (g1 c0) (g1 d) &&& by4 51 51 51 51) + (by4 (g1 a) (g1 b) (g1 c0) (g1 d) / 4 &&& by4 51 51 51 51) = by4 (g2 a) (g2 b) (g2 c0) (g2 d) := by
  have h1 : g1 a < 256 := (g1_ok ⟨a, ha⟩ 0).2
  have h2 : g1 b < 256 := (g1_ok ⟨b, hb9⟩ 0).2
  have h3 : g1 c0 < 256 := (g1_ok ⟨c0, hc⟩ 0).2
  have h4 : g1 d < 256 := (g1_ok ⟨d, hd⟩ 0).2
  rw [show by4 (g1 a) (g1 b) (g1 c0) (g1 d) / 4 = by4 (g1 a / 4 + 64 * (g1 b % 4)) (g1 b / 4 + 64 * (g1 c0 % 4)) (g1 c0 / 4 + 64 * (g1 d % 4)) (g1 d / 4) from by unfold by4; omega]
  rw [and_by4 h1 h2 h3 (by omega), and_by4 (by omega) (by omega) (by omega) (by omega)]
  have q1 : ((g1 a / 4 + 64 * (g1 b % 4)) &&& 51) = (g1 a / 4 &&& 51) := (g1_ok ⟨a, ha⟩ ⟨g1 b % 4, by omega⟩).1
  have q2 : ((g1 b / 4 + 64 * (g1 c0 % 4)) &&& 51) = (g1 b / 4 &&& 51) := (g1_ok ⟨b, hb9⟩ ⟨g1 c0 % 4, by omega⟩).1
  have q3 : ((g1 c0 / 4 + 64 * (g1 d % 4)) &&& 51) = (g1 c0 / 4 &&& 51) := (g1_ok ⟨c0, hc⟩ ⟨g1 d % 4, by omega⟩).1
  rw [q1, q2, q3]
  unfold by4 g2
  omega
theorem sw4 {a b c0 d : Nat} (ha : a < 256) (hb9 : b < 256) (hc : c0 < 256) (hd : d < 256) : (by4 (g2 a) (g2 b) (g2 c0) (g2 d) + by4 (g2 a) (g2 b) (g2 c0) (g2 d) / 16) &&& by4 15 15 15 15 = by4 (popN 8 a) (popN 8 b) (popN 8 c0) (popN 8 d) := by
  have k2 : g2 b % 16 < 5 := Nat.lt_succ_of_le (g2_ok ⟨b, hb9⟩ 0).2.2.1
  have k3 : g2 c0 % 16 < 5 := Nat.lt_succ_of_le (g2_ok ⟨c0, hc⟩ 0).2.2.1
  have k4 : g2 d % 16 < 5 := Nat.lt_succ_of_le (g2_ok ⟨d, hd⟩ 0).2.2.1
  have p1 := g2_ok ⟨a, ha⟩ ⟨g2 b % 16, k2⟩
  have p2 := g2_ok ⟨b, hb9⟩ ⟨g2 c0 % 16, k3⟩
  have p3 := g2_ok ⟨c0, hc⟩ ⟨g2 d % 16, k4⟩
  have p4 := g2_ok ⟨d, hd⟩ 0
  rw [show by4 (g2 a) (g2 b) (g2 c0) (g2 d) + by4 (g2 a) (g2 b) (g2 c0) (g2 d) / 16 = by4 (g2 a + g2 a / 16 + 16 * (g2 b % 16)) (g2 b + g2 b / 16 + 16 * (g2 c0 % 16)) (g2 c0 + g2 c0 / 16 + 16 * (g2 d % 16)) (g2 d + g2 d / 16 + 16 * 0) from by unfold by4; omega]
  rw [and_by4 p1.1 p2.1 p3.1 (by omega), p1.2.1, p2.2.1, p3.2.1]
  rw [show (g2 d + g2 d / 16 + 16 * 0) &&& 15 = popN 8 d from p4.2.1]
theorem popN_app : ∀ (j k a t : Nat), a < 2 ^ j → popN (j + k) (a + 2 ^ j * t) = popN j a + popN k t
  | 0, k, a, t, h => by
    have h : a = 0 := by rw [Nat.pow_zero] at h; omega
    rw [h, Nat.zero_add, Nat.zero_add, Nat.pow_zero, Nat.one_mul]
    exact (Nat.zero_add _).symm
  | j + 1, k, a, t, h => by
    have e : 2 ^ (j + 1) * t = 2 * (2 ^ j * t) := by rw [Nat.pow_succ, Nat.mul_comm (2 ^ j) 2, Nat.mul_assoc]
    rw [Nat.pow_succ] at h
    rw [e, show j + 1 + k = (j + k) + 1 from by omega]
    show (a + 2 * (2 ^ j * t)) % 2 + popN (j + k) ((a + 2 * (2 ^ j * t)) / 2) = (a % 2 + popN j (a / 2)) + popN k t
    rw [show (a + 2 * (2 ^ j * t)) / 2 = a / 2 + 2 ^ j * t from by omega, show (a + 2 * (2 ^ j * t)) % 2 = a % 2 from by omega, popN_app j k (a / 2) t (by omega)]
    omega
theorem sw5 {a b c0 d : Nat} (ha : a < 256) (hb9 : b < 256) (hc : c0 < 256) : popN 32 (by4 a b c0 d) = popN 8 a + popN 8 b + popN 8 c0 + popN 8 d := by
  have e1 : popN 32 (a + 256 * (b + 256 * (c0 + 256 * d))) = popN 8 a + popN 24 (b + 256 * (c0 + 256 * d)) := popN_app 8 24 a _ ha
  have e2 : popN 24 (b + 256 * (c0 + 256 * d)) = popN 8 b + popN 16 (c0 + 256 * d) := popN_app 8 16 b _ hb9
  have e3 : popN 16 (c0 + 256 * d) = popN 8 c0 + popN 8 d := popN_app 8 8 c0 d hc
  unfold by4
  omega
theorem tn_sh (x : Int32) (k : Nat) (hk : ((((nI k).toUInt32 &&& Int32.toUInt32 31).toBitVec) % 32).toNat = k) : ((x.toUInt32 >>> ((nI k).toUInt32 &&& Int32.toUInt32 31)).toInt32).toBitVec.toNat = x.toBitVec.toNat / 2 ^ k := pk_ushr x (nI k) k hk
theorem tn_and (x y : Int32) : (x &&& y).toBitVec.toNat = x.toBitVec.toNat &&& y.toBitVec.toNat := by rw [Int32.toBitVec_and, BitVec.toNat_and]
theorem tn_add (x y : Int32) (h : x.toBitVec.toNat + y.toBitVec.toNat < 2 ^ 32) : (x + y).toBitVec.toNat = x.toBitVec.toNat + y.toBitVec.toNat := by
  rw [Int32.toBitVec_add, BitVec.toNat_add]
  exact Nat.mod_eq_of_lt h
theorem tn_sub (x y : Int32) (h : y.toBitVec.toNat ≤ x.toBitVec.toNat) : (x - y).toBitVec.toNat = x.toBitVec.toNat - y.toBitVec.toNat := by
  have h1 := x.toBitVec.isLt
  rw [Int32.toBitVec_sub, BitVec.toNat_sub]
  omega
theorem sw6 {p q r t : Nat} (hp : p ≤ 8) (hq : q ≤ 8) (hr : r ≤ 8) (ht : t ≤ 8) : (by4 p q r t + by4 p q r t / 256 + (by4 p q r t + by4 p q r t / 256) / 65536) % 64 = p + q + r + t := by
  have e1 : by4 p q r t / 256 = q + 256 * (r + 256 * t) := by unfold by4; omega
  rw [e1]
  have e2 : (by4 p q r t + (q + 256 * (r + 256 * t))) / 65536 = r + t + 256 * t := by unfold by4; omega
  rw [e2]
  unfold by4
  omega
theorem g2_le : ∀ b : Fin 256, g2 b.val ≤ 68 := by decide +kernel
theorem swar2 (x : Int32) : ((((((((x - (((x).toUInt32 >>> ((nI (1)).toUInt32 &&& Int32.toUInt32 31)).toInt32 &&& (1431655765 : Int32))) &&& (858993459 : Int32)) + ((((x - (((x).toUInt32 >>> ((nI (1)).toUInt32 &&& Int32.toUInt32 31)).toInt32 &&& (1431655765 : Int32)))).toUInt32 >>> ((nI (2)).toUInt32 &&& Int32.toUInt32 31)).toInt32 &&& (858993459 : Int32))) + (((((x - (((x).toUInt32 >>> ((nI (1)).toUInt32 &&& Int32.toUInt32 31)).toInt32 &&& (1431655765 : Int32))) &&& (858993459 : Int32)) + ((((x - (((x).toUInt32 >>> ((nI (1)).toUInt32 &&& Int32.toUInt32 31)).toInt32 &&& (1431655765 : Int32)))).toUInt32 >>> ((nI (2)).toUInt32 &&& Int32.toUInt32 31)).toInt32 &&& (858993459 : Int32)))).toUInt32 >>> ((nI (4)).toUInt32 &&& Int32.toUInt32 31)).toInt32) &&& (252645135 : Int32)) + (((((((x - (((x).toUInt32 >>> ((nI (1)).toUInt32 &&& Int32.toUInt32 31)).toInt32 &&& (1431655765 : Int32))) &&& (858993459 : Int32)) + ((((x - (((x).toUInt32 >>> ((nI (1)).toUInt32 &&& Int32.toUInt32 31)).toInt32 &&& (1431655765 : Int32)))).toUInt32 >>> ((nI (2)).toUInt32 &&& Int32.toUInt32 31)).toInt32 &&& (858993459 : Int32))) + (((((x - (((x).toUInt32 >>> ((nI (1)).toUInt32 &&& Int32.toUInt32 31)).toInt32 &&& (1431655765 : Int32))) &&& (858993459 : Int32)) + ((((x - (((x).toUInt32 >>> ((nI (1)).toUInt32 &&& Int32.toUInt32 31)).toInt32 &&& (1431655765 : Int32)))).toUInt32 >>> ((nI (2)).toUInt32 &&& Int32.toUInt32 31)).toInt32 &&& (858993459 : Int32)))).toUInt32 >>> ((nI (4)).toUInt32 &&& Int32.toUInt32 31)).toInt32) &&& (252645135 : Int32))).toUInt32 >>> ((nI (8)).toUInt32 &&& Int32.toUInt32 31)).toInt32) + ((((((((x - (((x).toUInt32 >>> ((nI (1)).toUInt32 &&& Int32.toUInt32 31)).toInt32 &&& (1431655765 : Int32))) &&& (858993459 : Int32)) + ((((x - (((x).toUInt32 >>> ((nI (1)).toUInt32 &&& Int32.toUInt32 31)).toInt32 &&& (1431655765 : Int32)))).toUInt32 >>> ((nI (2)).toUInt32 &&& Int32.toUInt32 31)).toInt32 &&& (858993459 : Int32))) + (((((x - (((x).toUInt32 >>> ((nI (1)).toUInt32 &&& Int32.toUInt32 31)).toInt32 &&& (1431655765 : Int32))) &&& (858993459 : Int32)) + ((((x - (((x).toUInt32 >>> ((nI (1)).toUInt32 &&& Int32.toUInt32 31)).toInt32 &&& (1431655765 : Int32)))).toUInt32 >>> ((nI (2)).toUInt32 &&& Int32.toUInt32 31)).toInt32 &&& (858993459 : Int32)))).toUInt32 >>> ((nI (4)).toUInt32 &&& Int32.toUInt32 31)).toInt32) &&& (252645135 : Int32)) + (((((((x - (((x).toUInt32 >>> ((nI (1)).toUInt32 &&& Int32.toUInt32 31)).toInt32 &&& (1431655765 : Int32))) &&& (858993459 : Int32)) + ((((x - (((x).toUInt32 >>> ((nI (1)).toUInt32 &&& Int32.toUInt32 31)).toInt32 &&& (1431655765 : Int32)))).toUInt32 >>> ((nI (2)).toUInt32 &&& Int32.toUInt32 31)).toInt32 &&& (858993459 : Int32))) + (((((x - (((x).toUInt32 >>> ((nI (1)).toUInt32 &&& Int32.toUInt32 31)).toInt32 &&& (1431655765 : Int32))) &&& (858993459 : Int32)) + ((((x - (((x).toUInt32 >>> ((nI (1)).toUInt32 &&& Int32.toUInt32 31)).toInt32 &&& (1431655765 : Int32)))).toUInt32 >>> ((nI (2)).toUInt32 &&& Int32.toUInt32 31)).toInt32 &&& (858993459 : Int32)))).toUInt32 >>> ((nI (4)).toUInt32 &&& Int32.toUInt32 31)).toInt32) &&& (252645135 : Int32))).toUInt32 >>> ((nI (8)).toUInt32 &&& Int32.toUInt32 31)).toInt32)).toUInt32 >>> ((nI (16)).toUInt32 &&& Int32.toUInt32 31)).toInt32) &&& nI 63) = nI (popI x) := by
  have hN := x.toBitVec.isLt
  obtain ⟨a, ea⟩ : ∃ z, z = x.toBitVec.toNat % 256 := ⟨_, rfl⟩
  obtain ⟨b, eb⟩ : ∃ z, z = x.toBitVec.toNat / 256 % 256 := ⟨_, rfl⟩
  obtain ⟨c0, ec⟩ : ∃ z, z = x.toBitVec.toNat / 65536 % 256 := ⟨_, rfl⟩
  obtain ⟨d, ed⟩ : ∃ z, z = x.toBitVec.toNat / 16777216 := ⟨_, rfl⟩
  have ha : a < 256 := by omega
  have hb9 : b < 256 := by omega
  have hc : c0 < 256 := by omega
  have hd : d < 256 := by omega
  have hn : x.toBitVec.toNat = by4 a b c0 d := by unfold by4; omega
  have hpop : popI x = popN 8 a + popN 8 b + popN 8 c0 + popN 8 d := by unfold popI; rw [hn, sw5 ha hb9 hc]
  clear ea eb ec ed
  have m1 : (1431655765 : Int32).toBitVec.toNat = by4 85 85 85 85 := by decide +kernel
  have m2 : (858993459 : Int32).toBitVec.toNat = by4 51 51 51 51 := by decide +kernel
  have m3 : (252645135 : Int32).toBitVec.toNat = by4 15 15 15 15 := by decide +kernel
  have s1 : (((x).toUInt32 >>> ((nI (1)).toUInt32 &&& Int32.toUInt32 31)).toInt32 &&& (1431655765 : Int32)).toBitVec.toNat = by4 a b c0 d / 2 &&& by4 85 85 85 85 := by rw [tn_and, tn_sh x 1 (by decide), hn, m1]
  have t1 : (x - (((x).toUInt32 >>> ((nI (1)).toUInt32 &&& Int32.toUInt32 31)).toInt32 &&& (1431655765 : Int32))).toBitVec.toNat = by4 (g1 a) (g1 b) (g1 c0) (g1 d) := by
    rw [tn_sub _ _ (by rw [s1, hn]; exact Nat.le_trans Nat.and_le_left (Nat.div_le_self _ _)), s1, hn]
    exact sw2 ha hb9 hc hd
  generalize (x - (((x).toUInt32 >>> ((nI (1)).toUInt32 &&& Int32.toUInt32 31)).toInt32 &&& (1431655765 : Int32))) = y1 at t1 ⊢
  clear s1
  have ga := g2_le ⟨a, ha⟩
  have gb := g2_le ⟨b, hb9⟩
  have gc := g2_le ⟨c0, hc⟩
  have gd := g2_le ⟨d, hd⟩
  have ga : g2 a ≤ 68 := ga
  have gb : g2 b ≤ 68 := gb
  have gc : g2 c0 ≤ 68 := gc
  have gd : g2 d ≤ 68 := gd
  have s2 : (y1 &&& (858993459 : Int32)).toBitVec.toNat + (((y1).toUInt32 >>> ((nI (2)).toUInt32 &&& Int32.toUInt32 31)).toInt32 &&& (858993459 : Int32)).toBitVec.toNat = by4 (g2 a) (g2 b) (g2 c0) (g2 d) := by
    rw [tn_and, tn_and, tn_sh y1 2 (by decide), t1, m2]
    exact sw3 ha hb9 hc hd
  have t2 : ((y1 &&& (858993459 : Int32)) + (((y1).toUInt32 >>> ((nI (2)).toUInt32 &&& Int32.toUInt32 31)).toInt32 &&& (858993459 : Int32))).toBitVec.toNat = by4 (g2 a) (g2 b) (g2 c0) (g2 d) := by rw [tn_add _ _ (by rw [s2]; unfold by4; omega), s2]
  generalize ((y1 &&& (858993459 : Int32)) + (((y1).toUInt32 >>> ((nI (2)).toUInt32 &&& Int32.toUInt32 31)).toInt32 &&& (858993459 : Int32))) = y2 at t2 ⊢
  clear s2
  have t3 : ((y2 + ((y2).toUInt32 >>> ((nI (4)).toUInt32 &&& Int32.toUInt32 31)).toInt32) &&& (252645135 : Int32)).toBitVec.toNat = by4 (popN 8 a) (popN 8 b) (popN 8 c0) (popN 8 d) := by
    rw [tn_and, tn_add _ _ (by rw [tn_sh y2 4 (by decide), t2]; unfold by4; omega), tn_sh y2 4 (by decide), t2, m3]
    exact sw4 ha hb9 hc hd
  generalize ((y2 + ((y2).toUInt32 >>> ((nI (4)).toUInt32 &&& Int32.toUInt32 31)).toInt32) &&& (252645135 : Int32)) = y3 at t3 ⊢
  have pa := popN_le 8 a
  have pb := popN_le 8 b
  have pc9 := popN_le 8 c0
  have pd := popN_le 8 d
  have t4 : (y3 + ((y3).toUInt32 >>> ((nI (8)).toUInt32 &&& Int32.toUInt32 31)).toInt32).toBitVec.toNat = by4 (popN 8 a) (popN 8 b) (popN 8 c0) (popN 8 d) + by4 (popN 8 a) (popN 8 b) (popN 8 c0) (popN 8 d) / 256 := by
    rw [tn_add _ _ (by rw [tn_sh y3 8 (by decide), t3]; unfold by4; omega), tn_sh y3 8 (by decide), t3]
  generalize (y3 + ((y3).toUInt32 >>> ((nI (8)).toUInt32 &&& Int32.toUInt32 31)).toInt32) = y4 at t4 ⊢
  have t5 : (y4 + ((y4).toUInt32 >>> ((nI (16)).toUInt32 &&& Int32.toUInt32 31)).toInt32).toBitVec.toNat = y4.toBitVec.toNat + y4.toBitVec.toNat / 65536 := by
    rw [tn_add _ _ (by rw [tn_sh y4 16 (by decide), t4]; unfold by4; omega), tn_sh y4 16 (by decide)]
  generalize (y4 + ((y4).toUInt32 >>> ((nI (16)).toUInt32 &&& Int32.toUInt32 31)).toInt32) = y5 at t5 ⊢
  rw [pk_and y5 6 (by decide), hpop, t5, t4]
  exact congrArg nI (sw6 pa pb pc9 pd)
