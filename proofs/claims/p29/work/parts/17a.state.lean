/-! what the class holds, the two sides of a call -/
abbrev zW (Y : Nat → ClassId) (la x na t0 : Nat) (mod : Int32) (nt : Nat → Int32) (ju mi lo : Int32) : va_W := [(la, .inr (4, [.int mod, .ref t0, .int (nI 0)])), (x, .inr (2, [.ref la, .ref na, .int ju, .int mi, .int lo])), (na, .inl (Y 0, 128, .inl nt))] ++ ([] : va_W)
/-- the class holds these rules -/
def CS (D : va_G) (Y : Nat → ClassId) (F : Nat → Prop) (t0 la x na : Nat) (ju mi lo : Int32) (rs : List RV) (H : Heap) : Prop := (∃ ea cap : Nat, 1 ≤ cap ∧ ccB D Y F la x na ea cap ju mi lo rs H) ∨ (rs = [] ∧ ∃ (mod : Int32) (nt : Nat → Int32), va_P D aCl (zW Y la x na t0 mod nt ju mi lo) H ∧ va_D F (zW Y la x na t0 mod nt ju mi lo))
theorem va_P.keptF {D : va_G} {F : Nat → Prop} {ws : va_W} {H H1 : Heap} (hP : va_P D aCl ws H) (hD : va_D F ws) (hq : ∀ q, q < H.size → F q → H1[q]? = H[q]?) : va_P D aCl ws H1 := hP.kept (fun k q hk => hq q.1 (vx_lt hP hk) (hD.2 k q hk))
section CSS
variable {l : Launch} {D : va_G} {Y : Nat → ClassId} {F : Nat → Prop} {t0 la x na o : Nat} {ju mi lo : Int32} {rs : List RV} {H H1 : Heap}
theorem CS.kept (h : CS D Y F t0 la x na ju mi lo rs H) (hq : ∀ q, q < H.size → F q → H1[q]? = H[q]?) : CS D Y F t0 la x na ju mi lo rs H1 := by
  rcases h with ⟨ea, cap, h1, mod, es, nt, L, P, e, hc, hP, hD⟩ | ⟨e, mod, nt, hP, hD⟩
  · exact Or.inl ⟨ea, cap, h1, mod, es, nt, L, P, e, hc, hP.keptF hD hq, hD⟩
  · exact Or.inr ⟨e, mod, nt, hP.keptF hD hq, hD⟩
theorem CS.rd (h : CS D Y F t0 la x na ju mi lo rs H) : ∃ (ea cap : Nat) (mod : Int32) (es : Nat → Option Nat) (nt : Nat → Int32) (L : List RA), rdA D Y x la na ea cap mod es nt ju mi lo L H ∧ RS L = rs := by
  rcases h with ⟨ea, cap, h1, mod, es, nt, L, P, e, hc, hP, hD⟩ | ⟨e, mod, nt, hP, hD⟩
  · exact ⟨ea, cap, mod, es, nt, L, rdA_of hP hc, e⟩
  · exact ⟨t0, 0, mod, fun _ => none, nt, [], rdA0 hP, e.symm⟩
theorem CS.ok (h : CS D Y F t0 la x na ju mi lo rs H) : rsOk rs := by
  obtain ⟨ea, cap, mod, es, nt, L, hA, e⟩ := h.rd
  rw [← e]
  exact hA.2.2.2.2.2
theorem CS.add {a : RV} (h : ∃ ea2 cap2, ccB D Y F la x na ea2 cap2 ju mi lo (rs ++ [a]) H) : CS D Y F t0 la x na ju mi lo (rs ++ [a]) H := by
  obtain ⟨ea, cap, mod, es, nt, L, P, e, hc, hP, hD⟩ := h
  refine Or.inl ⟨ea, cap, ?_, mod, es, nt, L, P, e, hc, hP, hD⟩
  have h1 := hc.2.2.1
  have h2 : (RS L).length = (rs ++ [a]).length := by rw [e]
  rw [RS_len, List.length_append] at h2
  have h3 : [a].length = 1 := rfl
  omega
theorem CS.cap {cap ea : Nat} (h1 : 1 ≤ cap) (h : ccB D Y F la x na ea cap ju mi lo rs H) : CS D Y F t0 la x na ju mi lo rs H := Or.inl ⟨ea, cap, h1, h⟩
/-- a method that only reads -/
theorem rdu {y : MethodName} {ws : List Cond} {d : Nat} {E : State → Prop} {av : List Value} {r : Int32} (hC : CS D Y F t0 la x na ju mi lo rs H) (h : Rd l y ws d D Y av H r) : UC l y ws d 0 0 D Y E av H F (bI_ r (CS D Y F t0 la x na ju mi lo rs)) :=
  UC.mono (Rd.uc (E := E) (F := F) h) (fun _ z => z) (fun v H2 z => ⟨z.1, by rw [z.2]; exact hC⟩)
/-- a method that changes -/
theorem ucu {y : MethodName} {ws : List Cond} {d mc ms : Nat} {av : List Value} {r : Int32} {B : Heap → Prop} {E E' : State → Prop} (h : UC l y ws d mc ms D Y E av H F (bI_ r B)) (hE : ∀ U, E' U → E U) (hB : ∀ H2, B H2 → CS D Y F t0 la x na ju mi lo rs H2) : UC l y ws d mc ms D Y E' av H F (bI_ r (CS D Y F t0 la x na ju mi lo rs)) :=
  UC.mono h hE (fun v H2 z => ⟨z.1, hB H2 z.2⟩)
end CSS
theorem fstN_not {P : Nat → Bool} : ∀ n k, k < fstN P n → k < n → P k = false
  | 0, k, h, h2 => absurd h2 (Nat.not_lt_zero k)
  | n + 1, k, h, h2 => by
    rw [fstN] at h
    by_cases h3 : fstN P n < n
    · rw [if_pos h3] at h
      exact fstN_not n k h (by omega)
    · rw [if_neg h3] at h
      by_cases h4 : P n = true
      · rw [if_pos h4] at h
        exact fstN_not n k (by omega) h
      · by_cases h5 : k = n
        · rw [h5]; exact Bool.eq_false_iff.mpr h4
        · exact fstN_not n k (by omega) (by omega)
theorem fstN_hit {P : Nat → Bool} : ∀ n, fstN P n < n → P (fstN P n) = true
  | 0, h => absurd h (Nat.not_lt_zero _)
  | n + 1, h => by
    rw [fstN] at h ⊢
    by_cases h3 : fstN P n < n
    · rw [if_pos h3]
      exact fstN_hit n h3
    · rw [if_neg h3] at h ⊢
      by_cases h4 : P n = true
      · rw [if_pos h4]; exact h4
      · rw [if_neg h4] at h; omega
theorem pk_inv {a b q : Int32} (h : pkB a b q = true) : ∃ s0 d0 p0 : Nat, s0 < 32 ∧ d0 < 32 ∧ p0 < 4 ∧ a = nI s0 ∧ b = nI d0 ∧ q = nI p0 := by
  unfold pkB at h
  rw [Bool.and_eq_true, Bool.and_eq_true, i_iff, i_iff, i_iff, nI_toInt (by decide), nI_toInt (by decide), nI_toInt (by decide)] at h
  have k : ∀ {z : Int32} {m : Nat}, 0 ≤ z.toInt → z.toInt ≤ (m : Int) → m < 100 → ∃ n : Nat, n ≤ m ∧ z = nI n := by
    intro z m h1 h2 h3
    refine ⟨z.toInt.toNat, by omega, Int32.toInt_inj.mp ?_⟩
    rw [nI_toInt (by omega)]
    omega
  obtain ⟨s0, hs, es⟩ := k (z := a) (m := 31) (by omega) (by omega) (by decide)
  obtain ⟨d0, hd, ed⟩ := k (z := b) (m := 31) (by omega) (by omega) (by decide)
  obtain ⟨p0, hp, ep⟩ := k (z := q) (m := 3) (by omega) (by omega) (by decide)
  exact ⟨s0, d0, p0, by omega, by omega, by omega, es, ed, ep⟩
theorem rg_inv {a b : Int32} (h : rgB a b = true) : ∃ m n : Nat, m ≤ n ∧ n ≤ 31 ∧ a = nI m ∧ b = nI n := by
  rw [rg_iff] at h
  refine ⟨a.toInt.toNat, b.toInt.toNat, by omega, by omega, Int32.toInt_inj.mp ?_, Int32.toInt_inj.mp ?_⟩
  · rw [nI_toInt (by omega)]; omega
  · rw [nI_toInt (by omega)]; omega
theorem en_inv {en : Int32} {n : Nat} (hn : 1 ≤ n ∧ n ≤ 128) (h : inI en (nI 0) (nI n - nI 1) = true) : ∃ e0 : Nat, e0 < n ∧ en = nI e0 := by
  rw [pk_sub (by omega), i_iff, nI_toInt (by decide), nI_toInt (by omega)] at h
  refine ⟨en.toInt.toNat, by omega, Int32.toInt_inj.mp ?_⟩
  rw [nI_toInt (by omega)]
  omega
theorem pr_inv {q : Int32} (h : inI q (nI 1) (nI 15) = true) : ∃ n : Nat, 1 ≤ n ∧ n ≤ 15 ∧ q = nI n := by
  rw [i_iff, nI_toInt (by decide), nI_toInt (by decide)] at h
  refine ⟨q.toInt.toNat, by omega, by omega, Int32.toInt_inj.mp ?_⟩
  rw [nI_toInt (by omega)]
  omega
theorem cm_inv {pl : Int32} {n : Nat} (hn : n ≤ 16) (h : inI pl (nI 0) (nI n - nI 2) = true) : ∃ i : Nat, i + 1 < n ∧ pl = nI i := by
  rw [i_iff, sub_iI hn (by decide), nI_toInt (by decide)] at h
  have h2 : ((2 : Nat) : Int) = 2 := rfl
  refine ⟨pl.toInt.toNat, by omega, Int32.toInt_inj.mp ?_⟩
  rw [nI_toInt (by omega)]
  omega
