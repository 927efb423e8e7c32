/-! averageLooks, and what the law compares of it -/
/-- what it answers, or another NaN -/
def avR (lo ju : Int32) (r : UInt32) : Prop := if ju = 0 then r = FP.fconst0 else alike32 r (FP.fdiv (FP.i2f lo) (FP.i2f ju)) = true
theorem avR_n {lo ju : Int32} {r : UInt32} (h : ¬ ju = 0) (ha : alike32 r (FP.fdiv (FP.i2f lo) (FP.i2f ju)) = true) : avR lo ju r := by
  unfold avR
  rw [if_neg h]
  exact ha
theorem avR_z {lo ju : Int32} (h : ju = 0) : avR lo ju FP.fconst0 := by
  unfold avR
  rw [if_pos h]
set_option maxHeartbeats 4000000 in
set_option maxRecDepth 100000 in
theorem k_X2_averageLooks (l : Launch) {D : va_G} {Y : Nat → ClassId} {H : Heap} {x la na ea cap : Nat} {mod ju mi lo : Int32} {es : Nat → Option Nat} {nt : Nat → Int32} {L : List RA} (hA : rdA D Y x la na ea cap mod es nt ju mi lo L H) : MetD lw_cs l yX2_averageLooks wsX2_averageLooks (rmN 0) (RdP D Y [.ref x] H) (va_Qf (fun (r : UInt32) (_ : Unit) => avR lo ju r) (fun _ t => t.heap = H) (fun _ => False)) 0 0 (fun _ => False) := by
  refine MetD.ofW (cc := cX2_averageLooks) (maxL := 1) (ret := some .float) (by decide) rfl ?_
  intro p e s m args below meth c s₁ B hml hv hd0
  obtain ⟨rfl, hH, hK⟩ := hv
  subst hH
  obtain ⟨hX, hL, hN, hE2, hR, hok⟩ := hA
  have hts := atoms_spec (ws := wsX2_averageLooks) B.pre
  have hlocks := B.notSynchronized
  have hr := B.returns
  have S : CallFix p m c cX2_averageLooks 1 s [.ref x].toArray wsX2_averageLooks RX2 := ⟨B.exec, B.bytes, hml, findClass_of_methodNamed B.named, hts⟩
  have Sd : ∀ d : Drawn, CallFix p m c cX2_averageLooks 1 (s.setDrawn d) [.ref x].toArray wsX2_averageLooks RX2 := fun d => ⟨S.1, S.2.1, S.2.2.1, S.2.2.2.1, dr_words S.2.2.2.2 d⟩
  have hx := S.1
  have hb := S.2.1
  have hl := lv_entry ([.ref x]) (n := 1) (Nat.le_of_ble_eq_true rfl)
  rw [lg_entry_eq]
  generalize (lg_sl ([.ref x]) ++ List.replicate (1 - (lg_sl ([.ref x])).length) Slot.unset).toArray = ls at hl ⊢
  have hl : lv_has ls 1 [(0, .ref x)] := hl
  have hin : ∀ w ∈ u_ws RX2 TX2 5, w ∈ wsX2_averageLooks := (fun _ h => List.mem_cons_of_mem _ (List.mem_append_right _ (h)))
  refine lv_aload_n hx hb dX2_averageLooks_0 rfl (lv_at hl 0 rfl) ?_
  refine nr_get (C := RX2) (T := TX2) (N := 5) (ci := 2) (Sd s.drawn) hin hK hX 0 rfl rfl 2 (by decide) (List.mem_of_getElem? (i := 1) rfl) rfl dX2_averageLooks_1 ?_
  refine lv_if_ne (tgt := 9) hx hb dX2_averageLooks_4 (by decide) (fun c_4 => ?_) (fun c_4 => ?_)
  · refine lv_aload_n hx hb dX2_averageLooks_9 rfl (lv_at hl 0 rfl) ?_
    refine nr_get (C := RX2) (T := TX2) (N := 5) (ci := 2) (Sd s.drawn) hin hK hX 0 rfl rfl 4 (by decide) (List.mem_of_getElem? (i := 2) rfl) rfl dX2_averageLooks_10 ?_
    refine lv_i2f hx hb dX2_averageLooks_13 ?_
    refine lv_aload_n hx hb dX2_averageLooks_14 rfl (lv_at hl 0 rfl) ?_
    refine nr_get (C := RX2) (T := TX2) (N := 5) (ci := 2) (Sd s.drawn) hin hK hX 0 rfl rfl 2 (by decide) (List.mem_of_getElem? (i := 1) rfl) rfl dX2_averageLooks_15 ?_
    refine lv_i2f hx hb dX2_averageLooks_18 ?_
    refine lv_fdiv_any hd0 lw_bits hx hb dX2_averageLooks_19 (fun r d1 hal hd1 => ?_)
    refine W.endD hd1 ?_
    exact W.fret hx hb hr (fun t ht hW => ⟨⟨r, (), rfl, avR_n c_4 hal, ht⟩, (va_S.rf (A := fun _ => False) (H0 := s.heap)).F ht⟩) (fun q hq => absurd hq List.not_mem_nil) dX2_averageLooks_20
  · have c_4 : ju = 0 := by first | exact c_4 | exact Decidable.byContradiction c_4
    refine lv_fconst0 hx hb dX2_averageLooks_7 ?_
    refine W.endD hd0 ?_
    exact W.fret hx hb hr (fun t ht hW => ⟨⟨_, (), rfl, avR_z c_4, ht⟩, (va_S.rf (A := fun _ => False) (H0 := s.heap)).F ht⟩) (fun q hq => absurd hq List.not_mem_nil) dX2_averageLooks_8
/-! the comparison of two doubles that are alike -/
theorem fp_nan64 {x : UInt64} (h : isNaN64 x = true) : FP.Core.decode FP.Core.b64 x.toNat = .nan := by
  unfold isNaN64 at h
  have h2 : (x &&& 0x7fffffffffffffff) > 0x7ff0000000000000 := of_decide_eq_true h
  have h3 : (0x7ff0000000000000 : UInt64).toNat < (x &&& 0x7fffffffffffffff).toNat := h2
  rw [UInt64.toNat_and] at h3
  have e1 : (0x7fffffffffffffff : UInt64).toNat = 2 ^ 63 - 1 := by decide +kernel
  have e2 : (0x7ff0000000000000 : UInt64).toNat = 2047 * 2 ^ 52 := by decide +kernel
  rw [e1, e2, Nat.and_two_pow_sub_one_eq_mod] at h3
  have e3 : FP.Core.fieldE FP.Core.b64 x.toNat = x.toNat / 2 ^ 52 % 2 ^ 11 := rfl
  have e4 : FP.Core.fieldT FP.Core.b64 x.toNat = x.toNat % 2 ^ 52 := rfl
  have h4 : x.toNat / 2 ^ 52 % 2 ^ 11 = 2047 := by omega
  have h5 : x.toNat % 2 ^ 52 ≠ 0 := by omega
  unfold FP.Core.decode
  rw [e3, e4, h4, if_pos (by decide +kernel), if_neg h5]
theorem fp_nan32 {x : UInt32} (h : isNaN32 x = true) : FP.Core.fIsNaN x = true := by
  unfold isNaN32 at h
  have h2 : (x &&& 0x7fffffff) > 0x7f800000 := of_decide_eq_true h
  have h3 : (0x7f800000 : UInt32).toNat < (x &&& 0x7fffffff).toNat := h2
  rw [UInt32.toNat_and] at h3
  have e1 : (0x7fffffff : UInt32).toNat = 2 ^ 31 - 1 := by decide +kernel
  have e2 : (0x7f800000 : UInt32).toNat = 255 * 2 ^ 23 := by decide +kernel
  rw [e1, e2, Nat.and_two_pow_sub_one_eq_mod] at h3
  have e3 : FP.Core.fieldE FP.Core.b32 x.toNat = x.toNat / 2 ^ 23 % 2 ^ 8 := rfl
  have e4 : FP.Core.fieldT FP.Core.b32 x.toNat = x.toNat % 2 ^ 23 := rfl
  have h4 : x.toNat / 2 ^ 23 % 2 ^ 8 = 255 := by omega
  have h5 : x.toNat % 2 ^ 23 ≠ 0 := by omega
  unfold FP.Core.fIsNaN FP.Core.isNaN
  refine decide_eq_true ?_
  unfold FP.Core.decode
  rw [e3, e4, h4, if_pos (by decide +kernel), if_neg h5]
theorem fp_nanF2D (x : UInt32) : isNaN64 (FP.nanF2D x) = true := by
  unfold isNaN64
  refine decide_eq_true ?_
  show (0x7ff0000000000000 : UInt64).toNat < (FP.nanF2D x &&& 0x7fffffffffffffff).toNat
  unfold FP.nanF2D
  generalize (x >>> 31).toUInt64 <<< 63 = a
  generalize (x &&& 0x007fffff).toUInt64 <<< 29 = b
  rw [UInt64.toNat_and, UInt64.toNat_or, UInt64.toNat_or, Nat.and_or_distrib_right, Nat.and_or_distrib_right]
  have e1 : (0x7ff8000000000000 : UInt64).toNat &&& (0x7fffffffffffffff : UInt64).toNat = 0x7ff8000000000000 := by decide +kernel
  rw [e1]
  have h1 : 0x7ff8000000000000 ≤ (a.toNat &&& (0x7fffffffffffffff : UInt64).toNat ||| 0x7ff8000000000000) := Nat.right_le_or
  have h2 : (a.toNat &&& (0x7fffffffffffffff : UInt64).toNat ||| 0x7ff8000000000000) ≤ (a.toNat &&& (0x7fffffffffffffff : UInt64).toNat ||| 0x7ff8000000000000 ||| b.toNat &&& (0x7fffffffffffffff : UInt64).toNat) := Nat.left_le_or
  have e2 : (0x7ff0000000000000 : UInt64).toNat < 0x7ff8000000000000 := by decide +kernel
  exact Nat.lt_of_lt_of_le e2 (Nat.le_trans h1 h2)
theorem fp_f2d {x : UInt32} (h : isNaN32 x = true) : isNaN64 (FP.f2d x) = true := by
  unfold FP.f2d
  rw [if_pos (fp_nan32 h)]
  exact fp_nanF2D x
theorem fp_self (x : UInt64) : FP.dcmp x x = none ∨ FP.dcmp x x = some .eq := by
  show FP.Core.order (FP.Core.decode FP.Core.b64 x.toNat) (FP.Core.decode FP.Core.b64 x.toNat) = none ∨ FP.Core.order (FP.Core.decode FP.Core.b64 x.toNat) (FP.Core.decode FP.Core.b64 x.toNat) = some .eq
  have hc : ∀ a : Int, compare a a = .eq := fun a => by
    unfold compare
    simp [instOrdInt, compareOfLessAndEq]
  cases FP.Core.decode FP.Core.b64 x.toNat with
  | nan => exact Or.inl rfl
  | inf s => exact Or.inr (congrArg some (hc _))
  | fin s c q => exact Or.inr (congrArg some (hc _))
theorem fp_none {x y : UInt64} (hx : isNaN64 x = true) : FP.dcmp x y = none := by
  show FP.Core.order (FP.Core.decode FP.Core.b64 x.toNat) (FP.Core.decode FP.Core.b64 y.toNat) = none
  rw [fp_nan64 hx]
  rfl
theorem al64_or {x y : UInt64} (h : alike64 x y = true) : x = y ∨ (isNaN64 x = true ∧ isNaN64 y = true) := by
  unfold alike64 at h
  rw [Bool.or_eq_true, Bool.and_eq_true, decide_eq_true_iff] at h
  exact h
theorem al32_or {x y : UInt32} (h : alike32 x y = true) : x = y ∨ (isNaN32 x = true ∧ isNaN32 y = true) := by
  unfold alike32 at h
  rw [Bool.or_eq_true, Bool.and_eq_true, decide_eq_true_iff] at h
  exact h
theorem av_two {lo ju : Int32} {r1 r2 : UInt32} (h1 : avR lo ju r1) (h2 : avR lo ju r2) : r1 = r2 ∨ (isNaN32 r1 = true ∧ isNaN32 r2 = true) := by
  unfold avR at h1 h2
  by_cases hj : ju = 0
  · rw [if_pos hj] at h1 h2
    exact Or.inl (h1.trans h2.symm)
  · rw [if_neg hj] at h1 h2
    rcases al32_or h1 with a | a <;> rcases al32_or h2 with b | b
    · exact Or.inl (a.trans b.symm)
    · exact Or.inr ⟨by rw [a]; exact b.2, b.1⟩
    · exact Or.inr ⟨a.1, by rw [b]; exact a.2⟩
    · exact Or.inr ⟨a.1, b.1⟩
theorem av_dbl {r1 r2 : UInt32} {p q : UInt64} (h : r1 = r2 ∨ (isNaN32 r1 = true ∧ isNaN32 r2 = true)) (hp : alike64 p (FP.f2d r1) = true) (hq : alike64 q (FP.f2d r2) = true) : p = q ∨ (isNaN64 p = true ∧ isNaN64 q = true) := by
  rcases h with h | h
  · subst h
    rcases al64_or hp with a | a <;> rcases al64_or hq with b | b
    · exact Or.inl (a.trans b.symm)
    · exact Or.inr ⟨by rw [a]; exact b.2, b.1⟩
    · exact Or.inr ⟨a.1, by rw [b]; exact a.2⟩
    · exact Or.inr ⟨a.1, b.1⟩
  · refine Or.inr ⟨?_, ?_⟩
    · rcases al64_or hp with a | a
      · rw [a]; exact fp_f2d h.1
      · exact a.1
    · rcases al64_or hq with a | a
      · rw [a]; exact fp_f2d h.2
      · exact a.1
/-- equal, or neither equals itself -/
theorem av_cmp {p q : UInt64} (h : p = q ∨ (isNaN64 p = true ∧ isNaN64 q = true)) : FP.dcmp p q = some .eq ∨ (FP.dcmp p q = none ∧ FP.dcmp p p = none ∧ FP.dcmp q q = none) := by
  rcases h with h | h
  · subst h
    rcases fp_self p with a | a
    · exact Or.inr ⟨a, a, a⟩
    · exact Or.inl a
  · exact Or.inr ⟨fp_none h.1, fp_none h.1, fp_none h.2⟩
