/-! the reference's methods that only read -/
abbrev wM (Y : Nat → ClassId) (A : Nat → Nat) (th n mi ju lo : Int32) (f bf ca bg sz : Nat → Int32) : va_W := [(A 0, .inr (3, [.int th, .int n, .ref (A 1), .int mi, .int ju, .int lo, .ref (A 2), .ref (A 3), .ref (A 4), .ref (A 5)])), (A 1, .inl (Y 0, 112, .inl f)), (A 2, .inl (Y 0, 128, .inl bf)), (A 3, .inl (Y 0, 7, .inl ca)), (A 4, .inl (Y 0, 24, .inl bg)), (A 5, .inl (Y 0, 24, .inl sz))]
def mrep (rs : List RV) (f : Nat → Int32) : Prop := rsOk rs ∧ ∀ i, i < rs.length → ∀ w, w < 7 → f (7 * i + w) = rvI (gt rs i) w

set_option maxHeartbeats 4000000 in
set_option maxRecDepth 100000 in
theorem k_X3_of (l : Launch) {D : va_G} {Y : Nat → ClassId} {H : Heap} {A : Nat → Nat} {th mi ju lo n0 : Int32} {f bf ca bg sz : Nat → Int32}  (hP : va_P D aCl (wM Y A (th) (n0) (mi) (ju) (lo) f bf ca bg sz) H) {i w : Nat} (hw : (7 * i) + w < 112) : Rd l yX3_of wsX3_of 1 D Y [.ref (A 0), .int (nI (i)), .int (nI (w))] H (f ((7 * i) + w)) := by
  refine Rd.start (cc := cX3_of) (maxL := 3) (rt := .int) (by decide) rfl (Nat.le_of_ble_eq_true rfl) ?_
  intro p e s m args below meth c ls Q S hK hl hE
  have S : CallFix p m c cX3_of 3 s args wsX3_of RX3 := S
  have hx := S.1
  have hb := S.2.1
  have hts := S.2.2.2.2
  have hl : lv_has ls 3 [(0, .ref (A 0)), (1, .int (nI (i))), (2, .int (nI (w)))] := hl
  refine lv_aload_n hx hb dX3_of_0 rfl (lv_at hl 0 rfl) ?_
  refine nr_get (C := RX3) (T := TX3) (N := 10) (ci := 3) S (fun _ h => List.mem_cons_of_mem _ (List.mem_append_right _ (h))) hK hP 0 rfl rfl 2 (by decide) (List.mem_of_getElem? (i := 1) rfl) rfl dX3_of_1 ?_
  refine lv_bipush (v := (nI (7))) hx hb dX3_of_4 (by decide +kernel) ?_
  refine lv_iload_n hx hb dX3_of_6 rfl (lv_at hl 1 rfl) ?_
  refine nr_imul hx hb dX3_of_7 ?_
  refine lv_iload_n hx hb dX3_of_8 rfl (lv_at hl 2 rfl) ?_
  refine nr_iadd hx hb dX3_of_9 ?_
  refine nr_iald (n := 112) (f := f) S hK hP 1 rfl (by omega) (by decide) dX3_of_10 ?_
  exact hE _ _ _ dX3_of_11 (vp_nar_int _) (rfl)
theorem k_ofR (l : Launch) {D : va_G} {Y : Nat → ClassId} {H : Heap} {A : Nat → Nat} {th mi ju lo : Int32} {f bf ca bg sz : Nat → Int32} {rs : List RV} (hP : va_P D aCl (wM Y A (th) (nI (rs.length)) (mi) (ju) (lo) f bf ca bg sz) H) (hf : mrep rs f) {i w : Nat} (hi : i < rs.length) (hw : w < 7) : Rd l yX3_of wsX3_of 1 D Y [.ref (A 0), .int (nI i), .int (nI w)] H (rvI (gt rs i) w) := by
  have h := hf.1.1
  rw [← hf.2 i hi w hw]
  exact k_X3_of l hP (by omega)
set_option maxHeartbeats 4000000 in
set_option maxRecDepth 100000 in
theorem k_X3_in (l : Launch) {D : va_G} {Y : Nat → ClassId} {H : Heap} (v a b : Int32) : Rd l yX3_in wsX3_in 0 D Y [.int (v), .int (a), .int (b)] H (bI (inI v a b)) := by
  refine Rd.start (cc := cX3_in) (maxL := 3) (rt := .boolean) (by decide) rfl (Nat.le_of_ble_eq_true rfl) ?_
  intro p e s m args below meth c ls Q S hK hl hE
  have S : CallFix p m c cX3_in 3 s args wsX3_in RX3 := S
  have hx := S.1
  have hb := S.2.1
  have hts := S.2.2.2.2
  have hl : lv_has ls 3 [(0, .int (v)), (1, .int (a)), (2, .int (b))] := hl
  refine lv_iload_n hx hb dX3_in_0 rfl (lv_at hl 0 rfl) ?_
  refine lv_iload_n hx hb dX3_in_1 rfl (lv_at hl 1 rfl) ?_
  refine lv_icmp_lt (tgt := 14) hx hb dX3_in_2 (by decide) (fun c_2 => ?_) (fun c_2 => ?_)
  · refine lv_iconst (v := (nI (0))) hx hb dX3_in_14 (by decide +kernel) ?_
    exact hE _ _ _ dX3_in_15 (rfl) (bI_f (by first | exact inI_f1 c_2 | exact inI_f2 c_7))
  · refine lv_iload_n hx hb dX3_in_5 rfl (lv_at hl 0 rfl) ?_
    refine lv_iload_n hx hb dX3_in_6 rfl (lv_at hl 2 rfl) ?_
    refine lv_icmp_gt (tgt := 14) hx hb dX3_in_7 (by decide) (fun c_7 => ?_) (fun c_7 => ?_)
    · refine lv_iconst (v := (nI (0))) hx hb dX3_in_14 (by decide +kernel) ?_
      exact hE _ _ _ dX3_in_15 (rfl) (bI_f (by first | exact inI_f1 c_2 | exact inI_f2 c_7))
    · refine lv_iconst (v := (nI (1))) hx hb dX3_in_10 (by decide +kernel) ?_
      refine lv_goto (tgt := 15) hx hb dX3_in_11 (by decide) ?_
      exact hE _ _ _ dX3_in_15 (rfl) (bI_t (inI_t c_2 c_7))
theorem k_inN (l : Launch) {D : va_G} {Y : Nat → ClassId} {H : Heap} {v a b : Nat} (hv : v < 2 ^ 31) (ha : a < 2 ^ 31) (hb : b < 2 ^ 31) : Rd l yX3_in wsX3_in 0 D Y [.int (nI v), .int (nI a), .int (nI b)] H (bI (inN v a b)) := by
  rw [← inI_nI hv ha hb]
  exact k_X3_in l _ _ _
def plI (pl : Int32) (n : Nat) : Bool := inI pl (nI 0) (nI n - nI 1)
set_option maxHeartbeats 4000000 in
set_option maxRecDepth 100000 in
theorem k_X3_isPlace (l : Launch) {D : va_G} {Y : Nat → ClassId} {H : Heap} {A : Nat → Nat} {th mi ju lo : Int32} {f bf ca bg sz : Nat → Int32} {rs : List RV}  (hP : va_P D aCl (wM Y A (th) (nI (rs.length)) (mi) (ju) (lo) f bf ca bg sz) H) {pl : Int32} : Rd l yX3_isPlace wsX3_isPlace 1 D Y [.ref (A 0), .int (pl)] H (bI (plI pl rs.length)) := by
  refine Rd.start (cc := cX3_isPlace) (maxL := 2) (rt := .boolean) (by decide) rfl (Nat.le_of_ble_eq_true rfl) ?_
  intro p e s m args below meth c ls Q S hK hl hE
  have S : CallFix p m c cX3_isPlace 2 s args wsX3_isPlace RX3 := S
  have hx := S.1
  have hb := S.2.1
  have hts := S.2.2.2.2
  have hl : lv_has ls 2 [(0, .ref (A 0)), (1, .int (pl))] := hl
  refine lv_iload_n hx hb dX3_isPlace_0 rfl (lv_at hl 1 rfl) ?_
  refine lv_iconst (v := (nI (0))) hx hb dX3_isPlace_1 (by decide +kernel) ?_
  refine lv_aload_n hx hb dX3_isPlace_2 rfl (lv_at hl 0 rfl) ?_
  refine nr_get (C := RX3) (T := TX3) (N := 10) (ci := 3) S (fun _ h => List.mem_cons_of_mem _ (List.mem_append_right _ (h))) hK hP 0 rfl rfl 1 (by decide) (List.mem_of_getElem? (i := 1) rfl) rfl dX3_isPlace_3 ?_
  refine lv_iconst (v := (nI (1))) hx hb dX3_isPlace_6 (by decide +kernel) ?_
  refine lv_isub hx hb dX3_isPlace_7 ?_
  refine Rd.callS (r := (bI (inI (pl) (nI (0)) (((nI (rs.length)) - (nI (1))))))) (As := [.int (pl), .int (nI (0)), .int (((nI (rs.length)) - (nI (1))))]) S (k_X3_in l (pl) (nI (0)) (((nI (rs.length)) - (nI (1))))) (va_cwS 3 hts gX3_isPlace_X3_in rfl rfl rfl (by decide +kernel) ⟨Nat.le_of_ble_eq_true rfl, Nat.le_of_ble_eq_true rfl⟩) hK rfl hl.1 rfl (Nat.le_of_ble_eq_true rfl) dX3_isPlace_8 ⟨Nat.zero_le _, Nat.zero_le _⟩ ?_
  exact hE _ _ _ dX3_isPlace_11 (bI_nar _) (rfl)
theorem popI_0 : popI 0 = 0 := by decide +kernel
theorem and_half (a b : Nat) : (a &&& b) / 2 = a / 2 &&& b / 2 := by
  refine Nat.eq_of_testBit_eq fun i => ?_
  rw [Nat.testBit_div_two, Nat.testBit_and, Nat.testBit_and, Nat.testBit_div_two, Nat.testBit_div_two]
theorem and_odd (a b : Nat) : (a &&& b) % 2 = if a % 2 = 1 ∧ b % 2 = 1 then 1 else 0 := by
  have h := Nat.and_mod_two_pow (a := a) (b := b) (n := 1)
  rw [Nat.pow_one] at h
  rw [h]
  rcases Nat.mod_two_eq_zero_or_one a with p | p <;> rcases Nat.mod_two_eq_zero_or_one b with q | q <;> rw [p, q] <;> rfl
theorem popN_kern : ∀ (k n : Nat), 0 < n → n < 2 ^ k → popN k (n &&& (n - 1)) + 1 = popN k n
  | 0, n, h, h2 => absurd h (by rw [Nat.pow_zero] at h2; omega)
  | k + 1, n, h, h2 => by
    rw [Nat.pow_succ] at h2
    show (n &&& (n - 1)) % 2 + popN k ((n &&& (n - 1)) / 2) + 1 = n % 2 + popN k (n / 2)
    rw [and_half, and_odd]
    by_cases ho : n % 2 = 1
    · rw [show (n - 1) / 2 = n / 2 from by omega, Nat.and_self, if_neg (by omega), ho]
      omega
    · rw [show (n - 1) / 2 = n / 2 - 1 from by omega, if_neg (by omega), show n % 2 = 0 from by omega]
      have := popN_kern k (n / 2) (by omega) (by omega)
      omega
theorem popI_kern {x : Int32} (h : ¬ x = 0) : popI (x &&& (x - nI 1)) + 1 = popI x := by
  unfold popI
  have h0 : 0 < x.toBitVec.toNat := Nat.pos_of_ne_zero fun z => h (Int32.toBitVec_inj.mp (BitVec.eq_of_toNat_eq (by rw [z]; rfl)))
  have h1 := x.toBitVec.isLt
  rw [Int32.toBitVec_and, BitVec.toNat_and, Int32.toBitVec_sub, BitVec.toNat_sub]
  rw [show (nI 1).toBitVec.toNat = 1 from rfl, show (2 ^ 32 - 1 + x.toBitVec.toNat) % 2 ^ 32 = x.toBitVec.toNat - 1 from by omega]
  exact popN_kern 32 _ h0 h1
set_option maxHeartbeats 4000000 in
set_option maxRecDepth 100000 in
theorem k_X3_many (l : Launch) {D : va_G} {Y : Nat → ClassId} {H : Heap} (x0 : Int32) : Rd l yX3_many wsX3_many 0 D Y [.int (x0)] H (nI (popI x0)) := by
  refine Rd.start (cc := cX3_many) (maxL := 3) (rt := .int) (by decide) rfl (Nat.le_of_ble_eq_true rfl) ?_
  intro p e s m args below meth c ls Q S hK hl hE
  have S : CallFix p m c cX3_many 3 s args wsX3_many RX3 := S
  have hx := S.1
  have hb := S.2.1
  have hts := S.2.2.2.2
  have hl : lv_has ls 3 [(0, .int (x0))] := hl
  refine lv_iconst (v := (nI (0))) hx hb dX3_many_0 (by decide +kernel) ?_
  refine lv_istore_n (lv' := [(1, .int (nI (0))), (0, .int (x0))]) hx hb dX3_many_1 rfl hl (by decide) rfl (fun ls hl => ?_)
  refine lv_iload_n hx hb dX3_many_2 rfl (lv_at hl 1 rfl) ?_
  refine lv_istore_n (lv' := [(2, .int (x0)), (1, .int (nI (0))), (0, .int (x0))]) hx hb dX3_many_3 rfl hl (by decide) rfl (fun ls hl => ?_)
  have loop_4 : ∀ (fu_4 : Nat) (n : Nat) (x : Int32), (n + popI x = popI x0) → (n ≤ 32) → 32 - n < fu_4 → ∀ ls : Array Slot, lv_has ls 3 [(2, .int (x)), (1, .int (nI (n))), (0, .int (x0))] → W p l e (rmN 0) s m args below meth c H [] 0 0 Q (F0 m 4 ls []) := by
    intro fu_4
    induction fu_4 with
    | zero => exact fun n x _ _ hk => absurd hk (Nat.not_lt_zero _)
    | succ fu_4 ih_4 =>
      intro n x h1 h2 hk_4 ls hl
      refine lv_iload_n hx hb dX3_many_4 rfl (lv_at hl 0 rfl) ?_
      refine lv_if_eq (tgt := 20) hx hb dX3_many_5 (by decide) (fun c_5 => ?_) (fun c_5 => ?_)
      · refine lv_iload_n hx hb dX3_many_20 rfl (lv_at hl 1 rfl) ?_
        exact hE _ _ _ dX3_many_21 (vp_nar_int _) (by rw [c_5, popI_0] at h1; rw [← h1]; rfl)
      · refine lv_iinc (v := (nI (n + 1))) (lv' := [(1, .int (nI (n + 1))), (2, .int (x)), (0, .int (x0))]) hx hb dX3_many_8 hl (k := 1) rfl (nI_add _ _) (by decide) rfl (fun ls hl => ?_)
        refine lv_iload_n hx hb dX3_many_11 rfl (lv_at hl 1 rfl) ?_
        refine lv_iload_n hx hb dX3_many_12 rfl (lv_at hl 1 rfl) ?_
        refine lv_iconst (v := (nI (1))) hx hb dX3_many_13 (by decide +kernel) ?_
        refine lv_isub hx hb dX3_many_14 ?_
        refine lv_iand hx hb dX3_many_15 ?_
        refine lv_istore_n (lv' := [(2, .int (((x) &&& (((x) - (nI (1))))))), (1, .int (nI (n + 1))), (0, .int (x0))]) hx hb dX3_many_16 rfl hl (by decide) rfl (fun ls hl => ?_)
        refine lv_goto (tgt := 4) hx hb dX3_many_17 (by decide) ?_
        exact ih_4 (n + 1) ((((x) &&& (((x) - (nI (1))))))) (by have := popI_kern c_5; omega) (by have := popI_kern c_5; have := popI_le x0; omega) (by have := popI_kern c_5; have := popI_le x0; omega) ls (lv_sub hl [0, 1, 2] rfl)
  exact loop_4 _ (0) ((x0)) ((Nat.zero_add _)) (by omega) (Nat.lt_succ_self _) ls (lv_sub hl [0, 1, 2] rfl)
set_option maxHeartbeats 4000000 in
set_option maxRecDepth 100000 in
theorem k_X3_matches (l : Launch) {D : va_G} {Y : Nat → ClassId} {H : Heap} {A : Nat → Nat} {th mi ju lo : Int32} {f bf ca bg sz : Nat → Int32} {rs : List RV}  (hP : va_P D aCl (wM Y A (th) (nI (rs.length)) (mi) (ju) (lo) f bf ca bg sz) H) (hf : mrep rs f) {i s0 p0 : Nat} (hi : i < rs.length) (hs : s0 < 32) (hp : p0 < 4) : Rd l yX3_matches wsX3_matches 3 D Y [.ref (A 0), .int (nI (i)), .int (nI (s0)), .int (nI (p0))] H (mtI (gt rs i) s0 p0) := by
  refine Rd.start (cc := cX3_matches) (maxL := 5) (rt := .int) (by decide) rfl (Nat.le_of_ble_eq_true rfl) ?_
  intro p e s m args below meth c ls Q S hK hl hE
  have S : CallFix p m c cX3_matches 5 s args wsX3_matches RX3 := S
  have hx := S.1
  have hb := S.2.1
  have hts := S.2.2.2.2
  have hl : lv_has ls 5 [(0, .ref (A 0)), (1, .int (nI (i))), (2, .int (nI (s0))), (3, .int (nI (p0)))] := hl
  have ho := hf.1.2 i hi
  have hn := hf.1.1
  unfold rvOk at ho
  refine lv_iload_n hx hb dX3_matches_0 rfl (lv_at hl 2 rfl) ?_
  refine lv_aload_n hx hb dX3_matches_1 rfl (lv_at hl 0 rfl) ?_
  refine lv_iload_n hx hb dX3_matches_2 rfl (lv_at hl 1 rfl) ?_
  refine lv_iconst (v := (nI (0))) hx hb dX3_matches_3 (by decide +kernel) ?_
  refine Rd.callV (r := (nI (sF (gt rs (i))))) (As := [.int (nI (i)), .int (nI (0))]) S (k_ofR l hP hf (i := i) (w := 0) (by omega) (by omega)) (cwV 2 hts gX3_matches_X3_of rfl rfl rfl (by decide +kernel) ⟨Nat.le_of_ble_eq_true rfl, Nat.le_of_ble_eq_true rfl⟩) hK (va_recv hK.1 hP (ci := 3) (q0 := 0) rfl rfl) rfl hl.1 rfl (Nat.le_of_ble_eq_true rfl) dX3_matches_4 ⟨Nat.zero_le _, Nat.zero_le _⟩ ?_
  refine lv_aload_n hx hb dX3_matches_7 rfl (lv_at hl 0 rfl) ?_
  refine lv_iload_n hx hb dX3_matches_8 rfl (lv_at hl 1 rfl) ?_
  refine lv_iconst (v := (nI (1))) hx hb dX3_matches_9 (by decide +kernel) ?_
  refine Rd.callV (r := (nI (sT (gt rs (i))))) (As := [.int (nI (i)), .int (nI (1))]) S (k_ofR l hP hf (i := i) (w := 1) (by omega) (by omega)) (cwV 2 hts gX3_matches_X3_of rfl rfl rfl (by decide +kernel) ⟨Nat.le_of_ble_eq_true rfl, Nat.le_of_ble_eq_true rfl⟩) hK (va_recv hK.1 hP (ci := 3) (q0 := 0) rfl rfl) rfl hl.1 rfl (Nat.le_of_ble_eq_true rfl) dX3_matches_10 ⟨Nat.zero_le _, Nat.zero_le _⟩ ?_
  refine Rd.callS (r := (bI (inN (s0) (sF (gt rs (i))) (sT (gt rs (i)))))) (As := [.int (nI (s0)), .int (nI (sF (gt rs (i)))), .int (nI (sT (gt rs (i))))]) S (k_inN l (v := s0) (a := sF (gt rs (i))) (b := sT (gt rs (i))) (by omega) (by omega) (by omega)) (va_cwS 3 hts gX3_matches_X3_in rfl rfl rfl (by decide +kernel) ⟨Nat.le_of_ble_eq_true rfl, Nat.le_of_ble_eq_true rfl⟩) hK rfl hl.1 rfl (Nat.le_of_ble_eq_true rfl) dX3_matches_13 ⟨Nat.zero_le _, Nat.zero_le _⟩ ?_
  refine nr_ifB_eq (tgt := 37) hx hb dX3_matches_16 (by decide) (fun c_16 => ?_) (fun c_16 => ?_)
  · refine lv_iconst (v := (nI (0))) hx hb dX3_matches_37 (by decide +kernel) ?_
    refine lv_istore (lv' := [(4, .int (nI (0))), (0, .ref (A 0)), (1, .int (nI (i))), (2, .int (nI (s0))), (3, .int (nI (p0)))]) hx hb dX3_matches_38 hl (by decide) rfl (fun ls hl => ?_)
    refine lv_iload hx hb dX3_matches_40 (lv_at hl 0 rfl) ?_
    refine nr_if_eq (tgt := 68) hx hb (by omega) dX3_matches_42 (by decide) (fun c_42 => ?_) (fun c_42 => absurd c_42 (by decide))
    refine lv_iconst (v := (nI (0))) hx hb dX3_matches_68 (by decide +kernel) ?_
    exact hE _ _ _ dX3_matches_69 (vp_nar_int _) ((mtI_f (by first | exact con_f1 c_16 | exact con_f2 c_30)).symm)
  · refine lv_aload_n hx hb dX3_matches_19 rfl (lv_at hl 0 rfl) ?_
    refine lv_iload_n hx hb dX3_matches_20 rfl (lv_at hl 1 rfl) ?_
    refine lv_iconst (v := (nI (4))) hx hb dX3_matches_21 (by decide +kernel) ?_
    refine Rd.callV (r := (nI (pR (gt rs (i))))) (As := [.int (nI (i)), .int (nI (4))]) S (k_ofR l hP hf (i := i) (w := 4) (by omega) (by omega)) (cwV 2 hts gX3_matches_X3_of rfl rfl rfl (by decide +kernel) ⟨Nat.le_of_ble_eq_true rfl, Nat.le_of_ble_eq_true rfl⟩) hK (va_recv hK.1 hP (ci := 3) (q0 := 0) rfl rfl) rfl hl.1 rfl (Nat.le_of_ble_eq_true rfl) dX3_matches_22 ⟨Nat.zero_le _, Nat.zero_le _⟩ ?_
    refine lv_iload_n hx hb dX3_matches_25 rfl (lv_at hl 3 rfl) ?_
    refine lv_ishr hx hb dX3_matches_26 ?_
    refine lv_iconst (v := (nI (1))) hx hb dX3_matches_27 (by decide +kernel) ?_
    refine lv_iand hx hb dX3_matches_28 ?_
    refine lv_iconst (v := (nI (1))) hx hb dX3_matches_29 (by decide +kernel) ?_
    refine lv_icmp_ne (tgt := 37) hx hb dX3_matches_30 (by decide) (fun c_30 => ?_) (fun c_30 => ?_)
    · refine lv_iconst (v := (nI (0))) hx hb dX3_matches_37 (by decide +kernel) ?_
      refine lv_istore (lv' := [(4, .int (nI (0))), (0, .ref (A 0)), (1, .int (nI (i))), (2, .int (nI (s0))), (3, .int (nI (p0)))]) hx hb dX3_matches_38 hl (by decide) rfl (fun ls hl => ?_)
      refine lv_iload hx hb dX3_matches_40 (lv_at hl 0 rfl) ?_
      refine nr_if_eq (tgt := 68) hx hb (by omega) dX3_matches_42 (by decide) (fun c_42 => ?_) (fun c_42 => absurd c_42 (by decide))
      refine lv_iconst (v := (nI (0))) hx hb dX3_matches_68 (by decide +kernel) ?_
      exact hE _ _ _ dX3_matches_69 (vp_nar_int _) ((mtI_f (by first | exact con_f1 c_16 | exact con_f2 c_30)).symm)
    · refine lv_iconst (v := (nI (1))) hx hb dX3_matches_33 (by decide +kernel) ?_
      refine lv_goto (tgt := 38) hx hb dX3_matches_34 (by decide) ?_
      refine lv_istore (lv' := [(4, .int (nI (1))), (0, .ref (A 0)), (1, .int (nI (i))), (2, .int (nI (s0))), (3, .int (nI (p0)))]) hx hb dX3_matches_38 hl (by decide) rfl (fun ls hl => ?_)
      refine lv_iload hx hb dX3_matches_40 (lv_at hl 0 rfl) ?_
      refine nr_if_eq (tgt := 68) hx hb (by omega) dX3_matches_42 (by decide) (fun c_42 => absurd c_42 (by decide)) (fun c_42 => ?_)
      refine lv_iconst (v := ((-1 : Int32))) hx hb dX3_matches_45 (by decide +kernel) ?_
      refine lv_aload_n hx hb dX3_matches_46 rfl (lv_at hl 1 rfl) ?_
      refine lv_iload_n hx hb dX3_matches_47 rfl (lv_at hl 2 rfl) ?_
      refine lv_iconst (v := (nI (2))) hx hb dX3_matches_48 (by decide +kernel) ?_
      refine Rd.callV (r := (nI (dF (gt rs (i))))) (As := [.int (nI (i)), .int (nI (2))]) S (k_ofR l hP hf (i := i) (w := 2) (by omega) (by omega)) (cwV 2 hts gX3_matches_X3_of rfl rfl rfl (by decide +kernel) ⟨Nat.le_of_ble_eq_true rfl, Nat.le_of_ble_eq_true rfl⟩) hK (va_recv hK.1 hP (ci := 3) (q0 := 0) rfl rfl) rfl hl.1 rfl (Nat.le_of_ble_eq_true rfl) dX3_matches_49 ⟨Nat.zero_le _, Nat.zero_le _⟩ ?_
      refine lv_ishl hx hb dX3_matches_52 ?_
      refine lv_iconst (v := ((-1 : Int32))) hx hb dX3_matches_53 (by decide +kernel) ?_
      refine lv_bipush (v := (nI (31))) hx hb dX3_matches_54 (by decide +kernel) ?_
      refine lv_aload_n hx hb dX3_matches_56 rfl (lv_at hl 1 rfl) ?_
      refine lv_iload_n hx hb dX3_matches_57 rfl (lv_at hl 2 rfl) ?_
      refine lv_iconst (v := (nI (3))) hx hb dX3_matches_58 (by decide +kernel) ?_
      refine Rd.callV (r := (nI (dT (gt rs (i))))) (As := [.int (nI (i)), .int (nI (3))]) S (k_ofR l hP hf (i := i) (w := 3) (by omega) (by omega)) (cwV 2 hts gX3_matches_X3_of rfl rfl rfl (by decide +kernel) ⟨Nat.le_of_ble_eq_true rfl, Nat.le_of_ble_eq_true rfl⟩) hK (va_recv hK.1 hP (ci := 3) (q0 := 0) rfl rfl) rfl hl.1 rfl (Nat.le_of_ble_eq_true rfl) dX3_matches_59 ⟨Nat.zero_le _, Nat.zero_le _⟩ ?_
      refine nr_isub hx hb (by omega) dX3_matches_62 ?_
      refine lv_iushr hx hb dX3_matches_63 rfl ?_
      refine lv_iand hx hb dX3_matches_64 ?_
      refine lv_goto (tgt := 69) hx hb dX3_matches_65 (by decide) ?_
      exact hE _ _ _ dX3_matches_69 (vp_nar_int _) ((mtI_t (con_t c_16 c_30)).symm)
set_option maxHeartbeats 4000000 in
set_option maxRecDepth 100000 in
theorem k_X3_permittedOf (l : Launch) {D : va_G} {Y : Nat → ClassId} {H : Heap} {A : Nat → Nat} {th mi ju lo : Int32} {f bf ca bg sz : Nat → Int32} {rs : List RV}  (hP : va_P D aCl (wM Y A (th) (nI (rs.length)) (mi) (ju) (lo) f bf ca bg sz) H) (hf : mrep rs f) {s0 p0 : Nat} (hs : s0 < 32) (hp : p0 < 4) {wo : Int32} : Rd l yX3_permittedOf wsX3_permittedOf 4 D Y [.ref (A 0), .int (nI (s0)), .int (nI (p0)), .int (wo)] H (pmI rs s0 p0 wo) := by
  refine Rd.start (cc := cX3_permittedOf) (maxL := 8) (rt := .int) (by decide) rfl (Nat.le_of_ble_eq_true rfl) ?_
  intro p e s m args below meth c ls Q S hK hl hE
  have S : CallFix p m c cX3_permittedOf 8 s args wsX3_permittedOf RX3 := S
  have hx := S.1
  have hb := S.2.1
  have hts := S.2.2.2.2
  have hl : lv_has ls 8 [(0, .ref (A 0)), (1, .int (nI (s0))), (2, .int (nI (p0))), (3, .int (wo))] := hl
  have hn := hf.1.1
  refine lv_iconst (v := ((-1 : Int32))) hx hb dX3_permittedOf_0 (by decide +kernel) ?_
  refine lv_istore (lv' := [(4, .int ((-1 : Int32))), (0, .ref (A 0)), (1, .int (nI (s0))), (2, .int (nI (p0))), (3, .int (wo))]) hx hb dX3_permittedOf_1 hl (by decide) rfl (fun ls hl => ?_)
  refine lv_iconst (v := (nI (0))) hx hb dX3_permittedOf_3 (by decide +kernel) ?_
  refine lv_istore (lv' := [(5, .int (nI (0))), (4, .int ((-1 : Int32))), (0, .ref (A 0)), (1, .int (nI (s0))), (2, .int (nI (p0))), (3, .int (wo))]) hx hb dX3_permittedOf_4 hl (by decide) rfl (fun ls hl => ?_)
  refine lv_iconst (v := (nI (0))) hx hb dX3_permittedOf_6 (by decide +kernel) ?_
  refine lv_istore (lv' := [(6, .int (nI (0))), (5, .int (nI (0))), (4, .int ((-1 : Int32))), (0, .ref (A 0)), (1, .int (nI (s0))), (2, .int (nI (p0))), (3, .int (wo))]) hx hb dX3_permittedOf_7 hl (by decide) rfl (fun ls hl => ?_)
  have loop_9 : ∀ (fu_9 : Nat) (i : Nat) (op : Int32) (ac : Int32), (i ≤ rs.length) → (op = (pmN rs s0 p0 wo i).1) → (ac = (pmN rs s0 p0 wo i).2) → rs.length - i < fu_9 → ∀ ls : Array Slot, lv_has ls 8 [(6, .int (nI (i))), (5, .int (ac)), (4, .int (op)), (0, .ref (A 0)), (1, .int (nI (s0))), (2, .int (nI (p0))), (3, .int (wo))] → W p l e (rmN 4) s m args below meth c H [] 0 0 Q (F0 m 9 ls []) := by
    intro fu_9
    induction fu_9 with
    | zero => exact fun i op ac _ _ _ hk => absurd hk (Nat.not_lt_zero _)
    | succ fu_9 ih_9 =>
      intro i op ac h1 h2 h3 hk_9 ls hl
      refine lv_iload hx hb dX3_permittedOf_9 (lv_at hl 0 rfl) ?_
      refine lv_aload_n hx hb dX3_permittedOf_11 rfl (lv_at hl 3 rfl) ?_
      refine nr_get (C := RX3) (T := TX3) (N := 10) (ci := 3) S (fun _ h => List.mem_cons_of_mem _ (List.mem_append_right _ (h))) hK hP 0 rfl rfl 1 (by decide) (List.mem_of_getElem? (i := 1) rfl) rfl dX3_permittedOf_12 ?_
      refine nr_icmp_ge (tgt := 83) hx hb (by omega) (by omega) dX3_permittedOf_15 (by decide) (fun c_15 => ?_) (fun c_15 => ?_)
      · refine lv_iload hx hb dX3_permittedOf_83 (lv_at hl 1 rfl) ?_
        exact hE _ _ _ dX3_permittedOf_85 (vp_nar_int _) (by first | exact pmI_end h1 c_15 h3 | exact h3.trans (pmI_done (h2.symm.trans c_20) h1).symm)
      · refine lv_iload hx hb dX3_permittedOf_18 (lv_at hl 2 rfl) ?_
        refine lv_if_eq (tgt := 83) hx hb dX3_permittedOf_20 (by decide) (fun c_20 => ?_) (fun c_20 => ?_)
        · refine lv_iload hx hb dX3_permittedOf_83 (lv_at hl 1 rfl) ?_
          exact hE _ _ _ dX3_permittedOf_85 (vp_nar_int _) (by first | exact pmI_end h1 c_15 h3 | exact h3.trans (pmI_done (h2.symm.trans c_20) h1).symm)
        · refine lv_iload hx hb dX3_permittedOf_23 (lv_at hl 0 rfl) ?_
          refine lv_iload_n hx hb dX3_permittedOf_25 rfl (lv_at hl 6 rfl) ?_
          refine lv_icmp_ne (tgt := 33) hx hb dX3_permittedOf_26 (by decide) (fun c_26 => ?_) (fun c_26 => ?_)
          · refine lv_aload_n hx hb dX3_permittedOf_33 rfl (lv_at hl 3 rfl) ?_
            refine lv_iload hx hb dX3_permittedOf_34 (lv_at hl 0 rfl) ?_
            refine lv_iload_n hx hb dX3_permittedOf_36 rfl (lv_at hl 4 rfl) ?_
            refine lv_iload_n hx hb dX3_permittedOf_37 rfl (lv_at hl 5 rfl) ?_
            refine Rd.callV (r := (mtI (gt rs (i)) (s0) (p0))) (As := [.int (nI (i)), .int (nI (s0)), .int (nI (p0))]) S (k_X3_matches l hP hf (i := i) (s0 := s0) (p0 := p0) (by omega) (by omega) (by omega)) (cwV 3 hts gX3_permittedOf_X3_matches rfl rfl rfl (by decide +kernel) ⟨Nat.le_of_ble_eq_true rfl, Nat.le_of_ble_eq_true rfl⟩) hK (va_recv hK.1 hP (ci := 3) (q0 := 0) rfl rfl) rfl hl.1 rfl (Nat.le_of_ble_eq_true rfl) dX3_permittedOf_38 ⟨Nat.zero_le _, Nat.zero_le _⟩ ?_
            refine lv_iload hx hb dX3_permittedOf_41 (lv_at hl 2 rfl) ?_
            refine lv_iand hx hb dX3_permittedOf_43 ?_
            refine lv_istore (lv' := [(7, .int (((mtI (gt rs (i)) (s0) (p0)) &&& (op)))), (6, .int (nI (i))), (5, .int (ac)), (4, .int (op)), (0, .ref (A 0)), (1, .int (nI (s0))), (2, .int (nI (p0))), (3, .int (wo))]) hx hb dX3_permittedOf_44 hl (by decide) rfl (fun ls hl => ?_)
            refine lv_iload hx hb dX3_permittedOf_46 (lv_at hl 2 rfl) ?_
            refine lv_aload_n hx hb dX3_permittedOf_48 rfl (lv_at hl 4 rfl) ?_
            refine lv_iload hx hb dX3_permittedOf_49 (lv_at hl 1 rfl) ?_
            refine lv_iconst (v := (nI (5))) hx hb dX3_permittedOf_51 (by decide +kernel) ?_
            refine Rd.callV (r := (nI (bN (pM (gt rs (i)))))) (As := [.int (nI (i)), .int (nI (5))]) S (k_ofR l hP hf (i := i) (w := 5) (by omega) (by omega)) (cwV 2 hts gX3_permittedOf_X3_of rfl rfl rfl (by decide +kernel) ⟨Nat.le_of_ble_eq_true rfl, Nat.le_of_ble_eq_true rfl⟩) hK (va_recv hK.1 hP (ci := 3) (q0 := 0) rfl rfl) rfl hl.1 rfl (Nat.le_of_ble_eq_true rfl) dX3_permittedOf_52 ⟨Nat.zero_le _, Nat.zero_le _⟩ ?_
            refine lv_iconst (v := (nI (1))) hx hb dX3_permittedOf_55 (by decide +kernel) ?_
            refine nr_icmp_ne (tgt := 64) hx hb (Nat.lt_trans (bN_lt _) (by decide)) (by decide) dX3_permittedOf_56 (by decide) (fun c_56 => ?_) (fun c_56 => ?_)
            · refine lv_iconst (v := (nI (0))) hx hb dX3_permittedOf_64 (by decide +kernel) ?_
              refine lv_ior hx hb dX3_permittedOf_65 ?_
              refine lv_istore (lv' := [(5, .int (((ac) ||| (nI (0))))), (7, .int (((mtI (gt rs (i)) (s0) (p0)) &&& (op)))), (6, .int (nI (i))), (4, .int (op)), (0, .ref (A 0)), (1, .int (nI (s0))), (2, .int (nI (p0))), (3, .int (wo))]) hx hb dX3_permittedOf_66 hl (by decide) rfl (fun ls hl => ?_)
              refine lv_iload hx hb dX3_permittedOf_68 (lv_at hl 3 rfl) ?_
              refine lv_iload hx hb dX3_permittedOf_70 (lv_at hl 1 rfl) ?_
              refine lv_iconst (v := ((-1 : Int32))) hx hb dX3_permittedOf_72 (by decide +kernel) ?_
              refine lv_ixor hx hb dX3_permittedOf_73 ?_
              refine lv_iand hx hb dX3_permittedOf_74 ?_
              refine lv_istore (lv' := [(4, .int (((op) &&& (((((mtI (gt rs (i)) (s0) (p0)) &&& (op))) ^^^ ((-1 : Int32))))))), (5, .int (((ac) ||| (nI (0))))), (7, .int (((mtI (gt rs (i)) (s0) (p0)) &&& (op)))), (6, .int (nI (i))), (0, .ref (A 0)), (1, .int (nI (s0))), (2, .int (nI (p0))), (3, .int (wo))]) hx hb dX3_permittedOf_75 hl (by decide) rfl (fun ls hl => ?_)
              refine lv_iinc (v := (nI (i + 1))) (lv' := [(6, .int (nI (i + 1))), (4, .int (((op) &&& (((((mtI (gt rs (i)) (s0) (p0)) &&& (op))) ^^^ ((-1 : Int32))))))), (5, .int (((ac) ||| (nI (0))))), (7, .int (((mtI (gt rs (i)) (s0) (p0)) &&& (op)))), (0, .ref (A 0)), (1, .int (nI (s0))), (2, .int (nI (p0))), (3, .int (wo))]) hx hb dX3_permittedOf_77 hl (k := 3) rfl (nI_add _ _) (by decide) rfl (fun ls hl => ?_)
              refine lv_goto (tgt := 9) hx hb dX3_permittedOf_80 (by decide) ?_
              exact ih_9 (i + 1) ((((op) &&& (((((mtI (gt rs (i)) (s0) (p0)) &&& (op))) ^^^ ((-1 : Int32))))))) ((((ac) ||| (nI (0))))) (by omega) (by first | (rw [pmN_e c_26, ← h2]; exact z_and _) | (rw [pmN_1 c_26, ← h2]; exact z_andn _ _)) (by first | (rw [pmN_e c_26, ← h3]; exact z_or _) | (rw [pmN_t c_26 (bN_t c_56), ← h2, ← h3]; exact z_ors _ _ _) | (rw [pmN_f c_26 (bN_f c_56), ← h3]; exact z_or _)) (by omega) ls (lv_sub hl [0, 2, 1, 4, 5, 6, 7] rfl)
            · refine lv_iload hx hb dX3_permittedOf_59 (lv_at hl 0 rfl) ?_
              refine lv_goto (tgt := 65) hx hb dX3_permittedOf_61 (by decide) ?_
              refine lv_ior hx hb dX3_permittedOf_65 ?_
              refine lv_istore (lv' := [(5, .int (((ac) ||| (((mtI (gt rs (i)) (s0) (p0)) &&& (op)))))), (7, .int (((mtI (gt rs (i)) (s0) (p0)) &&& (op)))), (6, .int (nI (i))), (4, .int (op)), (0, .ref (A 0)), (1, .int (nI (s0))), (2, .int (nI (p0))), (3, .int (wo))]) hx hb dX3_permittedOf_66 hl (by decide) rfl (fun ls hl => ?_)
              refine lv_iload hx hb dX3_permittedOf_68 (lv_at hl 3 rfl) ?_
              refine lv_iload hx hb dX3_permittedOf_70 (lv_at hl 1 rfl) ?_
              refine lv_iconst (v := ((-1 : Int32))) hx hb dX3_permittedOf_72 (by decide +kernel) ?_
              refine lv_ixor hx hb dX3_permittedOf_73 ?_
              refine lv_iand hx hb dX3_permittedOf_74 ?_
              refine lv_istore (lv' := [(4, .int (((op) &&& (((((mtI (gt rs (i)) (s0) (p0)) &&& (op))) ^^^ ((-1 : Int32))))))), (5, .int (((ac) ||| (((mtI (gt rs (i)) (s0) (p0)) &&& (op)))))), (7, .int (((mtI (gt rs (i)) (s0) (p0)) &&& (op)))), (6, .int (nI (i))), (0, .ref (A 0)), (1, .int (nI (s0))), (2, .int (nI (p0))), (3, .int (wo))]) hx hb dX3_permittedOf_75 hl (by decide) rfl (fun ls hl => ?_)
              refine lv_iinc (v := (nI (i + 1))) (lv' := [(6, .int (nI (i + 1))), (4, .int (((op) &&& (((((mtI (gt rs (i)) (s0) (p0)) &&& (op))) ^^^ ((-1 : Int32))))))), (5, .int (((ac) ||| (((mtI (gt rs (i)) (s0) (p0)) &&& (op)))))), (7, .int (((mtI (gt rs (i)) (s0) (p0)) &&& (op)))), (0, .ref (A 0)), (1, .int (nI (s0))), (2, .int (nI (p0))), (3, .int (wo))]) hx hb dX3_permittedOf_77 hl (k := 3) rfl (nI_add _ _) (by decide) rfl (fun ls hl => ?_)
              refine lv_goto (tgt := 9) hx hb dX3_permittedOf_80 (by decide) ?_
              exact ih_9 (i + 1) ((((op) &&& (((((mtI (gt rs (i)) (s0) (p0)) &&& (op))) ^^^ ((-1 : Int32))))))) ((((ac) ||| (((mtI (gt rs (i)) (s0) (p0)) &&& (op)))))) (by omega) (by first | (rw [pmN_e c_26, ← h2]; exact z_and _) | (rw [pmN_1 c_26, ← h2]; exact z_andn _ _)) (by first | (rw [pmN_e c_26, ← h3]; exact z_or _) | (rw [pmN_t c_26 (bN_t c_56), ← h2, ← h3]; exact z_ors _ _ _) | (rw [pmN_f c_26 (bN_f c_56), ← h3]; exact z_or _)) (by omega) ls (lv_sub hl [0, 2, 1, 4, 5, 6, 7] rfl)
          · refine lv_iconst (v := (nI (0))) hx hb dX3_permittedOf_29 (by decide +kernel) ?_
            refine lv_goto (tgt := 44) hx hb dX3_permittedOf_30 (by decide) ?_
            refine lv_istore (lv' := [(7, .int (nI (0))), (6, .int (nI (i))), (5, .int (ac)), (4, .int (op)), (0, .ref (A 0)), (1, .int (nI (s0))), (2, .int (nI (p0))), (3, .int (wo))]) hx hb dX3_permittedOf_44 hl (by decide) rfl (fun ls hl => ?_)
            refine lv_iload hx hb dX3_permittedOf_46 (lv_at hl 2 rfl) ?_
            refine lv_aload_n hx hb dX3_permittedOf_48 rfl (lv_at hl 4 rfl) ?_
            refine lv_iload hx hb dX3_permittedOf_49 (lv_at hl 1 rfl) ?_
            refine lv_iconst (v := (nI (5))) hx hb dX3_permittedOf_51 (by decide +kernel) ?_
            refine Rd.callV (r := (nI (bN (pM (gt rs (i)))))) (As := [.int (nI (i)), .int (nI (5))]) S (k_ofR l hP hf (i := i) (w := 5) (by omega) (by omega)) (cwV 2 hts gX3_permittedOf_X3_of rfl rfl rfl (by decide +kernel) ⟨Nat.le_of_ble_eq_true rfl, Nat.le_of_ble_eq_true rfl⟩) hK (va_recv hK.1 hP (ci := 3) (q0 := 0) rfl rfl) rfl hl.1 rfl (Nat.le_of_ble_eq_true rfl) dX3_permittedOf_52 ⟨Nat.zero_le _, Nat.zero_le _⟩ ?_
            refine lv_iconst (v := (nI (1))) hx hb dX3_permittedOf_55 (by decide +kernel) ?_
            refine nr_icmp_ne (tgt := 64) hx hb (Nat.lt_trans (bN_lt _) (by decide)) (by decide) dX3_permittedOf_56 (by decide) (fun c_56 => ?_) (fun c_56 => ?_)
            · refine lv_iconst (v := (nI (0))) hx hb dX3_permittedOf_64 (by decide +kernel) ?_
              refine lv_ior hx hb dX3_permittedOf_65 ?_
              refine lv_istore (lv' := [(5, .int (((ac) ||| (nI (0))))), (7, .int (nI (0))), (6, .int (nI (i))), (4, .int (op)), (0, .ref (A 0)), (1, .int (nI (s0))), (2, .int (nI (p0))), (3, .int (wo))]) hx hb dX3_permittedOf_66 hl (by decide) rfl (fun ls hl => ?_)
              refine lv_iload hx hb dX3_permittedOf_68 (lv_at hl 3 rfl) ?_
              refine lv_iload hx hb dX3_permittedOf_70 (lv_at hl 1 rfl) ?_
              refine lv_iconst (v := ((-1 : Int32))) hx hb dX3_permittedOf_72 (by decide +kernel) ?_
              refine lv_ixor hx hb dX3_permittedOf_73 ?_
              refine lv_iand hx hb dX3_permittedOf_74 ?_
              refine lv_istore (lv' := [(4, .int (((op) &&& (((nI (0)) ^^^ ((-1 : Int32))))))), (5, .int (((ac) ||| (nI (0))))), (7, .int (nI (0))), (6, .int (nI (i))), (0, .ref (A 0)), (1, .int (nI (s0))), (2, .int (nI (p0))), (3, .int (wo))]) hx hb dX3_permittedOf_75 hl (by decide) rfl (fun ls hl => ?_)
              refine lv_iinc (v := (nI (i + 1))) (lv' := [(6, .int (nI (i + 1))), (4, .int (((op) &&& (((nI (0)) ^^^ ((-1 : Int32))))))), (5, .int (((ac) ||| (nI (0))))), (7, .int (nI (0))), (0, .ref (A 0)), (1, .int (nI (s0))), (2, .int (nI (p0))), (3, .int (wo))]) hx hb dX3_permittedOf_77 hl (k := 3) rfl (nI_add _ _) (by decide) rfl (fun ls hl => ?_)
              refine lv_goto (tgt := 9) hx hb dX3_permittedOf_80 (by decide) ?_
              exact ih_9 (i + 1) ((((op) &&& (((nI (0)) ^^^ ((-1 : Int32))))))) ((((ac) ||| (nI (0))))) (by omega) (by first | (rw [pmN_e c_26, ← h2]; exact z_and _) | (rw [pmN_1 c_26, ← h2]; exact z_andn _ _)) (by first | (rw [pmN_e c_26, ← h3]; exact z_or _) | (rw [pmN_t c_26 (bN_t c_56), ← h2, ← h3]; exact z_ors _ _ _) | (rw [pmN_f c_26 (bN_f c_56), ← h3]; exact z_or _)) (by omega) ls (lv_sub hl [0, 2, 1, 4, 5, 6, 7] rfl)
            · refine lv_iload hx hb dX3_permittedOf_59 (lv_at hl 0 rfl) ?_
              refine lv_goto (tgt := 65) hx hb dX3_permittedOf_61 (by decide) ?_
              refine lv_ior hx hb dX3_permittedOf_65 ?_
              refine lv_istore (lv' := [(5, .int (((ac) ||| (nI (0))))), (7, .int (nI (0))), (6, .int (nI (i))), (4, .int (op)), (0, .ref (A 0)), (1, .int (nI (s0))), (2, .int (nI (p0))), (3, .int (wo))]) hx hb dX3_permittedOf_66 hl (by decide) rfl (fun ls hl => ?_)
              refine lv_iload hx hb dX3_permittedOf_68 (lv_at hl 3 rfl) ?_
              refine lv_iload hx hb dX3_permittedOf_70 (lv_at hl 1 rfl) ?_
              refine lv_iconst (v := ((-1 : Int32))) hx hb dX3_permittedOf_72 (by decide +kernel) ?_
              refine lv_ixor hx hb dX3_permittedOf_73 ?_
              refine lv_iand hx hb dX3_permittedOf_74 ?_
              refine lv_istore (lv' := [(4, .int (((op) &&& (((nI (0)) ^^^ ((-1 : Int32))))))), (5, .int (((ac) ||| (nI (0))))), (7, .int (nI (0))), (6, .int (nI (i))), (0, .ref (A 0)), (1, .int (nI (s0))), (2, .int (nI (p0))), (3, .int (wo))]) hx hb dX3_permittedOf_75 hl (by decide) rfl (fun ls hl => ?_)
              refine lv_iinc (v := (nI (i + 1))) (lv' := [(6, .int (nI (i + 1))), (4, .int (((op) &&& (((nI (0)) ^^^ ((-1 : Int32))))))), (5, .int (((ac) ||| (nI (0))))), (7, .int (nI (0))), (0, .ref (A 0)), (1, .int (nI (s0))), (2, .int (nI (p0))), (3, .int (wo))]) hx hb dX3_permittedOf_77 hl (k := 3) rfl (nI_add _ _) (by decide) rfl (fun ls hl => ?_)
              refine lv_goto (tgt := 9) hx hb dX3_permittedOf_80 (by decide) ?_
              exact ih_9 (i + 1) ((((op) &&& (((nI (0)) ^^^ ((-1 : Int32))))))) ((((ac) ||| (nI (0))))) (by omega) (by first | (rw [pmN_e c_26, ← h2]; exact z_and _) | (rw [pmN_1 c_26, ← h2]; exact z_andn _ _)) (by first | (rw [pmN_e c_26, ← h3]; exact z_or _) | (rw [pmN_t c_26 (bN_t c_56), ← h2, ← h3]; exact z_ors _ _ _) | (rw [pmN_f c_26 (bN_f c_56), ← h3]; exact z_or _)) (by omega) ls (lv_sub hl [0, 2, 1, 4, 5, 6, 7] rfl)
  exact loop_9 _ (0) (((-1 : Int32))) ((nI (0))) (Nat.zero_le _) (rfl) (rfl) (Nat.lt_succ_self _) ls (lv_sub hl [0, 1, 2, 3, 4, 5, 6] rfl)
theorem allN_end {P : Nat → Bool} {q n : Nat} (h1 : q ≤ n) (h2 : n ≤ q) (h : allN P q = true) : allN P n = true := by
  rw [← Nat.le_antisymm h1 h2]
  exact h
theorem sumN_end {P : Nat → Nat} {q n c : Nat} (h1 : q ≤ n) (h2 : n ≤ q) (h : c = sumN P q) : nI c = nI (sumN P n) := by
  rw [← Nat.le_antisymm h1 h2, h]
set_option maxHeartbeats 4000000 in
set_option maxRecDepth 100000 in
theorem k_X3_isNeedless (l : Launch) {D : va_G} {Y : Nat → ClassId} {H : Heap} {A : Nat → Nat} {th mi ju lo : Int32} {f bf ca bg sz : Nat → Int32} {rs : List RV}  (hP : va_P D aCl (wM Y A (th) (nI (rs.length)) (mi) (ju) (lo) f bf ca bg sz) H) (hf : mrep rs f) {pl : Nat} (hpl : pl < rs.length) : Rd l yX3_isNeedless wsX3_isNeedless 5 D Y [.ref (A 0), .int (nI (pl))] H (bI (ndB rs pl)) := by
  refine Rd.start (cc := cX3_isNeedless) (maxL := 3) (rt := .boolean) (by decide) rfl (Nat.le_of_ble_eq_true rfl) ?_
  intro p e s m args below meth c ls Q S hK hl hE
  have S : CallFix p m c cX3_isNeedless 3 s args wsX3_isNeedless RX3 := S
  have hx := S.1
  have hb := S.2.1
  have hts := S.2.2.2.2
  have hl : lv_has ls 3 [(0, .ref (A 0)), (1, .int (nI (pl)))] := hl
  have hn := hf.1.1
  refine lv_iconst (v := (nI (0))) hx hb dX3_isNeedless_0 (by decide +kernel) ?_
  refine lv_istore_n (lv' := [(2, .int (nI (0))), (0, .ref (A 0)), (1, .int (nI (pl)))]) hx hb dX3_isNeedless_1 rfl hl (by decide) rfl (fun ls hl => ?_)
  have loop_2 : ∀ (fu_2 : Nat) (q : Nat), (q ≤ 128) → (allN (ndP rs pl) q = true) → 128 - q < fu_2 → ∀ ls : Array Slot, lv_has ls 3 [(2, .int (nI (q))), (0, .ref (A 0)), (1, .int (nI (pl)))] → W p l e (rmN 5) s m args below meth c H [] 0 0 Q (F0 m 2 ls []) := by
    intro fu_2
    induction fu_2 with
    | zero => exact fun q _ _ hk => absurd hk (Nat.not_lt_zero _)
    | succ fu_2 ih_2 =>
      intro q h1 h2 hk_2 ls hl
      refine lv_iload_n hx hb dX3_isNeedless_2 rfl (lv_at hl 0 rfl) ?_
      refine lv_sipush (v := (nI (128))) hx hb dX3_isNeedless_3 (by decide +kernel) ?_
      refine nr_icmp_ge (tgt := 42) hx hb (by omega) (by omega) dX3_isNeedless_6 (by decide) (fun c_6 => ?_) (fun c_6 => ?_)
      · refine lv_iconst (v := (nI (1))) hx hb dX3_isNeedless_42 (by decide +kernel) ?_
        exact hE _ _ _ dX3_isNeedless_43 (rfl) (bI_t (allN_end h1 c_6 h2))
      · refine lv_aload_n hx hb dX3_isNeedless_9 rfl (lv_at hl 1 rfl) ?_
        refine lv_iload_n hx hb dX3_isNeedless_10 rfl (lv_at hl 0 rfl) ?_
        refine lv_iconst (v := (nI (4))) hx hb dX3_isNeedless_11 (by decide +kernel) ?_
        refine nr_idiv hx hb (by omega) (by omega) (by omega) dX3_isNeedless_12 ?_
        refine lv_iload_n hx hb dX3_isNeedless_13 rfl (lv_at hl 0 rfl) ?_
        refine lv_iconst (v := (nI (4))) hx hb dX3_isNeedless_14 (by decide +kernel) ?_
        refine nr_irem hx hb (by omega) (by omega) (by omega) dX3_isNeedless_15 ?_
        refine lv_iconst (v := ((-1 : Int32))) hx hb dX3_isNeedless_16 (by decide +kernel) ?_
        refine Rd.callV (r := (pmI rs (q / 4) (q % 4) ((-1 : Int32)))) (As := [.int (nI (q / 4)), .int (nI (q % 4)), .int ((-1 : Int32))]) S (k_X3_permittedOf l hP hf (s0 := q / 4) (p0 := q % 4) (wo := ((-1 : Int32))) (by omega) (by omega)) (cwV 3 hts gX3_isNeedless_X3_permittedOf rfl rfl rfl (by decide +kernel) ⟨Nat.le_of_ble_eq_true rfl, Nat.le_of_ble_eq_true rfl⟩) hK (va_recv hK.1 hP (ci := 3) (q0 := 0) rfl rfl) rfl hl.1 rfl (Nat.le_of_ble_eq_true rfl) dX3_isNeedless_17 ⟨Nat.zero_le _, Nat.zero_le _⟩ ?_
        refine lv_aload_n hx hb dX3_isNeedless_20 rfl (lv_at hl 1 rfl) ?_
        refine lv_iload_n hx hb dX3_isNeedless_21 rfl (lv_at hl 0 rfl) ?_
        refine lv_iconst (v := (nI (4))) hx hb dX3_isNeedless_22 (by decide +kernel) ?_
        refine nr_idiv hx hb (by omega) (by omega) (by omega) dX3_isNeedless_23 ?_
        refine lv_iload_n hx hb dX3_isNeedless_24 rfl (lv_at hl 0 rfl) ?_
        refine lv_iconst (v := (nI (4))) hx hb dX3_isNeedless_25 (by decide +kernel) ?_
        refine nr_irem hx hb (by omega) (by omega) (by omega) dX3_isNeedless_26 ?_
        refine lv_iload_n hx hb dX3_isNeedless_27 rfl (lv_at hl 2 rfl) ?_
        refine Rd.callV (r := (pmI rs (q / 4) (q % 4) (nI (pl)))) (As := [.int (nI (q / 4)), .int (nI (q % 4)), .int (nI (pl))]) S (k_X3_permittedOf l hP hf (s0 := q / 4) (p0 := q % 4) (wo := (nI (pl))) (by omega) (by omega)) (cwV 3 hts gX3_isNeedless_X3_permittedOf rfl rfl rfl (by decide +kernel) ⟨Nat.le_of_ble_eq_true rfl, Nat.le_of_ble_eq_true rfl⟩) hK (va_recv hK.1 hP (ci := 3) (q0 := 0) rfl rfl) rfl hl.1 rfl (Nat.le_of_ble_eq_true rfl) dX3_isNeedless_28 ⟨Nat.zero_le _, Nat.zero_le _⟩ ?_
        refine lv_icmp_eq (tgt := 36) hx hb dX3_isNeedless_31 (by decide) (fun c_31 => ?_) (fun c_31 => ?_)
        · refine lv_iinc (v := (nI (q + 1))) (lv' := [(2, .int (nI (q + 1))), (0, .ref (A 0)), (1, .int (nI (pl)))]) hx hb dX3_isNeedless_36 hl (k := 0) rfl (nI_add _ _) (by decide) rfl (fun ls hl => ?_)
          refine lv_goto (tgt := 2) hx hb dX3_isNeedless_39 (by decide) ?_
          exact ih_2 (q + 1) (by omega) (allN_s h2 (decide_eq_true c_31)) (by omega) ls (lv_sub hl [0, 1, 2] rfl)
        · refine lv_iconst (v := (nI (0))) hx hb dX3_isNeedless_34 (by decide +kernel) ?_
          exact hE _ _ _ dX3_isNeedless_35 (rfl) (bI_f (allN_f (decide_eq_false c_31) 128 c_6))
  exact loop_2 _ (0) (by decide) (rfl) (Nat.lt_succ_self _) ls (lv_sub hl [0, 1, 2] rfl)
theorem mbI_f {r : RV} {s d p : Nat} (h : (mtI r s p >>> (nI d &&& 31)) &&& nI 1 = 0) : mbI r s d p = false := by unfold mbI; rw [decide_eq_true h]; rfl
theorem mbI_t {r : RV} {s d p : Nat} (h : ¬ (mtI r s p >>> (nI d &&& 31)) &&& nI 1 = 0) : mbI r s d p = true := by unfold mbI; rw [decide_eq_false h]; rfl
theorem fmN_end {rs : List RV} {s d p i : Nat} (h1 : i ≤ rs.length) (h3 : rs.length ≤ i) (h2 : ∀ j, j < i → mbI (gt rs j) s d p = false) : nI i = nI (fmN rs s d p) :=
  congrArg nI (fstN_eq h2 rs.length h1 (Or.inl (Nat.le_antisymm h1 h3))).symm
theorem fmN_hit {rs : List RV} {s d p i : Nat} (h1 : i ≤ rs.length) (h2 : ∀ j, j < i → mbI (gt rs j) s d p = false) (h : mbI (gt rs i) s d p = true) : nI i = nI (fmN rs s d p) :=
  congrArg nI (fstN_eq h2 rs.length h1 (Or.inr h)).symm
set_option maxHeartbeats 4000000 in
set_option maxRecDepth 100000 in
theorem k_X3_first (l : Launch) {D : va_G} {Y : Nat → ClassId} {H : Heap} {A : Nat → Nat} {th mi ju lo : Int32} {f bf ca bg sz : Nat → Int32} {rs : List RV}  (hP : va_P D aCl (wM Y A (th) (nI (rs.length)) (mi) (ju) (lo) f bf ca bg sz) H) (hf : mrep rs f) {s0 d0 p0 : Nat} (hs : s0 < 32) (hd : d0 < 32) (hp : p0 < 4) : Rd l yX3_first wsX3_first 4 D Y [.ref (A 0), .int (nI (s0)), .int (nI (d0)), .int (nI (p0))] H (nI (fmN rs s0 d0 p0)) := by
  refine Rd.start (cc := cX3_first) (maxL := 5) (rt := .int) (by decide) rfl (Nat.le_of_ble_eq_true rfl) ?_
  intro p e s m args below meth c ls Q S hK hl hE
  have S : CallFix p m c cX3_first 5 s args wsX3_first RX3 := S
  have hx := S.1
  have hb := S.2.1
  have hts := S.2.2.2.2
  have hl : lv_has ls 5 [(0, .ref (A 0)), (1, .int (nI (s0))), (2, .int (nI (d0))), (3, .int (nI (p0)))] := hl
  have hn := hf.1.1
  refine lv_iconst (v := (nI (0))) hx hb dX3_first_0 (by decide +kernel) ?_
  refine lv_istore (lv' := [(4, .int (nI (0))), (0, .ref (A 0)), (1, .int (nI (s0))), (2, .int (nI (d0))), (3, .int (nI (p0)))]) hx hb dX3_first_1 hl (by decide) rfl (fun ls hl => ?_)
  have loop_3 : ∀ (fu_3 : Nat) (i : Nat), (i ≤ rs.length) → (∀ j, j < i → mbI (gt rs j) s0 d0 p0 = false) → rs.length - i < fu_3 → ∀ ls : Array Slot, lv_has ls 5 [(4, .int (nI (i))), (0, .ref (A 0)), (1, .int (nI (s0))), (2, .int (nI (d0))), (3, .int (nI (p0)))] → W p l e (rmN 4) s m args below meth c H [] 0 0 Q (F0 m 3 ls []) := by
    intro fu_3
    induction fu_3 with
    | zero => exact fun i _ _ hk => absurd hk (Nat.not_lt_zero _)
    | succ fu_3 ih_3 =>
      intro i h1 h2 hk_3 ls hl
      refine lv_iload hx hb dX3_first_3 (lv_at hl 0 rfl) ?_
      refine lv_aload_n hx hb dX3_first_5 rfl (lv_at hl 1 rfl) ?_
      refine nr_get (C := RX3) (T := TX3) (N := 10) (ci := 3) S (fun _ h => List.mem_cons_of_mem _ (List.mem_append_right _ (h))) hK hP 0 rfl rfl 1 (by decide) (List.mem_of_getElem? (i := 1) rfl) rfl dX3_first_6 ?_
      refine nr_icmp_ge (tgt := 33) hx hb (by omega) (by omega) dX3_first_9 (by decide) (fun c_9 => ?_) (fun c_9 => ?_)
      · refine lv_iload hx hb dX3_first_33 (lv_at hl 0 rfl) ?_
        exact hE _ _ _ dX3_first_35 (vp_nar_int _) (by first | exact fmN_end h1 c_9 h2 | exact fmN_hit h1 h2 (mbI_t c_24))
      · refine lv_aload_n hx hb dX3_first_12 rfl (lv_at hl 1 rfl) ?_
        refine lv_iload hx hb dX3_first_13 (lv_at hl 0 rfl) ?_
        refine lv_iload_n hx hb dX3_first_15 rfl (lv_at hl 2 rfl) ?_
        refine lv_iload_n hx hb dX3_first_16 rfl (lv_at hl 4 rfl) ?_
        refine Rd.callV (r := (mtI (gt rs (i)) (s0) (p0))) (As := [.int (nI (i)), .int (nI (s0)), .int (nI (p0))]) S (k_X3_matches l hP hf (i := i) (s0 := s0) (p0 := p0) (by omega) (by omega) (by omega)) (cwV 3 hts gX3_first_X3_matches rfl rfl rfl (by decide +kernel) ⟨Nat.le_of_ble_eq_true rfl, Nat.le_of_ble_eq_true rfl⟩) hK (va_recv hK.1 hP (ci := 3) (q0 := 0) rfl rfl) rfl hl.1 rfl (Nat.le_of_ble_eq_true rfl) dX3_first_17 ⟨Nat.zero_le _, Nat.zero_le _⟩ ?_
        refine lv_iload_n hx hb dX3_first_20 rfl (lv_at hl 3 rfl) ?_
        refine lv_ishr hx hb dX3_first_21 ?_
        refine lv_iconst (v := (nI (1))) hx hb dX3_first_22 (by decide +kernel) ?_
        refine lv_iand hx hb dX3_first_23 ?_
        refine lv_if_ne (tgt := 33) hx hb dX3_first_24 (by decide) (fun c_24 => ?_) (fun c_24 => ?_)
        · refine lv_iload hx hb dX3_first_33 (lv_at hl 0 rfl) ?_
          exact hE _ _ _ dX3_first_35 (vp_nar_int _) (by first | exact fmN_end h1 c_9 h2 | exact fmN_hit h1 h2 (mbI_t c_24))
        · refine lv_iinc (v := (nI (i + 1))) (lv' := [(4, .int (nI (i + 1))), (0, .ref (A 0)), (1, .int (nI (s0))), (2, .int (nI (d0))), (3, .int (nI (p0)))]) hx hb dX3_first_27 hl (k := 0) rfl (nI_add _ _) (by decide) rfl (fun ls hl => ?_)
          refine lv_goto (tgt := 3) hx hb dX3_first_30 (by decide) ?_
          exact ih_3 (i + 1) (by omega) (lt_s h2 (mbI_f c_24)) (by omega) ls (lv_sub hl [0, 1, 2, 3, 4] rfl)
  exact loop_3 _ (0) (Nat.zero_le _) (fun _ hj => absurd hj (Nat.not_lt_zero _)) (Nat.lt_succ_self _) ls (lv_sub hl [0, 1, 2, 3, 4] rfl)
theorem adN_end {rs : List RV} {pl s p a : Nat} (h1 : a ≤ pl) (h2 : pl ≤ a) : adN rs pl s p a = adN rs pl s p pl := by rw [Nat.le_antisymm h1 h2]
set_option maxHeartbeats 4000000 in
set_option maxRecDepth 100000 in
theorem k_X3_decided (l : Launch) {D : va_G} {Y : Nat → ClassId} {H : Heap} {A : Nat → Nat} {th mi ju lo : Int32} {f bf ca bg sz : Nat → Int32} {rs : List RV}  (hP : va_P D aCl (wM Y A (th) (nI (rs.length)) (mi) (ju) (lo) f bf ca bg sz) H) (hf : mrep rs f) {pl : Nat} (hpl : pl < rs.length) : Rd l yX3_decided wsX3_decided 4 D Y [.ref (A 0), .int (nI (pl))] H (nI (dcN rs pl)) := by
  refine Rd.start (cc := cX3_decided) (maxL := 6) (rt := .int) (by decide) rfl (Nat.le_of_ble_eq_true rfl) ?_
  intro p e s m args below meth c ls Q S hK hl hE
  have S : CallFix p m c cX3_decided 6 s args wsX3_decided RX3 := S
  have hx := S.1
  have hb := S.2.1
  have hts := S.2.2.2.2
  have hl : lv_has ls 6 [(0, .ref (A 0)), (1, .int (nI (pl)))] := hl
  have hn := hf.1.1
  refine lv_iconst (v := (nI (0))) hx hb dX3_decided_0 (by decide +kernel) ?_
  refine lv_istore_n (lv' := [(2, .int (nI (0))), (0, .ref (A 0)), (1, .int (nI (pl)))]) hx hb dX3_decided_1 rfl hl (by decide) rfl (fun ls hl => ?_)
  refine lv_iconst (v := (nI (0))) hx hb dX3_decided_2 (by decide +kernel) ?_
  refine lv_istore_n (lv' := [(3, .int (nI (0))), (2, .int (nI (0))), (0, .ref (A 0)), (1, .int (nI (pl)))]) hx hb dX3_decided_3 rfl hl (by decide) rfl (fun ls hl => ?_)
  have loop_4 : ∀ (fu_4 : Nat) (n : Nat) (q : Nat), (q ≤ 128) → (n = sumN (fun k => popI (adN rs pl (k / 4) (k % 4) pl)) q) → 128 - q < fu_4 → ∀ ls : Array Slot, lv_has ls 6 [(3, .int (nI (q))), (2, .int (nI (n))), (0, .ref (A 0)), (1, .int (nI (pl)))] → W p l e (rmN 4) s m args below meth c H [] 0 0 Q (F0 m 4 ls []) := by
    intro fu_4
    induction fu_4 with
    | zero => exact fun n q _ _ hk => absurd hk (Nat.not_lt_zero _)
    | succ fu_4 ih_4 =>
      intro n q h1 h2 hk_4 ls hl
      refine lv_iload_n hx hb dX3_decided_4 rfl (lv_at hl 0 rfl) ?_
      refine lv_sipush (v := (nI (128))) hx hb dX3_decided_5 (by decide +kernel) ?_
      refine nr_icmp_ge (tgt := 72) hx hb (by omega) (by omega) dX3_decided_8 (by decide) (fun c_8 => ?_) (fun c_8 => ?_)
      · refine lv_iload_n hx hb dX3_decided_72 rfl (lv_at hl 1 rfl) ?_
        exact hE _ _ _ dX3_decided_73 (vp_nar_int _) (sumN_end h1 c_8 h2)
      · refine lv_aload_n hx hb dX3_decided_11 rfl (lv_at hl 2 rfl) ?_
        refine lv_iload_n hx hb dX3_decided_12 rfl (lv_at hl 3 rfl) ?_
        refine lv_iload_n hx hb dX3_decided_13 rfl (lv_at hl 0 rfl) ?_
        refine lv_iconst (v := (nI (4))) hx hb dX3_decided_14 (by decide +kernel) ?_
        refine nr_idiv hx hb (by omega) (by omega) (by omega) dX3_decided_15 ?_
        refine lv_iload_n hx hb dX3_decided_16 rfl (lv_at hl 0 rfl) ?_
        refine lv_iconst (v := (nI (4))) hx hb dX3_decided_17 (by decide +kernel) ?_
        refine nr_irem hx hb (by omega) (by omega) (by omega) dX3_decided_18 ?_
        refine Rd.callV (r := (mtI (gt rs (pl)) (q / 4) (q % 4))) (As := [.int (nI (pl)), .int (nI (q / 4)), .int (nI (q % 4))]) S (k_X3_matches l hP hf (i := pl) (s0 := q / 4) (p0 := q % 4) (by omega) (by omega) (by omega)) (cwV 3 hts gX3_decided_X3_matches rfl rfl rfl (by decide +kernel) ⟨Nat.le_of_ble_eq_true rfl, Nat.le_of_ble_eq_true rfl⟩) hK (va_recv hK.1 hP (ci := 3) (q0 := 0) rfl rfl) rfl hl.1 rfl (Nat.le_of_ble_eq_true rfl) dX3_decided_19 ⟨Nat.zero_le _, Nat.zero_le _⟩ ?_
        refine lv_istore (lv' := [(4, .int (mtI (gt rs (pl)) (q / 4) (q % 4))), (3, .int (nI (q))), (2, .int (nI (n))), (0, .ref (A 0)), (1, .int (nI (pl)))]) hx hb dX3_decided_22 hl (by decide) rfl (fun ls hl => ?_)
        refine lv_iconst (v := (nI (0))) hx hb dX3_decided_24 (by decide +kernel) ?_
        refine lv_istore (lv' := [(5, .int (nI (0))), (4, .int (mtI (gt rs (pl)) (q / 4) (q % 4))), (3, .int (nI (q))), (2, .int (nI (n))), (0, .ref (A 0)), (1, .int (nI (pl)))]) hx hb dX3_decided_25 hl (by decide) rfl (fun ls hl => ?_)
        have loop_27 : ∀ (fu_27 : Nat) (x : Int32) (a : Nat), (a ≤ pl) → (x = adN rs pl (q / 4) (q % 4) a) → pl - a < fu_27 → ∀ ls : Array Slot, lv_has ls 6 [(5, .int (nI (a))), (4, .int (x)), (3, .int (nI (q))), (2, .int (nI (n))), (0, .ref (A 0)), (1, .int (nI (pl)))] → W p l e (rmN 4) s m args below meth c H [] 0 0 Q (F0 m 27 ls []) := by
          intro fu_27
          induction fu_27 with
          | zero => exact fun x a _ _ hk => absurd hk (Nat.not_lt_zero _)
          | succ fu_27 ih_27 =>
            intro x a g1 g2 hk_27 ls hl
            refine lv_iload hx hb dX3_decided_27 (lv_at hl 0 rfl) ?_
            refine lv_iload_n hx hb dX3_decided_29 rfl (lv_at hl 5 rfl) ?_
            refine nr_icmp_ge (tgt := 58) hx hb (by omega) (by omega) dX3_decided_30 (by decide) (fun c_30 => ?_) (fun c_30 => ?_)
            · refine lv_iload_n hx hb dX3_decided_58 rfl (lv_at hl 3 rfl) ?_
              refine lv_iload hx hb dX3_decided_59 (lv_at hl 1 rfl) ?_
              refine Rd.callS (r := (nI (popI (x)))) (As := [.int (x)]) S (k_X3_many l (x)) (va_cwS 1 hts gX3_decided_X3_many rfl rfl rfl (by decide +kernel) ⟨Nat.le_of_ble_eq_true rfl, Nat.le_of_ble_eq_true rfl⟩) hK rfl hl.1 rfl (Nat.le_of_ble_eq_true rfl) dX3_decided_61 ⟨Nat.zero_le _, Nat.zero_le _⟩ ?_
              refine nr_iadd hx hb dX3_decided_64 ?_
              refine lv_istore_n (lv' := [(2, .int (nI (n + (popI (x))))), (5, .int (nI (a))), (4, .int (x)), (3, .int (nI (q))), (0, .ref (A 0)), (1, .int (nI (pl)))]) hx hb dX3_decided_65 rfl hl (by decide) rfl (fun ls hl => ?_)
              refine lv_iinc (v := (nI (q + 1))) (lv' := [(3, .int (nI (q + 1))), (2, .int (nI (n + (popI (x))))), (5, .int (nI (a))), (4, .int (x)), (0, .ref (A 0)), (1, .int (nI (pl)))]) hx hb dX3_decided_66 hl (k := 3) rfl (nI_add _ _) (by decide) rfl (fun ls hl => ?_)
              refine lv_goto (tgt := 4) hx hb dX3_decided_69 (by decide) ?_
              exact ih_4 (n + (popI (x))) (q + 1) (by omega) (by rw [h2, g2, adN_end g1 c_30]; rfl) (by omega) ls (lv_sub hl [0, 1, 4, 5] rfl)
            · refine lv_iload hx hb dX3_decided_33 (lv_at hl 1 rfl) ?_
              refine lv_aload_n hx hb dX3_decided_35 rfl (lv_at hl 4 rfl) ?_
              refine lv_iload hx hb dX3_decided_36 (lv_at hl 0 rfl) ?_
              refine lv_iload_n hx hb dX3_decided_38 rfl (lv_at hl 2 rfl) ?_
              refine lv_iconst (v := (nI (4))) hx hb dX3_decided_39 (by decide +kernel) ?_
              refine nr_idiv hx hb (by omega) (by omega) (by omega) dX3_decided_40 ?_
              refine lv_iload_n hx hb dX3_decided_41 rfl (lv_at hl 2 rfl) ?_
              refine lv_iconst (v := (nI (4))) hx hb dX3_decided_42 (by decide +kernel) ?_
              refine nr_irem hx hb (by omega) (by omega) (by omega) dX3_decided_43 ?_
              refine Rd.callV (r := (mtI (gt rs (a)) (q / 4) (q % 4))) (As := [.int (nI (a)), .int (nI (q / 4)), .int (nI (q % 4))]) S (k_X3_matches l hP hf (i := a) (s0 := q / 4) (p0 := q % 4) (by omega) (by omega) (by omega)) (cwV 3 hts gX3_decided_X3_matches rfl rfl rfl (by decide +kernel) ⟨Nat.le_of_ble_eq_true rfl, Nat.le_of_ble_eq_true rfl⟩) hK (va_recv hK.1 hP (ci := 3) (q0 := 0) rfl rfl) rfl hl.1 rfl (Nat.le_of_ble_eq_true rfl) dX3_decided_44 ⟨Nat.zero_le _, Nat.zero_le _⟩ ?_
              refine lv_iconst (v := ((-1 : Int32))) hx hb dX3_decided_47 (by decide +kernel) ?_
              refine lv_ixor hx hb dX3_decided_48 ?_
              refine lv_iand hx hb dX3_decided_49 ?_
              refine lv_istore (lv' := [(4, .int (((x) &&& (((mtI (gt rs (a)) (q / 4) (q % 4)) ^^^ ((-1 : Int32))))))), (5, .int (nI (a))), (3, .int (nI (q))), (2, .int (nI (n))), (0, .ref (A 0)), (1, .int (nI (pl)))]) hx hb dX3_decided_50 hl (by decide) rfl (fun ls hl => ?_)
              refine lv_iinc (v := (nI (a + 1))) (lv' := [(5, .int (nI (a + 1))), (4, .int (((x) &&& (((mtI (gt rs (a)) (q / 4) (q % 4)) ^^^ ((-1 : Int32))))))), (3, .int (nI (q))), (2, .int (nI (n))), (0, .ref (A 0)), (1, .int (nI (pl)))]) hx hb dX3_decided_52 hl (k := 1) rfl (nI_add _ _) (by decide) rfl (fun ls hl => ?_)
              refine lv_goto (tgt := 27) hx hb dX3_decided_55 (by decide) ?_
              exact ih_27 ((((x) &&& (((mtI (gt rs (a)) (q / 4) (q % 4)) ^^^ ((-1 : Int32))))))) (a + 1) (by omega) (by rw [g2]; rfl) (by omega) ls (lv_sub hl [0, 1, 2, 3, 4, 5] rfl)
        exact loop_27 _ ((mtI (gt rs (pl)) (q / 4) (q % 4))) (0) (Nat.zero_le _) (rfl) (Nat.lt_succ_self _) ls (lv_sub hl [0, 1, 2, 3, 4, 5] rfl)
  exact loop_4 _ (0) (0) (by decide) (rfl) (Nat.lt_succ_self _) ls (lv_sub hl [0, 1, 2, 3] rfl)
set_option maxHeartbeats 4000000 in
set_option maxRecDepth 100000 in
theorem k_X3_common (l : Launch) {D : va_G} {Y : Nat → ClassId} {H : Heap} {A : Nat → Nat} {th mi ju lo : Int32} {f bf ca bg sz : Nat → Int32} {rs : List RV}  (hP : va_P D aCl (wM Y A (th) (nI (rs.length)) (mi) (ju) (lo) f bf ca bg sz) H) (hf : mrep rs f) {i j : Nat} (hi : i < rs.length) (hj : j < rs.length) : Rd l yX3_common wsX3_common 4 D Y [.ref (A 0), .int (nI (i)), .int (nI (j))] H (nI (cmN (gt rs i) (gt rs j))) := by
  refine Rd.start (cc := cX3_common) (maxL := 5) (rt := .int) (by decide) rfl (Nat.le_of_ble_eq_true rfl) ?_
  intro p e s m args below meth c ls Q S hK hl hE
  have S : CallFix p m c cX3_common 5 s args wsX3_common RX3 := S
  have hx := S.1
  have hb := S.2.1
  have hts := S.2.2.2.2
  have hl : lv_has ls 5 [(0, .ref (A 0)), (1, .int (nI (i))), (2, .int (nI (j)))] := hl
  have hn := hf.1.1
  refine lv_iconst (v := (nI (0))) hx hb dX3_common_0 (by decide +kernel) ?_
  refine lv_istore_n (lv' := [(3, .int (nI (0))), (0, .ref (A 0)), (1, .int (nI (i))), (2, .int (nI (j)))]) hx hb dX3_common_1 rfl hl (by decide) rfl (fun ls hl => ?_)
  refine lv_iconst (v := (nI (0))) hx hb dX3_common_2 (by decide +kernel) ?_
  refine lv_istore (lv' := [(4, .int (nI (0))), (3, .int (nI (0))), (0, .ref (A 0)), (1, .int (nI (i))), (2, .int (nI (j)))]) hx hb dX3_common_3 hl (by decide) rfl (fun ls hl => ?_)
  have loop_5 : ∀ (fu_5 : Nat) (n : Nat) (q : Nat), (q ≤ 128) → (n = sumN (fun k => popI (mtI (gt rs i) (k / 4) (k % 4) &&& mtI (gt rs j) (k / 4) (k % 4))) q) → 128 - q < fu_5 → ∀ ls : Array Slot, lv_has ls 5 [(4, .int (nI (q))), (3, .int (nI (n))), (0, .ref (A 0)), (1, .int (nI (i))), (2, .int (nI (j)))] → W p l e (rmN 4) s m args below meth c H [] 0 0 Q (F0 m 5 ls []) := by
    intro fu_5
    induction fu_5 with
    | zero => exact fun n q _ _ hk => absurd hk (Nat.not_lt_zero _)
    | succ fu_5 ih_5 =>
      intro n q h1 h2 hk_5 ls hl
      refine lv_iload hx hb dX3_common_5 (lv_at hl 0 rfl) ?_
      refine lv_sipush (v := (nI (128))) hx hb dX3_common_7 (by decide +kernel) ?_
      refine nr_icmp_ge (tgt := 52) hx hb (by omega) (by omega) dX3_common_10 (by decide) (fun c_10 => ?_) (fun c_10 => ?_)
      · refine lv_iload_n hx hb dX3_common_52 rfl (lv_at hl 1 rfl) ?_
        exact hE _ _ _ dX3_common_53 (vp_nar_int _) (sumN_end h1 c_10 h2)
      · refine lv_iload_n hx hb dX3_common_13 rfl (lv_at hl 1 rfl) ?_
        refine lv_aload_n hx hb dX3_common_14 rfl (lv_at hl 2 rfl) ?_
        refine lv_iload_n hx hb dX3_common_15 rfl (lv_at hl 3 rfl) ?_
        refine lv_iload hx hb dX3_common_16 (lv_at hl 0 rfl) ?_
        refine lv_iconst (v := (nI (4))) hx hb dX3_common_18 (by decide +kernel) ?_
        refine nr_idiv hx hb (by omega) (by omega) (by omega) dX3_common_19 ?_
        refine lv_iload hx hb dX3_common_20 (lv_at hl 0 rfl) ?_
        refine lv_iconst (v := (nI (4))) hx hb dX3_common_22 (by decide +kernel) ?_
        refine nr_irem hx hb (by omega) (by omega) (by omega) dX3_common_23 ?_
        refine Rd.callV (r := (mtI (gt rs (i)) (q / 4) (q % 4))) (As := [.int (nI (i)), .int (nI (q / 4)), .int (nI (q % 4))]) S (k_X3_matches l hP hf (i := i) (s0 := q / 4) (p0 := q % 4) (by omega) (by omega) (by omega)) (cwV 3 hts gX3_common_X3_matches rfl rfl rfl (by decide +kernel) ⟨Nat.le_of_ble_eq_true rfl, Nat.le_of_ble_eq_true rfl⟩) hK (va_recv hK.1 hP (ci := 3) (q0 := 0) rfl rfl) rfl hl.1 rfl (Nat.le_of_ble_eq_true rfl) dX3_common_24 ⟨Nat.zero_le _, Nat.zero_le _⟩ ?_
        refine lv_aload_n hx hb dX3_common_27 rfl (lv_at hl 2 rfl) ?_
        refine lv_iload_n hx hb dX3_common_28 rfl (lv_at hl 4 rfl) ?_
        refine lv_iload hx hb dX3_common_29 (lv_at hl 0 rfl) ?_
        refine lv_iconst (v := (nI (4))) hx hb dX3_common_31 (by decide +kernel) ?_
        refine nr_idiv hx hb (by omega) (by omega) (by omega) dX3_common_32 ?_
        refine lv_iload hx hb dX3_common_33 (lv_at hl 0 rfl) ?_
        refine lv_iconst (v := (nI (4))) hx hb dX3_common_35 (by decide +kernel) ?_
        refine nr_irem hx hb (by omega) (by omega) (by omega) dX3_common_36 ?_
        refine Rd.callV (r := (mtI (gt rs (j)) (q / 4) (q % 4))) (As := [.int (nI (j)), .int (nI (q / 4)), .int (nI (q % 4))]) S (k_X3_matches l hP hf (i := j) (s0 := q / 4) (p0 := q % 4) (by omega) (by omega) (by omega)) (cwV 3 hts gX3_common_X3_matches rfl rfl rfl (by decide +kernel) ⟨Nat.le_of_ble_eq_true rfl, Nat.le_of_ble_eq_true rfl⟩) hK (va_recv hK.1 hP (ci := 3) (q0 := 0) rfl rfl) rfl hl.1 rfl (Nat.le_of_ble_eq_true rfl) dX3_common_37 ⟨Nat.zero_le _, Nat.zero_le _⟩ ?_
        refine lv_iand hx hb dX3_common_40 ?_
        refine Rd.callS (r := (nI (popI (((mtI (gt rs (i)) (q / 4) (q % 4)) &&& (mtI (gt rs (j)) (q / 4) (q % 4))))))) (As := [.int (((mtI (gt rs (i)) (q / 4) (q % 4)) &&& (mtI (gt rs (j)) (q / 4) (q % 4))))]) S (k_X3_many l (((mtI (gt rs (i)) (q / 4) (q % 4)) &&& (mtI (gt rs (j)) (q / 4) (q % 4))))) (va_cwS 1 hts gX3_common_X3_many rfl rfl rfl (by decide +kernel) ⟨Nat.le_of_ble_eq_true rfl, Nat.le_of_ble_eq_true rfl⟩) hK rfl hl.1 rfl (Nat.le_of_ble_eq_true rfl) dX3_common_41 ⟨Nat.zero_le _, Nat.zero_le _⟩ ?_
        refine nr_iadd hx hb dX3_common_44 ?_
        refine lv_istore_n (lv' := [(3, .int (nI (n + (popI (((mtI (gt rs (i)) (q / 4) (q % 4)) &&& (mtI (gt rs (j)) (q / 4) (q % 4)))))))), (4, .int (nI (q))), (0, .ref (A 0)), (1, .int (nI (i))), (2, .int (nI (j)))]) hx hb dX3_common_45 rfl hl (by decide) rfl (fun ls hl => ?_)
        refine lv_iinc (v := (nI (q + 1))) (lv' := [(4, .int (nI (q + 1))), (3, .int (nI (n + (popI (((mtI (gt rs (i)) (q / 4) (q % 4)) &&& (mtI (gt rs (j)) (q / 4) (q % 4)))))))), (0, .ref (A 0)), (1, .int (nI (i))), (2, .int (nI (j)))]) hx hb dX3_common_46 hl (k := 1) rfl (nI_add _ _) (by decide) rfl (fun ls hl => ?_)
        refine lv_goto (tgt := 5) hx hb dX3_common_49 (by decide) ?_
        exact ih_5 (n + (popI (((mtI (gt rs (i)) (q / 4) (q % 4)) &&& (mtI (gt rs (j)) (q / 4) (q % 4)))))) (q + 1) (by omega) (by rw [h2]; rfl) (by omega) ls (lv_sub hl [0, 1, 2, 3, 4] rfl)
  exact loop_5 _ (0) (0) (by decide) (rfl) (Nat.lt_succ_self _) ls (lv_sub hl [0, 1, 2, 3, 4] rfl)
set_option maxHeartbeats 4000000 in
set_option maxRecDepth 100000 in
theorem k_X3_isRange (l : Launch) {D : va_G} {Y : Nat → ClassId} {H : Heap} (a b : Int32) : Rd l yX3_isRange wsX3_isRange 1 D Y [.int (a), .int (b)] H (bI (rgB a b)) := by
  refine Rd.start (cc := cX3_isRange) (maxL := 2) (rt := .boolean) (by decide) rfl (Nat.le_of_ble_eq_true rfl) ?_
  intro p e s m args below meth c ls Q S hK hl hE
  have S : CallFix p m c cX3_isRange 2 s args wsX3_isRange RX3 := S
  have hx := S.1
  have hb := S.2.1
  have hts := S.2.2.2.2
  have hl : lv_has ls 2 [(0, .int (a)), (1, .int (b))] := hl
  refine lv_iload_n hx hb dX3_isRange_0 rfl (lv_at hl 0 rfl) ?_
  refine lv_iconst (v := (nI (0))) hx hb dX3_isRange_1 (by decide +kernel) ?_
  refine lv_bipush (v := (nI (31))) hx hb dX3_isRange_2 (by decide +kernel) ?_
  refine Rd.callS (r := (bI (inI (a) (nI (0)) (nI (31))))) (As := [.int (a), .int (nI (0)), .int (nI (31))]) S (k_X3_in l (a) (nI (0)) (nI (31))) (va_cwS 3 hts gX3_isRange_X3_in rfl rfl rfl (by decide +kernel) ⟨Nat.le_of_ble_eq_true rfl, Nat.le_of_ble_eq_true rfl⟩) hK rfl hl.1 rfl (Nat.le_of_ble_eq_true rfl) dX3_isRange_4 ⟨Nat.zero_le _, Nat.zero_le _⟩ ?_
  refine nr_ifB_eq (tgt := 24) hx hb dX3_isRange_7 (by decide) (fun c_7 => ?_) (fun c_7 => ?_)
  · refine lv_iconst (v := (nI (0))) hx hb dX3_isRange_24 (by decide +kernel) ?_
    exact hE _ _ _ dX3_isRange_25 (rfl) (bI_f (by unfold rgB; first | (rw [c_7]; rfl) | (rw [c_17, Bool.and_false])))
  · refine lv_iload_n hx hb dX3_isRange_10 rfl (lv_at hl 1 rfl) ?_
    refine lv_iload_n hx hb dX3_isRange_11 rfl (lv_at hl 0 rfl) ?_
    refine lv_bipush (v := (nI (31))) hx hb dX3_isRange_12 (by decide +kernel) ?_
    refine Rd.callS (r := (bI (inI (b) (a) (nI (31))))) (As := [.int (b), .int (a), .int (nI (31))]) S (k_X3_in l (b) (a) (nI (31))) (va_cwS 3 hts gX3_isRange_X3_in rfl rfl rfl (by decide +kernel) ⟨Nat.le_of_ble_eq_true rfl, Nat.le_of_ble_eq_true rfl⟩) hK rfl hl.1 rfl (Nat.le_of_ble_eq_true rfl) dX3_isRange_14 ⟨Nat.zero_le _, Nat.zero_le _⟩ ?_
    refine nr_ifB_eq (tgt := 24) hx hb dX3_isRange_17 (by decide) (fun c_17 => ?_) (fun c_17 => ?_)
    · refine lv_iconst (v := (nI (0))) hx hb dX3_isRange_24 (by decide +kernel) ?_
      exact hE _ _ _ dX3_isRange_25 (rfl) (bI_f (by unfold rgB; first | (rw [c_7]; rfl) | (rw [c_17, Bool.and_false])))
    · refine lv_iconst (v := (nI (1))) hx hb dX3_isRange_20 (by decide +kernel) ?_
      refine lv_goto (tgt := 25) hx hb dX3_isRange_21 (by decide) ?_
      exact hE _ _ _ dX3_isRange_25 (rfl) (bI_t (by unfold rgB; rw [c_7, c_17]; rfl))
set_option maxHeartbeats 4000000 in
set_option maxRecDepth 100000 in
theorem k_X3_isPacket (l : Launch) {D : va_G} {Y : Nat → ClassId} {H : Heap} (a b c0 : Int32) : Rd l yX3_isPacket wsX3_isPacket 1 D Y [.int (a), .int (b), .int (c0)] H (bI (pkB a b c0)) := by
  refine Rd.start (cc := cX3_isPacket) (maxL := 3) (rt := .boolean) (by decide) rfl (Nat.le_of_ble_eq_true rfl) ?_
  intro p e s m args below meth c ls Q S hK hl hE
  have S : CallFix p m c cX3_isPacket 3 s args wsX3_isPacket RX3 := S
  have hx := S.1
  have hb := S.2.1
  have hts := S.2.2.2.2
  have hl : lv_has ls 3 [(0, .int (a)), (1, .int (b)), (2, .int (c0))] := hl
  refine lv_iload_n hx hb dX3_isPacket_0 rfl (lv_at hl 0 rfl) ?_
  refine lv_iconst (v := (nI (0))) hx hb dX3_isPacket_1 (by decide +kernel) ?_
  refine lv_bipush (v := (nI (31))) hx hb dX3_isPacket_2 (by decide +kernel) ?_
  refine Rd.callS (r := (bI (inI (a) (nI (0)) (nI (31))))) (As := [.int (a), .int (nI (0)), .int (nI (31))]) S (k_X3_in l (a) (nI (0)) (nI (31))) (va_cwS 3 hts gX3_isPacket_X3_in rfl rfl rfl (by decide +kernel) ⟨Nat.le_of_ble_eq_true rfl, Nat.le_of_ble_eq_true rfl⟩) hK rfl hl.1 rfl (Nat.le_of_ble_eq_true rfl) dX3_isPacket_4 ⟨Nat.zero_le _, Nat.zero_le _⟩ ?_
  refine nr_ifB_eq (tgt := 33) hx hb dX3_isPacket_7 (by decide) (fun c_7 => ?_) (fun c_7 => ?_)
  · refine lv_iconst (v := (nI (0))) hx hb dX3_isPacket_33 (by decide +kernel) ?_
    exact hE _ _ _ dX3_isPacket_34 (rfl) (bI_f (by unfold pkB; first | (rw [c_7]; rfl) | (rw [c_17, Bool.and_false]; rfl) | (rw [c_26, Bool.and_false])))
  · refine lv_iload_n hx hb dX3_isPacket_10 rfl (lv_at hl 1 rfl) ?_
    refine lv_iconst (v := (nI (0))) hx hb dX3_isPacket_11 (by decide +kernel) ?_
    refine lv_bipush (v := (nI (31))) hx hb dX3_isPacket_12 (by decide +kernel) ?_
    refine Rd.callS (r := (bI (inI (b) (nI (0)) (nI (31))))) (As := [.int (b), .int (nI (0)), .int (nI (31))]) S (k_X3_in l (b) (nI (0)) (nI (31))) (va_cwS 3 hts gX3_isPacket_X3_in rfl rfl rfl (by decide +kernel) ⟨Nat.le_of_ble_eq_true rfl, Nat.le_of_ble_eq_true rfl⟩) hK rfl hl.1 rfl (Nat.le_of_ble_eq_true rfl) dX3_isPacket_14 ⟨Nat.zero_le _, Nat.zero_le _⟩ ?_
    refine nr_ifB_eq (tgt := 33) hx hb dX3_isPacket_17 (by decide) (fun c_17 => ?_) (fun c_17 => ?_)
    · refine lv_iconst (v := (nI (0))) hx hb dX3_isPacket_33 (by decide +kernel) ?_
      exact hE _ _ _ dX3_isPacket_34 (rfl) (bI_f (by unfold pkB; first | (rw [c_7]; rfl) | (rw [c_17, Bool.and_false]; rfl) | (rw [c_26, Bool.and_false])))
    · refine lv_iload_n hx hb dX3_isPacket_20 rfl (lv_at hl 2 rfl) ?_
      refine lv_iconst (v := (nI (0))) hx hb dX3_isPacket_21 (by decide +kernel) ?_
      refine lv_iconst (v := (nI (3))) hx hb dX3_isPacket_22 (by decide +kernel) ?_
      refine Rd.callS (r := (bI (inI (c0) (nI (0)) (nI (3))))) (As := [.int (c0), .int (nI (0)), .int (nI (3))]) S (k_X3_in l (c0) (nI (0)) (nI (3))) (va_cwS 3 hts gX3_isPacket_X3_in rfl rfl rfl (by decide +kernel) ⟨Nat.le_of_ble_eq_true rfl, Nat.le_of_ble_eq_true rfl⟩) hK rfl hl.1 rfl (Nat.le_of_ble_eq_true rfl) dX3_isPacket_23 ⟨Nat.zero_le _, Nat.zero_le _⟩ ?_
      refine nr_ifB_eq (tgt := 33) hx hb dX3_isPacket_26 (by decide) (fun c_26 => ?_) (fun c_26 => ?_)
      · refine lv_iconst (v := (nI (0))) hx hb dX3_isPacket_33 (by decide +kernel) ?_
        exact hE _ _ _ dX3_isPacket_34 (rfl) (bI_f (by unfold pkB; first | (rw [c_7]; rfl) | (rw [c_17, Bool.and_false]; rfl) | (rw [c_26, Bool.and_false])))
      · refine lv_iconst (v := (nI (1))) hx hb dX3_isPacket_29 (by decide +kernel) ?_
        refine lv_goto (tgt := 34) hx hb dX3_isPacket_30 (by decide) ?_
        exact hE _ _ _ dX3_isPacket_34 (rfl) (bI_t (by unfold pkB; rw [c_7, c_17, c_26]; rfl))
set_option maxHeartbeats 4000000 in
set_option maxRecDepth 100000 in
theorem k_X3_areAlike (l : Launch) {D : va_G} {Y : Nat → ClassId} {H : Heap} {A : Nat → Nat} {th mi ju lo : Int32} {f bf ca bg sz : Nat → Int32} {rs : List RV}  (hP : va_P D aCl (wM Y A (th) (nI (rs.length)) (mi) (ju) (lo) f bf ca bg sz) H) (hf : mrep rs f) {i j w : Nat} (hi : i < rs.length) (hj : j < rs.length) (hw : w ≤ 4) : Rd l yX3_areAlike wsX3_areAlike 2 D Y [.ref (A 0), .int (nI (i)), .int (nI (j)), .int (nI (w))] H (bI (alB (gt rs i) (gt rs j) w)) := by
  refine Rd.start (cc := cX3_areAlike) (maxL := 4) (rt := .boolean) (by decide) rfl (Nat.le_of_ble_eq_true rfl) ?_
  intro p e s m args below meth c ls Q S hK hl hE
  have S : CallFix p m c cX3_areAlike 4 s args wsX3_areAlike RX3 := S
  have hx := S.1
  have hb := S.2.1
  have hts := S.2.2.2.2
  have hl : lv_has ls 4 [(0, .ref (A 0)), (1, .int (nI (i))), (2, .int (nI (j))), (3, .int (nI (w)))] := hl
  have hn := hf.1.1
  refine lv_aload_n hx hb dX3_areAlike_0 rfl (lv_at hl 0 rfl) ?_
  refine lv_iload_n hx hb dX3_areAlike_1 rfl (lv_at hl 1 rfl) ?_
  refine lv_iload_n hx hb dX3_areAlike_2 rfl (lv_at hl 3 rfl) ?_
  refine Rd.callV (r := (rvI (gt rs (i)) (w))) (As := [.int (nI (i)), .int (nI (w))]) S (k_ofR l hP hf (i := i) (w := w) (by omega) (by omega)) (cwV 2 hts gX3_areAlike_X3_of rfl rfl rfl (by decide +kernel) ⟨Nat.le_of_ble_eq_true rfl, Nat.le_of_ble_eq_true rfl⟩) hK (va_recv hK.1 hP (ci := 3) (q0 := 0) rfl rfl) rfl hl.1 rfl (Nat.le_of_ble_eq_true rfl) dX3_areAlike_3 ⟨Nat.zero_le _, Nat.zero_le _⟩ ?_
  refine lv_aload_n hx hb dX3_areAlike_6 rfl (lv_at hl 0 rfl) ?_
  refine lv_iload_n hx hb dX3_areAlike_7 rfl (lv_at hl 2 rfl) ?_
  refine lv_iload_n hx hb dX3_areAlike_8 rfl (lv_at hl 3 rfl) ?_
  refine Rd.callV (r := (rvI (gt rs (j)) (w))) (As := [.int (nI (j)), .int (nI (w))]) S (k_ofR l hP hf (i := j) (w := w) (by omega) (by omega)) (cwV 2 hts gX3_areAlike_X3_of rfl rfl rfl (by decide +kernel) ⟨Nat.le_of_ble_eq_true rfl, Nat.le_of_ble_eq_true rfl⟩) hK (va_recv hK.1 hP (ci := 3) (q0 := 0) rfl rfl) rfl hl.1 rfl (Nat.le_of_ble_eq_true rfl) dX3_areAlike_9 ⟨Nat.zero_le _, Nat.zero_le _⟩ ?_
  refine lv_icmp_ne (tgt := 43) hx hb dX3_areAlike_12 (by decide) (fun c_12 => ?_) (fun c_12 => ?_)
  · refine lv_iconst (v := (nI (0))) hx hb dX3_areAlike_43 (by decide +kernel) ?_
    exact hE _ _ _ dX3_areAlike_44 (rfl) (bI_f (by unfold alB; first | (rw [decide_eq_false c_12]; rfl) | (rw [decide_eq_false c_17, decide_eq_false c_36, Bool.or_false, Bool.and_false])))
  · refine lv_iload_n hx hb dX3_areAlike_15 rfl (lv_at hl 3 rfl) ?_
    refine lv_iconst (v := (nI (4))) hx hb dX3_areAlike_16 (by decide +kernel) ?_
    refine nr_icmp_eq (tgt := 39) hx hb (by omega) (by omega) dX3_areAlike_17 (by decide) (fun c_17 => ?_) (fun c_17 => ?_)
    · refine lv_iconst (v := (nI (1))) hx hb dX3_areAlike_39 (by decide +kernel) ?_
      refine lv_goto (tgt := 44) hx hb dX3_areAlike_40 (by decide) ?_
      exact hE _ _ _ dX3_areAlike_44 (rfl) (bI_t (by unfold alB; first | (rw [decide_eq_true c_12, decide_eq_true c_17]; rfl) | (rw [decide_eq_true c_12, decide_eq_true c_36, Bool.or_true]; rfl)))
    · refine lv_aload_n hx hb dX3_areAlike_20 rfl (lv_at hl 0 rfl) ?_
      refine lv_iload_n hx hb dX3_areAlike_21 rfl (lv_at hl 1 rfl) ?_
      refine lv_iload_n hx hb dX3_areAlike_22 rfl (lv_at hl 3 rfl) ?_
      refine lv_iconst (v := (nI (1))) hx hb dX3_areAlike_23 (by decide +kernel) ?_
      refine nr_iadd hx hb dX3_areAlike_24 ?_
      refine Rd.callV (r := (rvI (gt rs (i)) (w + 1))) (As := [.int (nI (i)), .int (nI (w + 1))]) S (k_ofR l hP hf (i := i) (w := w + 1) (by omega) (by omega)) (cwV 2 hts gX3_areAlike_X3_of rfl rfl rfl (by decide +kernel) ⟨Nat.le_of_ble_eq_true rfl, Nat.le_of_ble_eq_true rfl⟩) hK (va_recv hK.1 hP (ci := 3) (q0 := 0) rfl rfl) rfl hl.1 rfl (Nat.le_of_ble_eq_true rfl) dX3_areAlike_25 ⟨Nat.zero_le _, Nat.zero_le _⟩ ?_
      refine lv_aload_n hx hb dX3_areAlike_28 rfl (lv_at hl 0 rfl) ?_
      refine lv_iload_n hx hb dX3_areAlike_29 rfl (lv_at hl 2 rfl) ?_
      refine lv_iload_n hx hb dX3_areAlike_30 rfl (lv_at hl 3 rfl) ?_
      refine lv_iconst (v := (nI (1))) hx hb dX3_areAlike_31 (by decide +kernel) ?_
      refine nr_iadd hx hb dX3_areAlike_32 ?_
      refine Rd.callV (r := (rvI (gt rs (j)) (w + 1))) (As := [.int (nI (j)), .int (nI (w + 1))]) S (k_ofR l hP hf (i := j) (w := w + 1) (by omega) (by omega)) (cwV 2 hts gX3_areAlike_X3_of rfl rfl rfl (by decide +kernel) ⟨Nat.le_of_ble_eq_true rfl, Nat.le_of_ble_eq_true rfl⟩) hK (va_recv hK.1 hP (ci := 3) (q0 := 0) rfl rfl) rfl hl.1 rfl (Nat.le_of_ble_eq_true rfl) dX3_areAlike_33 ⟨Nat.zero_le _, Nat.zero_le _⟩ ?_
      refine lv_icmp_ne (tgt := 43) hx hb dX3_areAlike_36 (by decide) (fun c_36 => ?_) (fun c_36 => ?_)
      · refine lv_iconst (v := (nI (0))) hx hb dX3_areAlike_43 (by decide +kernel) ?_
        exact hE _ _ _ dX3_areAlike_44 (rfl) (bI_f (by unfold alB; first | (rw [decide_eq_false c_12]; rfl) | (rw [decide_eq_false c_17, decide_eq_false c_36, Bool.or_false, Bool.and_false])))
      · refine lv_iconst (v := (nI (1))) hx hb dX3_areAlike_39 (by decide +kernel) ?_
        refine lv_goto (tgt := 44) hx hb dX3_areAlike_40 (by decide) ?_
        exact hE _ _ _ dX3_areAlike_44 (rfl) (bI_t (by unfold alB; first | (rw [decide_eq_true c_12, decide_eq_true c_17]; rfl) | (rw [decide_eq_true c_12, decide_eq_true c_36, Bool.or_true]; rfl)))
set_option maxHeartbeats 4000000 in
set_option maxRecDepth 100000 in
theorem k_X3_areOne (l : Launch) {D : va_G} {Y : Nat → ClassId} {H : Heap} {A : Nat → Nat} {th mi ju lo : Int32} {f bf ca bg sz : Nat → Int32} {rs : List RV}  (hP : va_P D aCl (wM Y A (th) (nI (rs.length)) (mi) (ju) (lo) f bf ca bg sz) H) (hf : mrep rs f) {i j w : Nat} (hi : i < rs.length) (hj : j < rs.length) (hw : w ≤ 4) : Rd l yX3_areOne wsX3_areOne 2 D Y [.ref (A 0), .int (nI (i)), .int (nI (j)), .int (nI (w))] H (bI (onB (gt rs i) (gt rs j) w)) := by
  refine Rd.start (cc := cX3_areOne) (maxL := 4) (rt := .boolean) (by decide) rfl (Nat.le_of_ble_eq_true rfl) ?_
  intro p e s m args below meth c ls Q S hK hl hE
  have S : CallFix p m c cX3_areOne 4 s args wsX3_areOne RX3 := S
  have hx := S.1
  have hb := S.2.1
  have hts := S.2.2.2.2
  have hl : lv_has ls 4 [(0, .ref (A 0)), (1, .int (nI (i))), (2, .int (nI (j))), (3, .int (nI (w)))] := hl
  have hn := hf.1.1
  refine lv_iload_n hx hb dX3_areOne_0 rfl (lv_at hl 3 rfl) ?_
  refine lv_iconst (v := (nI (4))) hx hb dX3_areOne_1 (by decide +kernel) ?_
  refine nr_icmp_eq (tgt := 43) hx hb (by omega) (by omega) dX3_areOne_2 (by decide) (fun c_2 => ?_) (fun c_2 => ?_)
  · refine lv_iconst (v := (nI (1))) hx hb dX3_areOne_43 (by decide +kernel) ?_
    refine lv_goto (tgt := 48) hx hb dX3_areOne_44 (by decide) ?_
    exact hE _ _ _ dX3_areOne_48 (rfl) (bI_t (by unfold onB; first | (rw [decide_eq_true c_2]; rfl) | (rw [decide_eq_false c_2, decide_eq_true (Int32.not_lt.mp c_21), decide_eq_true (Int32.not_lt.mp c_40)]; rfl)))
  · refine lv_aload_n hx hb dX3_areOne_5 rfl (lv_at hl 0 rfl) ?_
    refine lv_iload_n hx hb dX3_areOne_6 rfl (lv_at hl 1 rfl) ?_
    refine lv_iload_n hx hb dX3_areOne_7 rfl (lv_at hl 3 rfl) ?_
    refine Rd.callV (r := (rvI (gt rs (i)) (w))) (As := [.int (nI (i)), .int (nI (w))]) S (k_ofR l hP hf (i := i) (w := w) (by omega) (by omega)) (cwV 2 hts gX3_areOne_X3_of rfl rfl rfl (by decide +kernel) ⟨Nat.le_of_ble_eq_true rfl, Nat.le_of_ble_eq_true rfl⟩) hK (va_recv hK.1 hP (ci := 3) (q0 := 0) rfl rfl) rfl hl.1 rfl (Nat.le_of_ble_eq_true rfl) dX3_areOne_8 ⟨Nat.zero_le _, Nat.zero_le _⟩ ?_
    refine lv_aload_n hx hb dX3_areOne_11 rfl (lv_at hl 0 rfl) ?_
    refine lv_iload_n hx hb dX3_areOne_12 rfl (lv_at hl 2 rfl) ?_
    refine lv_iload_n hx hb dX3_areOne_13 rfl (lv_at hl 3 rfl) ?_
    refine lv_iconst (v := (nI (1))) hx hb dX3_areOne_14 (by decide +kernel) ?_
    refine nr_iadd hx hb dX3_areOne_15 ?_
    refine Rd.callV (r := (rvI (gt rs (j)) (w + 1))) (As := [.int (nI (j)), .int (nI (w + 1))]) S (k_ofR l hP hf (i := j) (w := w + 1) (by omega) (by omega)) (cwV 2 hts gX3_areOne_X3_of rfl rfl rfl (by decide +kernel) ⟨Nat.le_of_ble_eq_true rfl, Nat.le_of_ble_eq_true rfl⟩) hK (va_recv hK.1 hP (ci := 3) (q0 := 0) rfl rfl) rfl hl.1 rfl (Nat.le_of_ble_eq_true rfl) dX3_areOne_16 ⟨Nat.zero_le _, Nat.zero_le _⟩ ?_
    refine lv_iconst (v := (nI (1))) hx hb dX3_areOne_19 (by decide +kernel) ?_
    refine lv_iadd hx hb dX3_areOne_20 ?_
    refine lv_icmp_gt (tgt := 47) hx hb dX3_areOne_21 (by decide) (fun c_21 => ?_) (fun c_21 => ?_)
    · refine lv_iconst (v := (nI (0))) hx hb dX3_areOne_47 (by decide +kernel) ?_
      exact hE _ _ _ dX3_areOne_48 (rfl) (bI_f (by unfold onB; first | (rw [decide_eq_false c_2, decide_eq_false (Int32.not_le.mpr c_21)]; rfl) | (rw [decide_eq_false c_2, decide_eq_false (Int32.not_le.mpr c_40), Bool.and_false]; rfl)))
    · refine lv_aload_n hx hb dX3_areOne_24 rfl (lv_at hl 0 rfl) ?_
      refine lv_iload_n hx hb dX3_areOne_25 rfl (lv_at hl 2 rfl) ?_
      refine lv_iload_n hx hb dX3_areOne_26 rfl (lv_at hl 3 rfl) ?_
      refine Rd.callV (r := (rvI (gt rs (j)) (w))) (As := [.int (nI (j)), .int (nI (w))]) S (k_ofR l hP hf (i := j) (w := w) (by omega) (by omega)) (cwV 2 hts gX3_areOne_X3_of rfl rfl rfl (by decide +kernel) ⟨Nat.le_of_ble_eq_true rfl, Nat.le_of_ble_eq_true rfl⟩) hK (va_recv hK.1 hP (ci := 3) (q0 := 0) rfl rfl) rfl hl.1 rfl (Nat.le_of_ble_eq_true rfl) dX3_areOne_27 ⟨Nat.zero_le _, Nat.zero_le _⟩ ?_
      refine lv_aload_n hx hb dX3_areOne_30 rfl (lv_at hl 0 rfl) ?_
      refine lv_iload_n hx hb dX3_areOne_31 rfl (lv_at hl 1 rfl) ?_
      refine lv_iload_n hx hb dX3_areOne_32 rfl (lv_at hl 3 rfl) ?_
      refine lv_iconst (v := (nI (1))) hx hb dX3_areOne_33 (by decide +kernel) ?_
      refine nr_iadd hx hb dX3_areOne_34 ?_
      refine Rd.callV (r := (rvI (gt rs (i)) (w + 1))) (As := [.int (nI (i)), .int (nI (w + 1))]) S (k_ofR l hP hf (i := i) (w := w + 1) (by omega) (by omega)) (cwV 2 hts gX3_areOne_X3_of rfl rfl rfl (by decide +kernel) ⟨Nat.le_of_ble_eq_true rfl, Nat.le_of_ble_eq_true rfl⟩) hK (va_recv hK.1 hP (ci := 3) (q0 := 0) rfl rfl) rfl hl.1 rfl (Nat.le_of_ble_eq_true rfl) dX3_areOne_35 ⟨Nat.zero_le _, Nat.zero_le _⟩ ?_
      refine lv_iconst (v := (nI (1))) hx hb dX3_areOne_38 (by decide +kernel) ?_
      refine lv_iadd hx hb dX3_areOne_39 ?_
      refine lv_icmp_gt (tgt := 47) hx hb dX3_areOne_40 (by decide) (fun c_40 => ?_) (fun c_40 => ?_)
      · refine lv_iconst (v := (nI (0))) hx hb dX3_areOne_47 (by decide +kernel) ?_
        exact hE _ _ _ dX3_areOne_48 (rfl) (bI_f (by unfold onB; first | (rw [decide_eq_false c_2, decide_eq_false (Int32.not_le.mpr c_21)]; rfl) | (rw [decide_eq_false c_2, decide_eq_false (Int32.not_le.mpr c_40), Bool.and_false]; rfl)))
      · refine lv_iconst (v := (nI (1))) hx hb dX3_areOne_43 (by decide +kernel) ?_
        refine lv_goto (tgt := 48) hx hb dX3_areOne_44 (by decide) ?_
        exact hE _ _ _ dX3_areOne_48 (rfl) (bI_t (by unfold onB; first | (rw [decide_eq_true c_2]; rfl) | (rw [decide_eq_false c_2, decide_eq_true (Int32.not_lt.mp c_21), decide_eq_true (Int32.not_lt.mp c_40)]; rfl)))
set_option maxHeartbeats 4000000 in
set_option maxRecDepth 100000 in
theorem k_X3_isMergeable (l : Launch) {D : va_G} {Y : Nat → ClassId} {H : Heap} {A : Nat → Nat} {th mi ju lo : Int32} {f bf ca bg sz : Nat → Int32} {rs : List RV}  (hP : va_P D aCl (wM Y A (th) (nI (rs.length)) (mi) (ju) (lo) f bf ca bg sz) H) (hf : mrep rs f) {i : Nat} (hi : i + 1 < rs.length) : Rd l yX3_isMergeable wsX3_isMergeable 3 D Y [.ref (A 0), .int (nI (i))] H (bI (mgB (gt rs i) (gt rs (i + 1)))) := by
  refine Rd.start (cc := cX3_isMergeable) (maxL := 6) (rt := .boolean) (by decide) rfl (Nat.le_of_ble_eq_true rfl) ?_
  intro p e s m args below meth c ls Q S hK hl hE
  have S : CallFix p m c cX3_isMergeable 6 s args wsX3_isMergeable RX3 := S
  have hx := S.1
  have hb := S.2.1
  have hts := S.2.2.2.2
  have hl : lv_has ls 6 [(0, .ref (A 0)), (1, .int (nI (i)))] := hl
  have hn := hf.1.1
  refine lv_iconst (v := (nI (0))) hx hb dX3_isMergeable_0 (by decide +kernel) ?_
  refine lv_istore_n (lv' := [(2, .int (nI (0))), (0, .ref (A 0)), (1, .int (nI (i)))]) hx hb dX3_isMergeable_1 rfl hl (by decide) rfl (fun ls hl => ?_)
  refine lv_aload_n hx hb dX3_isMergeable_2 rfl (lv_at hl 1 rfl) ?_
  refine lv_iload_n hx hb dX3_isMergeable_3 rfl (lv_at hl 2 rfl) ?_
  refine lv_iconst (v := (nI (5))) hx hb dX3_isMergeable_4 (by decide +kernel) ?_
  refine Rd.callV (r := (nI (bN (pM (gt rs (i)))))) (As := [.int (nI (i)), .int (nI (5))]) S (k_ofR l hP hf (i := i) (w := 5) (by omega) (by omega)) (cwV 2 hts gX3_isMergeable_X3_of rfl rfl rfl (by decide +kernel) ⟨Nat.le_of_ble_eq_true rfl, Nat.le_of_ble_eq_true rfl⟩) hK (va_recv hK.1 hP (ci := 3) (q0 := 0) rfl rfl) rfl hl.1 rfl (Nat.le_of_ble_eq_true rfl) dX3_isMergeable_5 ⟨Nat.zero_le _, Nat.zero_le _⟩ ?_
  refine lv_aload_n hx hb dX3_isMergeable_8 rfl (lv_at hl 1 rfl) ?_
  refine lv_iload_n hx hb dX3_isMergeable_9 rfl (lv_at hl 2 rfl) ?_
  refine lv_iconst (v := (nI (1))) hx hb dX3_isMergeable_10 (by decide +kernel) ?_
  refine nr_iadd hx hb dX3_isMergeable_11 ?_
  refine lv_iconst (v := (nI (5))) hx hb dX3_isMergeable_12 (by decide +kernel) ?_
  refine Rd.callV (r := (nI (bN (pM (gt rs (i + 1)))))) (As := [.int (nI (i + 1)), .int (nI (5))]) S (k_ofR l hP hf (i := i + 1) (w := 5) (by omega) (by omega)) (cwV 2 hts gX3_isMergeable_X3_of rfl rfl rfl (by decide +kernel) ⟨Nat.le_of_ble_eq_true rfl, Nat.le_of_ble_eq_true rfl⟩) hK (va_recv hK.1 hP (ci := 3) (q0 := 0) rfl rfl) rfl hl.1 rfl (Nat.le_of_ble_eq_true rfl) dX3_isMergeable_13 ⟨Nat.zero_le _, Nat.zero_le _⟩ ?_
  refine nr_join (pc' := 24) (n := 6) (L := [(2, .int (nI (0))), (0, .ref (A 0)), (1, .int (nI (i)))]) (st' := [.int (bI (isB (gt rs i) (gt rs (i + 1)) 0))]) (fun ls hl => ?_) (fun J1 => ?_)
  · refine lv_istore_n (lv' := [(3, .int (bI (isB (gt rs i) (gt rs (i + 1)) 0))), (2, .int (nI (0))), (0, .ref (A 0)), (1, .int (nI (i)))]) hx hb dX3_isMergeable_24 rfl hl (by decide) rfl (fun ls hl => ?_)
    refine lv_iconst (v := (nI (0))) hx hb dX3_isMergeable_25 (by decide +kernel) ?_
    refine lv_istore (lv' := [(4, .int (nI (0))), (3, .int (bI (isB (gt rs i) (gt rs (i + 1)) 0))), (2, .int (nI (0))), (0, .ref (A 0)), (1, .int (nI (i)))]) hx hb dX3_isMergeable_26 hl (by decide) rfl (fun ls hl => ?_)
    refine lv_iload hx hb dX3_isMergeable_28 (lv_at hl 0 rfl) ?_
    refine lv_iconst (v := (nI (4))) hx hb dX3_isMergeable_30 (by decide +kernel) ?_
    refine nr_icmp_gt (tgt := 93) hx hb (by omega) (by omega) dX3_isMergeable_31 (by decide) (fun c_31 => absurd c_31 (by decide)) (fun c_31 => ?_)
    refine lv_aload_n hx hb dX3_isMergeable_34 rfl (lv_at hl 3 rfl) ?_
    refine lv_iload_n hx hb dX3_isMergeable_35 rfl (lv_at hl 4 rfl) ?_
    refine lv_iload_n hx hb dX3_isMergeable_36 rfl (lv_at hl 4 rfl) ?_
    refine lv_iconst (v := (nI (1))) hx hb dX3_isMergeable_37 (by decide +kernel) ?_
    refine nr_iadd hx hb dX3_isMergeable_38 ?_
    refine lv_iload hx hb dX3_isMergeable_39 (lv_at hl 0 rfl) ?_
    refine Rd.callV (r := (bI (alB (gt rs (i)) (gt rs (i + 1)) 0))) (As := [.int (nI (i)), .int (nI (i + 1)), .int (nI (0))]) S (k_X3_areAlike l hP hf (i := i) (j := i + 1) (w := 0) (by omega) (by omega) (by omega)) (cwV 3 hts gX3_isMergeable_X3_areAlike rfl rfl rfl (by decide +kernel) ⟨Nat.le_of_ble_eq_true rfl, Nat.le_of_ble_eq_true rfl⟩) hK (va_recv hK.1 hP (ci := 3) (q0 := 0) rfl rfl) rfl hl.1 rfl (Nat.le_of_ble_eq_true rfl) dX3_isMergeable_41 ⟨Nat.zero_le _, Nat.zero_le _⟩ ?_
    refine lv_istore (lv' := [(5, .int (bI (alB (gt rs (i)) (gt rs (i + 1)) 0))), (4, .int (nI (0))), (3, .int (bI (isB (gt rs i) (gt rs (i + 1)) 0))), (2, .int (nI (0))), (0, .ref (A 0)), (1, .int (nI (i)))]) hx hb dX3_isMergeable_44 hl (by decide) rfl (fun ls hl => ?_)
    refine lv_iload_n hx hb dX3_isMergeable_46 rfl (lv_at hl 3 rfl) ?_
    refine lv_iload hx hb dX3_isMergeable_47 (lv_at hl 0 rfl) ?_
    refine nr_join (pc' := 57) (n := 6) (L := [(5, .int (bI (alB (gt rs (i)) (gt rs (i + 1)) 0))), (4, .int (nI (0))), (3, .int (bI (isB (gt rs i) (gt rs (i + 1)) 0))), (2, .int (nI (0))), (0, .ref (A 0)), (1, .int (nI (i)))]) (st' := [.int (nI (bN (!alB (gt rs i) (gt rs (i + 1)) 0))), .int (nI (0))]) (fun ls hl => ?_) (fun J2 => ?_)
    · refine nr_iadd hx hb dX3_isMergeable_57 ?_
      refine nr_top (y := (nI (unN (gt rs i) (gt rs (i + 1)) 1))) (rfl) ?_
      refine lv_istore_n (lv' := [(2, .int (nI (unN (gt rs i) (gt rs (i + 1)) 1))), (5, .int (bI (alB (gt rs (i)) (gt rs (i + 1)) 0))), (4, .int (nI (0))), (3, .int (bI (isB (gt rs i) (gt rs (i + 1)) 0))), (0, .ref (A 0)), (1, .int (nI (i)))]) hx hb dX3_isMergeable_58 rfl hl (by decide) rfl (fun ls hl => ?_)
      refine lv_iload_n hx hb dX3_isMergeable_59 rfl (lv_at hl 3 rfl) ?_
      refine nr_join (pc' := 86) (n := 6) (L := [(2, .int (nI (unN (gt rs i) (gt rs (i + 1)) 1))), (5, .int (bI (alB (gt rs (i)) (gt rs (i + 1)) 0))), (4, .int (nI (0))), (3, .int (bI (isB (gt rs i) (gt rs (i + 1)) 0))), (0, .ref (A 0)), (1, .int (nI (i)))]) (st' := [.int (bI (isB (gt rs i) (gt rs (i + 1)) 1))]) (fun ls hl => ?_) (fun J3 => ?_)
      · refine lv_istore_n (lv' := [(3, .int (bI (isB (gt rs i) (gt rs (i + 1)) 1))), (2, .int (nI (unN (gt rs i) (gt rs (i + 1)) 1))), (5, .int (bI (alB (gt rs (i)) (gt rs (i + 1)) 0))), (4, .int (nI (0))), (0, .ref (A 0)), (1, .int (nI (i)))]) hx hb dX3_isMergeable_86 rfl hl (by decide) rfl (fun ls hl => ?_)
        refine lv_iinc (v := (nI (2))) (lv' := [(4, .int (nI (2))), (3, .int (bI (isB (gt rs i) (gt rs (i + 1)) 1))), (2, .int (nI (unN (gt rs i) (gt rs (i + 1)) 1))), (5, .int (bI (alB (gt rs (i)) (gt rs (i + 1)) 0))), (0, .ref (A 0)), (1, .int (nI (i)))]) hx hb dX3_isMergeable_87 hl (k := 3) rfl (nI_add _ _) (by decide) rfl (fun ls hl => ?_)
        refine lv_goto (tgt := 28) hx hb dX3_isMergeable_90 (by decide) ?_
        refine lv_iload hx hb dX3_isMergeable_28 (lv_at hl 0 rfl) ?_
        refine lv_iconst (v := (nI (4))) hx hb dX3_isMergeable_30 (by decide +kernel) ?_
        refine nr_icmp_gt (tgt := 93) hx hb (by omega) (by omega) dX3_isMergeable_31 (by decide) (fun c_31 => absurd c_31 (by decide)) (fun c_31 => ?_)
        refine lv_aload_n hx hb dX3_isMergeable_34 rfl (lv_at hl 4 rfl) ?_
        refine lv_iload_n hx hb dX3_isMergeable_35 rfl (lv_at hl 5 rfl) ?_
        refine lv_iload_n hx hb dX3_isMergeable_36 rfl (lv_at hl 5 rfl) ?_
        refine lv_iconst (v := (nI (1))) hx hb dX3_isMergeable_37 (by decide +kernel) ?_
        refine nr_iadd hx hb dX3_isMergeable_38 ?_
        refine lv_iload hx hb dX3_isMergeable_39 (lv_at hl 0 rfl) ?_
        refine Rd.callV (r := (bI (alB (gt rs (i)) (gt rs (i + 1)) 2))) (As := [.int (nI (i)), .int (nI (i + 1)), .int (nI (2))]) S (k_X3_areAlike l hP hf (i := i) (j := i + 1) (w := 2) (by omega) (by omega) (by omega)) (cwV 3 hts gX3_isMergeable_X3_areAlike rfl rfl rfl (by decide +kernel) ⟨Nat.le_of_ble_eq_true rfl, Nat.le_of_ble_eq_true rfl⟩) hK (va_recv hK.1 hP (ci := 3) (q0 := 0) rfl rfl) rfl hl.1 rfl (Nat.le_of_ble_eq_true rfl) dX3_isMergeable_41 ⟨Nat.zero_le _, Nat.zero_le _⟩ ?_
        refine lv_istore (lv' := [(5, .int (bI (alB (gt rs (i)) (gt rs (i + 1)) 2))), (4, .int (nI (2))), (3, .int (bI (isB (gt rs i) (gt rs (i + 1)) 1))), (2, .int (nI (unN (gt rs i) (gt rs (i + 1)) 1))), (0, .ref (A 0)), (1, .int (nI (i)))]) hx hb dX3_isMergeable_44 hl (by decide) rfl (fun ls hl => ?_)
        refine lv_iload_n hx hb dX3_isMergeable_46 rfl (lv_at hl 3 rfl) ?_
        refine lv_iload hx hb dX3_isMergeable_47 (lv_at hl 0 rfl) ?_
        refine nr_join (pc' := 57) (n := 6) (L := [(5, .int (bI (alB (gt rs (i)) (gt rs (i + 1)) 2))), (4, .int (nI (2))), (3, .int (bI (isB (gt rs i) (gt rs (i + 1)) 1))), (2, .int (nI (unN (gt rs i) (gt rs (i + 1)) 1))), (0, .ref (A 0)), (1, .int (nI (i)))]) (st' := [.int (nI (bN (!alB (gt rs i) (gt rs (i + 1)) 2))), .int (nI (unN (gt rs i) (gt rs (i + 1)) 1))]) (fun ls hl => ?_) (fun J4 => ?_)
        · refine nr_iadd hx hb dX3_isMergeable_57 ?_
          refine nr_top (y := (nI (unN (gt rs i) (gt rs (i + 1)) 2))) (rfl) ?_
          refine lv_istore_n (lv' := [(2, .int (nI (unN (gt rs i) (gt rs (i + 1)) 2))), (5, .int (bI (alB (gt rs (i)) (gt rs (i + 1)) 2))), (4, .int (nI (2))), (3, .int (bI (isB (gt rs i) (gt rs (i + 1)) 1))), (0, .ref (A 0)), (1, .int (nI (i)))]) hx hb dX3_isMergeable_58 rfl hl (by decide) rfl (fun ls hl => ?_)
          refine lv_iload_n hx hb dX3_isMergeable_59 rfl (lv_at hl 3 rfl) ?_
          refine nr_join (pc' := 86) (n := 6) (L := [(2, .int (nI (unN (gt rs i) (gt rs (i + 1)) 2))), (5, .int (bI (alB (gt rs (i)) (gt rs (i + 1)) 2))), (4, .int (nI (2))), (3, .int (bI (isB (gt rs i) (gt rs (i + 1)) 1))), (0, .ref (A 0)), (1, .int (nI (i)))]) (st' := [.int (bI (isB (gt rs i) (gt rs (i + 1)) 2))]) (fun ls hl => ?_) (fun J5 => ?_)
          · refine lv_istore_n (lv' := [(3, .int (bI (isB (gt rs i) (gt rs (i + 1)) 2))), (2, .int (nI (unN (gt rs i) (gt rs (i + 1)) 2))), (5, .int (bI (alB (gt rs (i)) (gt rs (i + 1)) 2))), (4, .int (nI (2))), (0, .ref (A 0)), (1, .int (nI (i)))]) hx hb dX3_isMergeable_86 rfl hl (by decide) rfl (fun ls hl => ?_)
            refine lv_iinc (v := (nI (4))) (lv' := [(4, .int (nI (4))), (3, .int (bI (isB (gt rs i) (gt rs (i + 1)) 2))), (2, .int (nI (unN (gt rs i) (gt rs (i + 1)) 2))), (5, .int (bI (alB (gt rs (i)) (gt rs (i + 1)) 2))), (0, .ref (A 0)), (1, .int (nI (i)))]) hx hb dX3_isMergeable_87 hl (k := 3) rfl (nI_add _ _) (by decide) rfl (fun ls hl => ?_)
            refine lv_goto (tgt := 28) hx hb dX3_isMergeable_90 (by decide) ?_
            refine lv_iload hx hb dX3_isMergeable_28 (lv_at hl 0 rfl) ?_
            refine lv_iconst (v := (nI (4))) hx hb dX3_isMergeable_30 (by decide +kernel) ?_
            refine nr_icmp_gt (tgt := 93) hx hb (by omega) (by omega) dX3_isMergeable_31 (by decide) (fun c_31 => absurd c_31 (by decide)) (fun c_31 => ?_)
            refine lv_aload_n hx hb dX3_isMergeable_34 rfl (lv_at hl 4 rfl) ?_
            refine lv_iload_n hx hb dX3_isMergeable_35 rfl (lv_at hl 5 rfl) ?_
            refine lv_iload_n hx hb dX3_isMergeable_36 rfl (lv_at hl 5 rfl) ?_
            refine lv_iconst (v := (nI (1))) hx hb dX3_isMergeable_37 (by decide +kernel) ?_
            refine nr_iadd hx hb dX3_isMergeable_38 ?_
            refine lv_iload hx hb dX3_isMergeable_39 (lv_at hl 0 rfl) ?_
            refine Rd.callV (r := (bI (alB (gt rs (i)) (gt rs (i + 1)) 4))) (As := [.int (nI (i)), .int (nI (i + 1)), .int (nI (4))]) S (k_X3_areAlike l hP hf (i := i) (j := i + 1) (w := 4) (by omega) (by omega) (by omega)) (cwV 3 hts gX3_isMergeable_X3_areAlike rfl rfl rfl (by decide +kernel) ⟨Nat.le_of_ble_eq_true rfl, Nat.le_of_ble_eq_true rfl⟩) hK (va_recv hK.1 hP (ci := 3) (q0 := 0) rfl rfl) rfl hl.1 rfl (Nat.le_of_ble_eq_true rfl) dX3_isMergeable_41 ⟨Nat.zero_le _, Nat.zero_le _⟩ ?_
            refine lv_istore (lv' := [(5, .int (bI (alB (gt rs (i)) (gt rs (i + 1)) 4))), (4, .int (nI (4))), (3, .int (bI (isB (gt rs i) (gt rs (i + 1)) 2))), (2, .int (nI (unN (gt rs i) (gt rs (i + 1)) 2))), (0, .ref (A 0)), (1, .int (nI (i)))]) hx hb dX3_isMergeable_44 hl (by decide) rfl (fun ls hl => ?_)
            refine lv_iload_n hx hb dX3_isMergeable_46 rfl (lv_at hl 3 rfl) ?_
            refine lv_iload hx hb dX3_isMergeable_47 (lv_at hl 0 rfl) ?_
            refine nr_join (pc' := 57) (n := 6) (L := [(5, .int (bI (alB (gt rs (i)) (gt rs (i + 1)) 4))), (4, .int (nI (4))), (3, .int (bI (isB (gt rs i) (gt rs (i + 1)) 2))), (2, .int (nI (unN (gt rs i) (gt rs (i + 1)) 2))), (0, .ref (A 0)), (1, .int (nI (i)))]) (st' := [.int (nI (bN (!alB (gt rs i) (gt rs (i + 1)) 4))), .int (nI (unN (gt rs i) (gt rs (i + 1)) 2))]) (fun ls hl => ?_) (fun J6 => ?_)
            · refine nr_iadd hx hb dX3_isMergeable_57 ?_
              refine nr_top (y := (nI (unN (gt rs i) (gt rs (i + 1)) 3))) (rfl) ?_
              refine lv_istore_n (lv' := [(2, .int (nI (unN (gt rs i) (gt rs (i + 1)) 3))), (5, .int (bI (alB (gt rs (i)) (gt rs (i + 1)) 4))), (4, .int (nI (4))), (3, .int (bI (isB (gt rs i) (gt rs (i + 1)) 2))), (0, .ref (A 0)), (1, .int (nI (i)))]) hx hb dX3_isMergeable_58 rfl hl (by decide) rfl (fun ls hl => ?_)
              refine lv_iload_n hx hb dX3_isMergeable_59 rfl (lv_at hl 3 rfl) ?_
              refine nr_join (pc' := 86) (n := 6) (L := [(2, .int (nI (unN (gt rs i) (gt rs (i + 1)) 3))), (5, .int (bI (alB (gt rs (i)) (gt rs (i + 1)) 4))), (4, .int (nI (4))), (3, .int (bI (isB (gt rs i) (gt rs (i + 1)) 2))), (0, .ref (A 0)), (1, .int (nI (i)))]) (st' := [.int (bI (isB (gt rs i) (gt rs (i + 1)) 3))]) (fun ls hl => ?_) (fun J7 => ?_)
              · refine lv_istore_n (lv' := [(3, .int (bI (isB (gt rs i) (gt rs (i + 1)) 3))), (2, .int (nI (unN (gt rs i) (gt rs (i + 1)) 3))), (5, .int (bI (alB (gt rs (i)) (gt rs (i + 1)) 4))), (4, .int (nI (4))), (0, .ref (A 0)), (1, .int (nI (i)))]) hx hb dX3_isMergeable_86 rfl hl (by decide) rfl (fun ls hl => ?_)
                refine lv_iinc (v := (nI (6))) (lv' := [(4, .int (nI (6))), (3, .int (bI (isB (gt rs i) (gt rs (i + 1)) 3))), (2, .int (nI (unN (gt rs i) (gt rs (i + 1)) 3))), (5, .int (bI (alB (gt rs (i)) (gt rs (i + 1)) 4))), (0, .ref (A 0)), (1, .int (nI (i)))]) hx hb dX3_isMergeable_87 hl (k := 3) rfl (nI_add _ _) (by decide) rfl (fun ls hl => ?_)
                refine lv_goto (tgt := 28) hx hb dX3_isMergeable_90 (by decide) ?_
                refine lv_iload hx hb dX3_isMergeable_28 (lv_at hl 0 rfl) ?_
                refine lv_iconst (v := (nI (4))) hx hb dX3_isMergeable_30 (by decide +kernel) ?_
                refine nr_icmp_gt (tgt := 93) hx hb (by omega) (by omega) dX3_isMergeable_31 (by decide) (fun c_31 => ?_) (fun c_31 => absurd c_31 (by decide))
                refine lv_iload_n hx hb dX3_isMergeable_93 rfl (lv_at hl 1 rfl) ?_
                refine nr_ifB_eq (tgt := 106) hx hb dX3_isMergeable_94 (by decide) (fun c_94 => ?_) (fun c_94 => ?_)
                · refine lv_iconst (v := (nI (0))) hx hb dX3_isMergeable_106 (by decide +kernel) ?_
                  exact hE _ _ _ dX3_isMergeable_107 (rfl) (bI_f (by unfold mgB; first | (rw [c_94]; rfl) | (rw [decide_eq_false (Nat.not_lt.mpr c_99), Bool.and_false])))
                · refine lv_iload_n hx hb dX3_isMergeable_97 rfl (lv_at hl 2 rfl) ?_
                  refine lv_iconst (v := (nI (2))) hx hb dX3_isMergeable_98 (by decide +kernel) ?_
                  refine nr_icmp_ge (tgt := 106) hx hb (Nat.lt_of_le_of_lt (unN_le _ _ 3) (by decide)) (by decide) dX3_isMergeable_99 (by decide) (fun c_99 => ?_) (fun c_99 => ?_)
                  · refine lv_iconst (v := (nI (0))) hx hb dX3_isMergeable_106 (by decide +kernel) ?_
                    exact hE _ _ _ dX3_isMergeable_107 (rfl) (bI_f (by unfold mgB; first | (rw [c_94]; rfl) | (rw [decide_eq_false (Nat.not_lt.mpr c_99), Bool.and_false])))
                  · refine lv_iconst (v := (nI (1))) hx hb dX3_isMergeable_102 (by decide +kernel) ?_
                    refine lv_goto (tgt := 107) hx hb dX3_isMergeable_103 (by decide) ?_
                    exact hE _ _ _ dX3_isMergeable_107 (rfl) (bI_t (by unfold mgB; rw [c_94, decide_eq_true c_99]; rfl))
              · refine nr_ifB_eq (tgt := 85) hx hb dX3_isMergeable_60 (by decide) (fun c_60 => ?_) (fun c_60 => ?_)
                · refine lv_iconst (v := (nI (0))) hx hb dX3_isMergeable_85 (by decide +kernel) ?_
                  refine nr_top (y := (bI (isB (gt rs i) (gt rs (i + 1)) 3))) (bI_f (by first | (rw [isB, c_60]; rfl) | (rw [isB, c_60, show alB (gt rs i) (gt rs (i + 1)) (2 * 2) = false from c_65, show onB (gt rs i) (gt rs (i + 1)) (2 * 2) = false from c_78]; rfl))) ?_
                  exact J7 ls (lv_sub hl [0, 1, 2, 3, 4, 5] rfl)
                · refine lv_iload hx hb dX3_isMergeable_63 (lv_at hl 1 rfl) ?_
                  refine nr_ifB_ne (tgt := 81) hx hb dX3_isMergeable_65 (by decide) (fun c_65 => ?_) (fun c_65 => ?_)
                  · refine lv_iconst (v := (nI (1))) hx hb dX3_isMergeable_81 (by decide +kernel) ?_
                    refine lv_goto (tgt := 86) hx hb dX3_isMergeable_82 (by decide) ?_
                    refine nr_top (y := (bI (isB (gt rs i) (gt rs (i + 1)) 3))) (bI_t (by first | (rw [isB, c_60, show alB (gt rs i) (gt rs (i + 1)) (2 * 2) = true from c_65]; rfl) | (rw [isB, c_60, show alB (gt rs i) (gt rs (i + 1)) (2 * 2) = false from c_65, show onB (gt rs i) (gt rs (i + 1)) (2 * 2) = true from c_78]; rfl))) ?_
                    exact J7 ls (lv_sub hl [0, 1, 2, 3, 4, 5] rfl)
                  · refine lv_aload_n hx hb dX3_isMergeable_68 rfl (lv_at hl 4 rfl) ?_
                    refine lv_iload_n hx hb dX3_isMergeable_69 rfl (lv_at hl 5 rfl) ?_
                    refine lv_iload_n hx hb dX3_isMergeable_70 rfl (lv_at hl 5 rfl) ?_
                    refine lv_iconst (v := (nI (1))) hx hb dX3_isMergeable_71 (by decide +kernel) ?_
                    refine nr_iadd hx hb dX3_isMergeable_72 ?_
                    refine lv_iload hx hb dX3_isMergeable_73 (lv_at hl 2 rfl) ?_
                    refine Rd.callV (r := (bI (onB (gt rs (i)) (gt rs (i + 1)) 4))) (As := [.int (nI (i)), .int (nI (i + 1)), .int (nI (4))]) S (k_X3_areOne l hP hf (i := i) (j := i + 1) (w := 4) (by omega) (by omega) (by omega)) (cwV 3 hts gX3_isMergeable_X3_areOne rfl rfl rfl (by decide +kernel) ⟨Nat.le_of_ble_eq_true rfl, Nat.le_of_ble_eq_true rfl⟩) hK (va_recv hK.1 hP (ci := 3) (q0 := 0) rfl rfl) rfl hl.1 rfl (Nat.le_of_ble_eq_true rfl) dX3_isMergeable_75 ⟨Nat.zero_le _, Nat.zero_le _⟩ ?_
                    refine nr_ifB_eq (tgt := 85) hx hb dX3_isMergeable_78 (by decide) (fun c_78 => ?_) (fun c_78 => ?_)
                    · refine lv_iconst (v := (nI (0))) hx hb dX3_isMergeable_85 (by decide +kernel) ?_
                      refine nr_top (y := (bI (isB (gt rs i) (gt rs (i + 1)) 3))) (bI_f (by first | (rw [isB, c_60]; rfl) | (rw [isB, c_60, show alB (gt rs i) (gt rs (i + 1)) (2 * 2) = false from c_65, show onB (gt rs i) (gt rs (i + 1)) (2 * 2) = false from c_78]; rfl))) ?_
                      exact J7 ls (lv_sub hl [0, 1, 2, 3, 4, 5] rfl)
                    · refine lv_iconst (v := (nI (1))) hx hb dX3_isMergeable_81 (by decide +kernel) ?_
                      refine lv_goto (tgt := 86) hx hb dX3_isMergeable_82 (by decide) ?_
                      refine nr_top (y := (bI (isB (gt rs i) (gt rs (i + 1)) 3))) (bI_t (by first | (rw [isB, c_60, show alB (gt rs i) (gt rs (i + 1)) (2 * 2) = true from c_65]; rfl) | (rw [isB, c_60, show alB (gt rs i) (gt rs (i + 1)) (2 * 2) = false from c_65, show onB (gt rs i) (gt rs (i + 1)) (2 * 2) = true from c_78]; rfl))) ?_
                      exact J7 ls (lv_sub hl [0, 1, 2, 3, 4, 5] rfl)
            · refine nr_ifB_eq (tgt := 56) hx hb dX3_isMergeable_49 (by decide) (fun c_49 => ?_) (fun c_49 => ?_)
              · refine lv_iconst (v := (nI (1))) hx hb dX3_isMergeable_56 (by decide +kernel) ?_
                refine nr_top (y := (nI (bN (!alB (gt rs i) (gt rs (i + 1)) 4)))) (by rw [c_49]; rfl) ?_
                exact J6 ls (lv_sub hl [0, 1, 2, 3, 4, 5] rfl)
              · refine lv_iconst (v := (nI (0))) hx hb dX3_isMergeable_52 (by decide +kernel) ?_
                refine lv_goto (tgt := 57) hx hb dX3_isMergeable_53 (by decide) ?_
                refine nr_top (y := (nI (bN (!alB (gt rs i) (gt rs (i + 1)) 4)))) (by rw [c_49]; rfl) ?_
                exact J6 ls (lv_sub hl [0, 1, 2, 3, 4, 5] rfl)
          · refine nr_ifB_eq (tgt := 85) hx hb dX3_isMergeable_60 (by decide) (fun c_60 => ?_) (fun c_60 => ?_)
            · refine lv_iconst (v := (nI (0))) hx hb dX3_isMergeable_85 (by decide +kernel) ?_
              refine nr_top (y := (bI (isB (gt rs i) (gt rs (i + 1)) 2))) (bI_f (by first | (rw [isB, c_60]; rfl) | (rw [isB, c_60, show alB (gt rs i) (gt rs (i + 1)) (2 * 1) = false from c_65, show onB (gt rs i) (gt rs (i + 1)) (2 * 1) = false from c_78]; rfl))) ?_
              exact J5 ls (lv_sub hl [0, 1, 2, 3, 4, 5] rfl)
            · refine lv_iload hx hb dX3_isMergeable_63 (lv_at hl 1 rfl) ?_
              refine nr_ifB_ne (tgt := 81) hx hb dX3_isMergeable_65 (by decide) (fun c_65 => ?_) (fun c_65 => ?_)
              · refine lv_iconst (v := (nI (1))) hx hb dX3_isMergeable_81 (by decide +kernel) ?_
                refine lv_goto (tgt := 86) hx hb dX3_isMergeable_82 (by decide) ?_
                refine nr_top (y := (bI (isB (gt rs i) (gt rs (i + 1)) 2))) (bI_t (by first | (rw [isB, c_60, show alB (gt rs i) (gt rs (i + 1)) (2 * 1) = true from c_65]; rfl) | (rw [isB, c_60, show alB (gt rs i) (gt rs (i + 1)) (2 * 1) = false from c_65, show onB (gt rs i) (gt rs (i + 1)) (2 * 1) = true from c_78]; rfl))) ?_
                exact J5 ls (lv_sub hl [0, 1, 2, 3, 4, 5] rfl)
              · refine lv_aload_n hx hb dX3_isMergeable_68 rfl (lv_at hl 4 rfl) ?_
                refine lv_iload_n hx hb dX3_isMergeable_69 rfl (lv_at hl 5 rfl) ?_
                refine lv_iload_n hx hb dX3_isMergeable_70 rfl (lv_at hl 5 rfl) ?_
                refine lv_iconst (v := (nI (1))) hx hb dX3_isMergeable_71 (by decide +kernel) ?_
                refine nr_iadd hx hb dX3_isMergeable_72 ?_
                refine lv_iload hx hb dX3_isMergeable_73 (lv_at hl 2 rfl) ?_
                refine Rd.callV (r := (bI (onB (gt rs (i)) (gt rs (i + 1)) 2))) (As := [.int (nI (i)), .int (nI (i + 1)), .int (nI (2))]) S (k_X3_areOne l hP hf (i := i) (j := i + 1) (w := 2) (by omega) (by omega) (by omega)) (cwV 3 hts gX3_isMergeable_X3_areOne rfl rfl rfl (by decide +kernel) ⟨Nat.le_of_ble_eq_true rfl, Nat.le_of_ble_eq_true rfl⟩) hK (va_recv hK.1 hP (ci := 3) (q0 := 0) rfl rfl) rfl hl.1 rfl (Nat.le_of_ble_eq_true rfl) dX3_isMergeable_75 ⟨Nat.zero_le _, Nat.zero_le _⟩ ?_
                refine nr_ifB_eq (tgt := 85) hx hb dX3_isMergeable_78 (by decide) (fun c_78 => ?_) (fun c_78 => ?_)
                · refine lv_iconst (v := (nI (0))) hx hb dX3_isMergeable_85 (by decide +kernel) ?_
                  refine nr_top (y := (bI (isB (gt rs i) (gt rs (i + 1)) 2))) (bI_f (by first | (rw [isB, c_60]; rfl) | (rw [isB, c_60, show alB (gt rs i) (gt rs (i + 1)) (2 * 1) = false from c_65, show onB (gt rs i) (gt rs (i + 1)) (2 * 1) = false from c_78]; rfl))) ?_
                  exact J5 ls (lv_sub hl [0, 1, 2, 3, 4, 5] rfl)
                · refine lv_iconst (v := (nI (1))) hx hb dX3_isMergeable_81 (by decide +kernel) ?_
                  refine lv_goto (tgt := 86) hx hb dX3_isMergeable_82 (by decide) ?_
                  refine nr_top (y := (bI (isB (gt rs i) (gt rs (i + 1)) 2))) (bI_t (by first | (rw [isB, c_60, show alB (gt rs i) (gt rs (i + 1)) (2 * 1) = true from c_65]; rfl) | (rw [isB, c_60, show alB (gt rs i) (gt rs (i + 1)) (2 * 1) = false from c_65, show onB (gt rs i) (gt rs (i + 1)) (2 * 1) = true from c_78]; rfl))) ?_
                  exact J5 ls (lv_sub hl [0, 1, 2, 3, 4, 5] rfl)
        · refine nr_ifB_eq (tgt := 56) hx hb dX3_isMergeable_49 (by decide) (fun c_49 => ?_) (fun c_49 => ?_)
          · refine lv_iconst (v := (nI (1))) hx hb dX3_isMergeable_56 (by decide +kernel) ?_
            refine nr_top (y := (nI (bN (!alB (gt rs i) (gt rs (i + 1)) 2)))) (by rw [c_49]; rfl) ?_
            exact J4 ls (lv_sub hl [0, 1, 2, 3, 4, 5] rfl)
          · refine lv_iconst (v := (nI (0))) hx hb dX3_isMergeable_52 (by decide +kernel) ?_
            refine lv_goto (tgt := 57) hx hb dX3_isMergeable_53 (by decide) ?_
            refine nr_top (y := (nI (bN (!alB (gt rs i) (gt rs (i + 1)) 2)))) (by rw [c_49]; rfl) ?_
            exact J4 ls (lv_sub hl [0, 1, 2, 3, 4, 5] rfl)
      · refine nr_ifB_eq (tgt := 85) hx hb dX3_isMergeable_60 (by decide) (fun c_60 => ?_) (fun c_60 => ?_)
        · refine lv_iconst (v := (nI (0))) hx hb dX3_isMergeable_85 (by decide +kernel) ?_
          refine nr_top (y := (bI (isB (gt rs i) (gt rs (i + 1)) 1))) (bI_f (by first | (rw [isB, c_60]; rfl) | (rw [isB, c_60, show alB (gt rs i) (gt rs (i + 1)) (2 * 0) = false from c_65, show onB (gt rs i) (gt rs (i + 1)) (2 * 0) = false from c_78]; rfl))) ?_
          exact J3 ls (lv_sub hl [0, 1, 2, 3, 4, 5] rfl)
        · refine lv_iload hx hb dX3_isMergeable_63 (lv_at hl 1 rfl) ?_
          refine nr_ifB_ne (tgt := 81) hx hb dX3_isMergeable_65 (by decide) (fun c_65 => ?_) (fun c_65 => ?_)
          · refine lv_iconst (v := (nI (1))) hx hb dX3_isMergeable_81 (by decide +kernel) ?_
            refine lv_goto (tgt := 86) hx hb dX3_isMergeable_82 (by decide) ?_
            refine nr_top (y := (bI (isB (gt rs i) (gt rs (i + 1)) 1))) (bI_t (by first | (rw [isB, c_60, show alB (gt rs i) (gt rs (i + 1)) (2 * 0) = true from c_65]; rfl) | (rw [isB, c_60, show alB (gt rs i) (gt rs (i + 1)) (2 * 0) = false from c_65, show onB (gt rs i) (gt rs (i + 1)) (2 * 0) = true from c_78]; rfl))) ?_
            exact J3 ls (lv_sub hl [0, 1, 2, 3, 4, 5] rfl)
          · refine lv_aload_n hx hb dX3_isMergeable_68 rfl (lv_at hl 4 rfl) ?_
            refine lv_iload_n hx hb dX3_isMergeable_69 rfl (lv_at hl 5 rfl) ?_
            refine lv_iload_n hx hb dX3_isMergeable_70 rfl (lv_at hl 5 rfl) ?_
            refine lv_iconst (v := (nI (1))) hx hb dX3_isMergeable_71 (by decide +kernel) ?_
            refine nr_iadd hx hb dX3_isMergeable_72 ?_
            refine lv_iload hx hb dX3_isMergeable_73 (lv_at hl 2 rfl) ?_
            refine Rd.callV (r := (bI (onB (gt rs (i)) (gt rs (i + 1)) 0))) (As := [.int (nI (i)), .int (nI (i + 1)), .int (nI (0))]) S (k_X3_areOne l hP hf (i := i) (j := i + 1) (w := 0) (by omega) (by omega) (by omega)) (cwV 3 hts gX3_isMergeable_X3_areOne rfl rfl rfl (by decide +kernel) ⟨Nat.le_of_ble_eq_true rfl, Nat.le_of_ble_eq_true rfl⟩) hK (va_recv hK.1 hP (ci := 3) (q0 := 0) rfl rfl) rfl hl.1 rfl (Nat.le_of_ble_eq_true rfl) dX3_isMergeable_75 ⟨Nat.zero_le _, Nat.zero_le _⟩ ?_
            refine nr_ifB_eq (tgt := 85) hx hb dX3_isMergeable_78 (by decide) (fun c_78 => ?_) (fun c_78 => ?_)
            · refine lv_iconst (v := (nI (0))) hx hb dX3_isMergeable_85 (by decide +kernel) ?_
              refine nr_top (y := (bI (isB (gt rs i) (gt rs (i + 1)) 1))) (bI_f (by first | (rw [isB, c_60]; rfl) | (rw [isB, c_60, show alB (gt rs i) (gt rs (i + 1)) (2 * 0) = false from c_65, show onB (gt rs i) (gt rs (i + 1)) (2 * 0) = false from c_78]; rfl))) ?_
              exact J3 ls (lv_sub hl [0, 1, 2, 3, 4, 5] rfl)
            · refine lv_iconst (v := (nI (1))) hx hb dX3_isMergeable_81 (by decide +kernel) ?_
              refine lv_goto (tgt := 86) hx hb dX3_isMergeable_82 (by decide) ?_
              refine nr_top (y := (bI (isB (gt rs i) (gt rs (i + 1)) 1))) (bI_t (by first | (rw [isB, c_60, show alB (gt rs i) (gt rs (i + 1)) (2 * 0) = true from c_65]; rfl) | (rw [isB, c_60, show alB (gt rs i) (gt rs (i + 1)) (2 * 0) = false from c_65, show onB (gt rs i) (gt rs (i + 1)) (2 * 0) = true from c_78]; rfl))) ?_
              exact J3 ls (lv_sub hl [0, 1, 2, 3, 4, 5] rfl)
    · refine nr_ifB_eq (tgt := 56) hx hb dX3_isMergeable_49 (by decide) (fun c_49 => ?_) (fun c_49 => ?_)
      · refine lv_iconst (v := (nI (1))) hx hb dX3_isMergeable_56 (by decide +kernel) ?_
        refine nr_top (y := (nI (bN (!alB (gt rs i) (gt rs (i + 1)) 0)))) (by rw [c_49]; rfl) ?_
        exact J2 ls (lv_sub hl [0, 1, 2, 3, 4, 5] rfl)
      · refine lv_iconst (v := (nI (0))) hx hb dX3_isMergeable_52 (by decide +kernel) ?_
        refine lv_goto (tgt := 57) hx hb dX3_isMergeable_53 (by decide) ?_
        refine nr_top (y := (nI (bN (!alB (gt rs i) (gt rs (i + 1)) 0)))) (by rw [c_49]; rfl) ?_
        exact J2 ls (lv_sub hl [0, 1, 2, 3, 4, 5] rfl)
  · refine nr_icmp_ne (tgt := 23) hx hb (Nat.lt_trans (bN_lt _) (by decide)) (Nat.lt_trans (bN_lt _) (by decide)) dX3_isMergeable_16 (by decide) (fun c_16 => ?_) (fun c_16 => ?_)
    · refine lv_iconst (v := (nI (0))) hx hb dX3_isMergeable_23 (by decide +kernel) ?_
      refine nr_top (y := (bI (isB (gt rs i) (gt rs (i + 1)) 0))) (bI_f (decide_eq_false c_16)) ?_
      exact J1 ls (lv_sub hl [0, 1, 2] rfl)
    · refine lv_iconst (v := (nI (1))) hx hb dX3_isMergeable_19 (by decide +kernel) ?_
      refine lv_goto (tgt := 24) hx hb dX3_isMergeable_20 (by decide) ?_
      refine nr_top (y := (bI (isB (gt rs i) (gt rs (i + 1)) 0))) (bI_t (decide_eq_true c_16)) ?_
      exact J1 ls (lv_sub hl [0, 1, 2] rfl)
