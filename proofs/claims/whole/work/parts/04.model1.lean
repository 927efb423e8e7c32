/-! the reference's methods that only read -/
abbrev wM (Y : Nat → ClassId) (A : Nat → Nat) (th n mi ju lo : Int32) (f bf ca bg sz : Nat → Int32) : va_W := [(A 0, .inr (3, [.int th, .int n, .ref (A 1), .int mi, .int ju, .int lo, .ref (A 2), .ref (A 3), .ref (A 4), .ref (A 5)])), (A 1, .inl (Y 0, 112, .inl f)), (A 2, .inl (Y 0, 128, .inl bf)), (A 3, .inl (Y 0, 7, .inl ca)), (A 4, .inl (Y 0, 24, .inl bg)), (A 5, .inl (Y 0, 24, .inl sz))]
def rvI (r : RV) (w : Nat) : Int32 := match w with
  | 0 => nI (sF r)
  | 1 => nI (sT r)
  | 2 => nI (dF r)
  | 3 => nI (dT r)
  | 4 => nI (pR r)
  | 5 => nI (bN (pM r))
  | _ => hT r
def mrep (rs : List RV) (f : Nat → Int32) : Prop := rsOk rs ∧ ∀ i, i < rs.length → ∀ w, w < 7 → f (7 * i + w) = rvI (gt rs i) w

set_option maxHeartbeats 4000000 in
set_option maxRecDepth 100000 in
theorem k_X3_of (l : Launch) {D : va_G} {Y : Nat → ClassId} {H : Heap} {A : Nat → Nat} {th mi ju lo : Int32} {f bf ca bg sz : Nat → Int32} {rs : List RV}  (hP : va_P D aCl (wM Y A (th) (nI (rs.length)) (mi) (ju) (lo) f bf ca bg sz) H) {i w : Nat} (hw : (7 * i) + w < 112) : Rd l yX3_of wsX3_of 1 D Y [.ref (A 0), .int (nI (i)), .int (nI (w))] H (f ((7 * i) + w)) := by
  refine Rd.start (cc := cX3_of) (maxL := 3) (rt := .int) (by decide) rfl (Nat.le_of_ble_eq_true rfl) ?_
  intro p e s m args below meth c ls Q S hK hl hE
  have S : CallFix p m c cX3_of 3 s args wsX3_of RX3 := S
  have hx := S.1
  have hb := S.2.1
  have hts := S.2.2.2.2
  have hl : lv_has ls 3 [(0, .ref (A 0)), (1, .int (nI (i))), (2, .int (nI (w)))] := hl
  refine lv_aload_n hx hb dX3_of_0 rfl (lv_at hl 0 rfl) ?_
  refine nr_get (C := RX3) (T := TX3) (N := 10) (ci := 3) S (fun _ h => List.mem_cons_of_mem _ (List.mem_append_right _ (h))) hK hP 0 rfl rfl 2 (by decide) (List.mem_of_getElem? (i := 1) rfl) rfl dX3_of_1 ?_
  refine lv_bipush (v := (nI (7))) hx hb dX3_of_4 (by decide +kernel) ?_
  refine lv_iload_n hx hb dX3_of_6 rfl (lv_at hl 1 rfl) ?_
  refine nr_imul hx hb dX3_of_7 ?_
  refine lv_iload_n hx hb dX3_of_8 rfl (lv_at hl 2 rfl) ?_
  refine nr_iadd hx hb dX3_of_9 ?_
  refine nr_iald (n := 112) (f := f) S hK hP 1 rfl (by omega) (by decide) dX3_of_10 ?_
  exact hE _ _ _ dX3_of_11 (vp_nar_int _) (rfl)
theorem k_ofR (l : Launch) {D : va_G} {Y : Nat → ClassId} {H : Heap} {A : Nat → Nat} {th mi ju lo : Int32} {f bf ca bg sz : Nat → Int32} {rs : List RV} (hP : va_P D aCl (wM Y A (th) (nI (rs.length)) (mi) (ju) (lo) f bf ca bg sz) H) (hf : mrep rs f) {i w : Nat} (hi : i < rs.length) (hw : w < 7) : Rd l yX3_of wsX3_of 1 D Y [.ref (A 0), .int (nI i), .int (nI w)] H (rvI (gt rs i) w) := by
  have h := hf.1.1
  rw [← hf.2 i hi w hw]
  exact k_X3_of l hP (by omega)
set_option maxHeartbeats 4000000 in
set_option maxRecDepth 100000 in
theorem k_X3_in (l : Launch) {D : va_G} {Y : Nat → ClassId} {H : Heap} (v a b : Int32) : Rd l yX3_in wsX3_in 0 D Y [.int (v), .int (a), .int (b)] H (bI (inI v a b)) := by
  refine Rd.start (cc := cX3_in) (maxL := 3) (rt := .boolean) (by decide) rfl (Nat.le_of_ble_eq_true rfl) ?_
  intro p e s m args below meth c ls Q S hK hl hE
  have S : CallFix p m c cX3_in 3 s args wsX3_in RX3 := S
  have hx := S.1
  have hb := S.2.1
  have hts := S.2.2.2.2
  have hl : lv_has ls 3 [(0, .int (v)), (1, .int (a)), (2, .int (b))] := hl
  refine lv_iload_n hx hb dX3_in_0 rfl (lv_at hl 0 rfl) ?_
  refine lv_iload_n hx hb dX3_in_1 rfl (lv_at hl 1 rfl) ?_
  refine lv_icmp_lt (tgt := 14) hx hb dX3_in_2 (by decide) (fun c_2 => ?_) (fun c_2 => ?_)
  · refine lv_iconst (v := (nI (0))) hx hb dX3_in_14 (by decide +kernel) ?_
    exact hE _ _ _ dX3_in_15 (rfl) (bI_f (by first | exact inI_f1 c_2 | exact inI_f2 c_7))
  · refine lv_iload_n hx hb dX3_in_5 rfl (lv_at hl 0 rfl) ?_
    refine lv_iload_n hx hb dX3_in_6 rfl (lv_at hl 2 rfl) ?_
    refine lv_icmp_gt (tgt := 14) hx hb dX3_in_7 (by decide) (fun c_7 => ?_) (fun c_7 => ?_)
    · refine lv_iconst (v := (nI (0))) hx hb dX3_in_14 (by decide +kernel) ?_
      exact hE _ _ _ dX3_in_15 (rfl) (bI_f (by first | exact inI_f1 c_2 | exact inI_f2 c_7))
    · refine lv_iconst (v := (nI (1))) hx hb dX3_in_10 (by decide +kernel) ?_
      refine lv_goto (tgt := 15) hx hb dX3_in_11 (by decide) ?_
      exact hE _ _ _ dX3_in_15 (rfl) (bI_t (inI_t c_2 c_7))
theorem k_inN (l : Launch) {D : va_G} {Y : Nat → ClassId} {H : Heap} {v a b : Nat} (hv : v < 2 ^ 31) (ha : a < 2 ^ 31) (hb : b < 2 ^ 31) : Rd l yX3_in wsX3_in 0 D Y [.int (nI v), .int (nI a), .int (nI b)] H (bI (inN v a b)) := by
  rw [← inI_nI hv ha hb]
  exact k_X3_in l _ _ _
def plI (pl : Int32) (n : Nat) : Bool := inI pl (nI 0) (nI n - nI 1)
set_option maxHeartbeats 4000000 in
set_option maxRecDepth 100000 in
theorem k_X3_isPlace (l : Launch) {D : va_G} {Y : Nat → ClassId} {H : Heap} {A : Nat → Nat} {th mi ju lo : Int32} {f bf ca bg sz : Nat → Int32} {rs : List RV}  (hP : va_P D aCl (wM Y A (th) (nI (rs.length)) (mi) (ju) (lo) f bf ca bg sz) H) {pl : Int32} : Rd l yX3_isPlace wsX3_isPlace 1 D Y [.ref (A 0), .int (pl)] H (bI (plI pl rs.length)) := by
  refine Rd.start (cc := cX3_isPlace) (maxL := 2) (rt := .boolean) (by decide) rfl (Nat.le_of_ble_eq_true rfl) ?_
  intro p e s m args below meth c ls Q S hK hl hE
  have S : CallFix p m c cX3_isPlace 2 s args wsX3_isPlace RX3 := S
  have hx := S.1
  have hb := S.2.1
  have hts := S.2.2.2.2
  have hl : lv_has ls 2 [(0, .ref (A 0)), (1, .int (pl))] := hl
  refine lv_iload_n hx hb dX3_isPlace_0 rfl (lv_at hl 1 rfl) ?_
  refine lv_iconst (v := (nI (0))) hx hb dX3_isPlace_1 (by decide +kernel) ?_
  refine lv_aload_n hx hb dX3_isPlace_2 rfl (lv_at hl 0 rfl) ?_
  refine nr_get (C := RX3) (T := TX3) (N := 10) (ci := 3) S (fun _ h => List.mem_cons_of_mem _ (List.mem_append_right _ (h))) hK hP 0 rfl rfl 1 (by decide) (List.mem_of_getElem? (i := 1) rfl) rfl dX3_isPlace_3 ?_
  refine lv_iconst (v := (nI (1))) hx hb dX3_isPlace_6 (by decide +kernel) ?_
  refine lv_isub hx hb dX3_isPlace_7 ?_
  refine Rd.callS (r := (bI (inI (pl) (nI (0)) (((nI (rs.length)) - (nI (1))))))) (As := [.int (pl), .int (nI (0)), .int (((nI (rs.length)) - (nI (1))))]) S (k_X3_in l (pl) (nI (0)) (((nI (rs.length)) - (nI (1))))) (va_cwS 3 hts gX3_isPlace_X3_in rfl rfl rfl (by decide +kernel) ⟨Nat.le_of_ble_eq_true rfl, Nat.le_of_ble_eq_true rfl⟩) hK rfl hl.1 rfl (Nat.le_of_ble_eq_true rfl) dX3_isPlace_8 ⟨Nat.zero_le _, Nat.zero_le _⟩ ?_
  exact hE _ _ _ dX3_isPlace_11 (bI_nar _) (rfl)
theorem popI_0 : popI 0 = 0 := by decide +kernel
theorem popI_kern {x : Int32} (h : ¬ x = 0) : popI (x &&& (x - nI 1)) + 1 = popI x := by sorry
set_option maxHeartbeats 4000000 in
set_option maxRecDepth 100000 in
theorem k_X3_many (l : Launch) {D : va_G} {Y : Nat → ClassId} {H : Heap} (x0 : Int32) : Rd l yX3_many wsX3_many 0 D Y [.int (x0)] H (nI (popI x0)) := by
  refine Rd.start (cc := cX3_many) (maxL := 3) (rt := .int) (by decide) rfl (Nat.le_of_ble_eq_true rfl) ?_
  intro p e s m args below meth c ls Q S hK hl hE
  have S : CallFix p m c cX3_many 3 s args wsX3_many RX3 := S
  have hx := S.1
  have hb := S.2.1
  have hts := S.2.2.2.2
  have hl : lv_has ls 3 [(0, .int (x0))] := hl
  refine lv_iconst (v := (nI (0))) hx hb dX3_many_0 (by decide +kernel) ?_
  refine lv_istore_n (lv' := [(1, .int (nI (0))), (0, .int (x0))]) hx hb dX3_many_1 rfl hl (by decide) rfl (fun ls hl => ?_)
  refine lv_iload_n hx hb dX3_many_2 rfl (lv_at hl 1 rfl) ?_
  refine lv_istore_n (lv' := [(2, .int (x0)), (1, .int (nI (0))), (0, .int (x0))]) hx hb dX3_many_3 rfl hl (by decide) rfl (fun ls hl => ?_)
  have loop_4 : ∀ (k : Nat) (n : Nat) (x : Int32), n + popI x = popI x0 → n ≤ 32 → 32 - n < k → ∀ ls : Array Slot, lv_has ls 3 [(2, .int (x)), (1, .int (nI (n))), (0, .int (x0))] → W p l e (rmN 0) s m args below meth c H [] 0 0 Q (F0 m 4 ls []) := by
    intro k
    induction k with
    | zero => exact fun n x _ _ hk => absurd hk (Nat.not_lt_zero _)
    | succ k ih =>
      intro n x h1 h2 hk ls hl
      refine lv_iload_n hx hb dX3_many_4 rfl (lv_at hl 0 rfl) ?_
      refine lv_if_eq (tgt := 20) hx hb dX3_many_5 (by decide) (fun c_5 => ?_) (fun c_5 => ?_)
      · refine lv_iload_n hx hb dX3_many_20 rfl (lv_at hl 1 rfl) ?_
        exact hE _ _ _ dX3_many_21 (vp_nar_int _) (by rw [c_5, popI_0] at h1; rw [← h1]; rfl)
      · refine lv_iinc (v := (nI (n + 1))) (lv' := [(1, .int (nI (n + 1))), (2, .int (x)), (0, .int (x0))]) hx hb dX3_many_8 hl (k := 1) rfl (nI_add _ _) (by decide) rfl (fun ls hl => ?_)
        refine lv_iload_n hx hb dX3_many_11 rfl (lv_at hl 1 rfl) ?_
        refine lv_iload_n hx hb dX3_many_12 rfl (lv_at hl 1 rfl) ?_
        refine lv_iconst (v := (nI (1))) hx hb dX3_many_13 (by decide +kernel) ?_
        refine lv_isub hx hb dX3_many_14 ?_
        refine lv_iand hx hb dX3_many_15 ?_
        refine lv_istore_n (lv' := [(2, .int (((x) &&& (((x) - (nI (1))))))), (1, .int (nI (n + 1))), (0, .int (x0))]) hx hb dX3_many_16 rfl hl (by decide) rfl (fun ls hl => ?_)
        refine lv_goto (tgt := 4) hx hb dX3_many_17 (by decide) ?_
        exact ih (n + 1) ((((x) &&& (((x) - (nI (1))))))) (by have := popI_kern c_5; omega) (by have := popI_kern c_5; have := popI_le x0; omega) (by have := popI_kern c_5; have := popI_le x0; omega) ls (lv_sub hl [0, 1, 2] rfl)
  exact loop_4 _ (0) ((x0)) ((Nat.zero_add _)) (by omega) (Nat.lt_succ_self _) ls (lv_sub hl [0, 1, 2] rfl)
set_option maxHeartbeats 4000000 in
set_option maxRecDepth 100000 in
theorem k_X3_matches (l : Launch) {D : va_G} {Y : Nat → ClassId} {H : Heap} {A : Nat → Nat} {th mi ju lo : Int32} {f bf ca bg sz : Nat → Int32} {rs : List RV}  (hP : va_P D aCl (wM Y A (th) (nI (rs.length)) (mi) (ju) (lo) f bf ca bg sz) H) (hf : mrep rs f) {i s0 p0 : Nat} (hi : i < rs.length) (hs : s0 < 32) (hp : p0 < 4) : Rd l yX3_matches wsX3_matches 3 D Y [.ref (A 0), .int (nI (i)), .int (nI (s0)), .int (nI (p0))] H (mtI (gt rs i) s0 p0) := by
  refine Rd.start (cc := cX3_matches) (maxL := 5) (rt := .int) (by decide) rfl (Nat.le_of_ble_eq_true rfl) ?_
  intro p e s m args below meth c ls Q S hK hl hE
  have S : CallFix p m c cX3_matches 5 s args wsX3_matches RX3 := S
  have hx := S.1
  have hb := S.2.1
  have hts := S.2.2.2.2
  have hl : lv_has ls 5 [(0, .ref (A 0)), (1, .int (nI (i))), (2, .int (nI (s0))), (3, .int (nI (p0)))] := hl
  have ho := hf.1.2 i hi
  have hn := hf.1.1
  unfold rvOk at ho
  refine lv_iload_n hx hb dX3_matches_0 rfl (lv_at hl 2 rfl) ?_
  refine lv_aload_n hx hb dX3_matches_1 rfl (lv_at hl 0 rfl) ?_
  refine lv_iload_n hx hb dX3_matches_2 rfl (lv_at hl 1 rfl) ?_
  refine lv_iconst (v := (nI (0))) hx hb dX3_matches_3 (by decide +kernel) ?_
  refine Rd.callV (r := (nI (sF (gt rs (i))))) (As := [.int (nI (i)), .int (nI (0))]) S (k_ofR l hP hf (i := i) (w := 0) (by omega) (by omega)) (cwV 2 hts gX3_matches_X3_of rfl rfl rfl (by decide +kernel) ⟨Nat.le_of_ble_eq_true rfl, Nat.le_of_ble_eq_true rfl⟩) hK (va_recv hK.1 hP (ci := 3) (q0 := 0) rfl rfl) rfl hl.1 rfl (Nat.le_of_ble_eq_true rfl) dX3_matches_4 ⟨Nat.zero_le _, Nat.zero_le _⟩ ?_
  refine lv_aload_n hx hb dX3_matches_7 rfl (lv_at hl 0 rfl) ?_
  refine lv_iload_n hx hb dX3_matches_8 rfl (lv_at hl 1 rfl) ?_
  refine lv_iconst (v := (nI (1))) hx hb dX3_matches_9 (by decide +kernel) ?_
  refine Rd.callV (r := (nI (sT (gt rs (i))))) (As := [.int (nI (i)), .int (nI (1))]) S (k_ofR l hP hf (i := i) (w := 1) (by omega) (by omega)) (cwV 2 hts gX3_matches_X3_of rfl rfl rfl (by decide +kernel) ⟨Nat.le_of_ble_eq_true rfl, Nat.le_of_ble_eq_true rfl⟩) hK (va_recv hK.1 hP (ci := 3) (q0 := 0) rfl rfl) rfl hl.1 rfl (Nat.le_of_ble_eq_true rfl) dX3_matches_10 ⟨Nat.zero_le _, Nat.zero_le _⟩ ?_
  refine Rd.callS (r := (bI (inN (s0) (sF (gt rs (i))) (sT (gt rs (i)))))) (As := [.int (nI (s0)), .int (nI (sF (gt rs (i)))), .int (nI (sT (gt rs (i))))]) S (k_inN l (v := s0) (a := sF (gt rs (i))) (b := sT (gt rs (i))) (by omega) (by omega) (by omega)) (va_cwS 3 hts gX3_matches_X3_in rfl rfl rfl (by decide +kernel) ⟨Nat.le_of_ble_eq_true rfl, Nat.le_of_ble_eq_true rfl⟩) hK rfl hl.1 rfl (Nat.le_of_ble_eq_true rfl) dX3_matches_13 ⟨Nat.zero_le _, Nat.zero_le _⟩ ?_
  refine nr_ifB_eq (tgt := 37) hx hb dX3_matches_16 (by decide) (fun c_16 => ?_) (fun c_16 => ?_)
  · refine lv_iconst (v := (nI (0))) hx hb dX3_matches_37 (by decide +kernel) ?_
    refine lv_istore (lv' := [(4, .int (nI (0))), (0, .ref (A 0)), (1, .int (nI (i))), (2, .int (nI (s0))), (3, .int (nI (p0)))]) hx hb dX3_matches_38 hl (by decide) rfl (fun ls hl => ?_)
    refine lv_iload hx hb dX3_matches_40 (lv_at hl 0 rfl) ?_
    refine nr_if_eq (tgt := 68) hx hb (by omega) dX3_matches_42 (by decide) (fun c_42 => ?_) (fun c_42 => absurd c_42 (by decide))
    refine lv_iconst (v := (nI (0))) hx hb dX3_matches_68 (by decide +kernel) ?_
    exact hE _ _ _ dX3_matches_69 (vp_nar_int _) ((mtI_f (by first | exact con_f1 c_16 | exact con_f2 c_30)).symm)
  · refine lv_aload_n hx hb dX3_matches_19 rfl (lv_at hl 0 rfl) ?_
    refine lv_iload_n hx hb dX3_matches_20 rfl (lv_at hl 1 rfl) ?_
    refine lv_iconst (v := (nI (4))) hx hb dX3_matches_21 (by decide +kernel) ?_
    refine Rd.callV (r := (nI (pR (gt rs (i))))) (As := [.int (nI (i)), .int (nI (4))]) S (k_ofR l hP hf (i := i) (w := 4) (by omega) (by omega)) (cwV 2 hts gX3_matches_X3_of rfl rfl rfl (by decide +kernel) ⟨Nat.le_of_ble_eq_true rfl, Nat.le_of_ble_eq_true rfl⟩) hK (va_recv hK.1 hP (ci := 3) (q0 := 0) rfl rfl) rfl hl.1 rfl (Nat.le_of_ble_eq_true rfl) dX3_matches_22 ⟨Nat.zero_le _, Nat.zero_le _⟩ ?_
    refine lv_iload_n hx hb dX3_matches_25 rfl (lv_at hl 3 rfl) ?_
    refine lv_ishr hx hb dX3_matches_26 ?_
    refine lv_iconst (v := (nI (1))) hx hb dX3_matches_27 (by decide +kernel) ?_
    refine lv_iand hx hb dX3_matches_28 ?_
    refine lv_iconst (v := (nI (1))) hx hb dX3_matches_29 (by decide +kernel) ?_
    refine lv_icmp_ne (tgt := 37) hx hb dX3_matches_30 (by decide) (fun c_30 => ?_) (fun c_30 => ?_)
    · refine lv_iconst (v := (nI (0))) hx hb dX3_matches_37 (by decide +kernel) ?_
      refine lv_istore (lv' := [(4, .int (nI (0))), (0, .ref (A 0)), (1, .int (nI (i))), (2, .int (nI (s0))), (3, .int (nI (p0)))]) hx hb dX3_matches_38 hl (by decide) rfl (fun ls hl => ?_)
      refine lv_iload hx hb dX3_matches_40 (lv_at hl 0 rfl) ?_
      refine nr_if_eq (tgt := 68) hx hb (by omega) dX3_matches_42 (by decide) (fun c_42 => ?_) (fun c_42 => absurd c_42 (by decide))
      refine lv_iconst (v := (nI (0))) hx hb dX3_matches_68 (by decide +kernel) ?_
      exact hE _ _ _ dX3_matches_69 (vp_nar_int _) ((mtI_f (by first | exact con_f1 c_16 | exact con_f2 c_30)).symm)
    · refine lv_iconst (v := (nI (1))) hx hb dX3_matches_33 (by decide +kernel) ?_
      refine lv_goto (tgt := 38) hx hb dX3_matches_34 (by decide) ?_
      refine lv_istore (lv' := [(4, .int (nI (1))), (0, .ref (A 0)), (1, .int (nI (i))), (2, .int (nI (s0))), (3, .int (nI (p0)))]) hx hb dX3_matches_38 hl (by decide) rfl (fun ls hl => ?_)
      refine lv_iload hx hb dX3_matches_40 (lv_at hl 0 rfl) ?_
      refine nr_if_eq (tgt := 68) hx hb (by omega) dX3_matches_42 (by decide) (fun c_42 => absurd c_42 (by decide)) (fun c_42 => ?_)
      refine lv_iconst (v := ((-1 : Int32))) hx hb dX3_matches_45 (by decide +kernel) ?_
      refine lv_aload_n hx hb dX3_matches_46 rfl (lv_at hl 1 rfl) ?_
      refine lv_iload_n hx hb dX3_matches_47 rfl (lv_at hl 2 rfl) ?_
      refine lv_iconst (v := (nI (2))) hx hb dX3_matches_48 (by decide +kernel) ?_
      refine Rd.callV (r := (nI (dF (gt rs (i))))) (As := [.int (nI (i)), .int (nI (2))]) S (k_ofR l hP hf (i := i) (w := 2) (by omega) (by omega)) (cwV 2 hts gX3_matches_X3_of rfl rfl rfl (by decide +kernel) ⟨Nat.le_of_ble_eq_true rfl, Nat.le_of_ble_eq_true rfl⟩) hK (va_recv hK.1 hP (ci := 3) (q0 := 0) rfl rfl) rfl hl.1 rfl (Nat.le_of_ble_eq_true rfl) dX3_matches_49 ⟨Nat.zero_le _, Nat.zero_le _⟩ ?_
      refine lv_ishl hx hb dX3_matches_52 ?_
      refine lv_iconst (v := ((-1 : Int32))) hx hb dX3_matches_53 (by decide +kernel) ?_
      refine lv_bipush (v := (nI (31))) hx hb dX3_matches_54 (by decide +kernel) ?_
      refine lv_aload_n hx hb dX3_matches_56 rfl (lv_at hl 1 rfl) ?_
      refine lv_iload_n hx hb dX3_matches_57 rfl (lv_at hl 2 rfl) ?_
      refine lv_iconst (v := (nI (3))) hx hb dX3_matches_58 (by decide +kernel) ?_
      refine Rd.callV (r := (nI (dT (gt rs (i))))) (As := [.int (nI (i)), .int (nI (3))]) S (k_ofR l hP hf (i := i) (w := 3) (by omega) (by omega)) (cwV 2 hts gX3_matches_X3_of rfl rfl rfl (by decide +kernel) ⟨Nat.le_of_ble_eq_true rfl, Nat.le_of_ble_eq_true rfl⟩) hK (va_recv hK.1 hP (ci := 3) (q0 := 0) rfl rfl) rfl hl.1 rfl (Nat.le_of_ble_eq_true rfl) dX3_matches_59 ⟨Nat.zero_le _, Nat.zero_le _⟩ ?_
      refine nr_isub hx hb (by omega) dX3_matches_62 ?_
      refine lv_iushr hx hb dX3_matches_63 rfl ?_
      refine lv_iand hx hb dX3_matches_64 ?_
      refine lv_goto (tgt := 69) hx hb dX3_matches_65 (by decide) ?_
      exact hE _ _ _ dX3_matches_69 (vp_nar_int _) ((mtI_t (con_t c_16 c_30)).symm)
set_option maxHeartbeats 4000000 in
set_option maxRecDepth 100000 in
theorem k_X3_permittedOf (l : Launch) {D : va_G} {Y : Nat → ClassId} {H : Heap} {A : Nat → Nat} {th mi ju lo : Int32} {f bf ca bg sz : Nat → Int32} {rs : List RV}  (hP : va_P D aCl (wM Y A (th) (nI (rs.length)) (mi) (ju) (lo) f bf ca bg sz) H) (hf : mrep rs f) {s0 p0 : Nat} (hs : s0 < 32) (hp : p0 < 4) {wo : Int32} : Rd l yX3_permittedOf wsX3_permittedOf 4 D Y [.ref (A 0), .int (nI (s0)), .int (nI (p0)), .int (wo)] H (pmI rs s0 p0 wo) := by
  refine Rd.start (cc := cX3_permittedOf) (maxL := 8) (rt := .int) (by decide) rfl (Nat.le_of_ble_eq_true rfl) ?_
  intro p e s m args below meth c ls Q S hK hl hE
  have S : CallFix p m c cX3_permittedOf 8 s args wsX3_permittedOf RX3 := S
  have hx := S.1
  have hb := S.2.1
  have hts := S.2.2.2.2
  have hl : lv_has ls 8 [(0, .ref (A 0)), (1, .int (nI (s0))), (2, .int (nI (p0))), (3, .int (wo))] := hl
  have hn := hf.1.1
  refine lv_iconst (v := ((-1 : Int32))) hx hb dX3_permittedOf_0 (by decide +kernel) ?_
  refine lv_istore (lv' := [(4, .int ((-1 : Int32))), (0, .ref (A 0)), (1, .int (nI (s0))), (2, .int (nI (p0))), (3, .int (wo))]) hx hb dX3_permittedOf_1 hl (by decide) rfl (fun ls hl => ?_)
  refine lv_iconst (v := (nI (0))) hx hb dX3_permittedOf_3 (by decide +kernel) ?_
  refine lv_istore (lv' := [(5, .int (nI (0))), (4, .int ((-1 : Int32))), (0, .ref (A 0)), (1, .int (nI (s0))), (2, .int (nI (p0))), (3, .int (wo))]) hx hb dX3_permittedOf_4 hl (by decide) rfl (fun ls hl => ?_)
  refine lv_iconst (v := (nI (0))) hx hb dX3_permittedOf_6 (by decide +kernel) ?_
  refine lv_istore (lv' := [(6, .int (nI (0))), (5, .int (nI (0))), (4, .int ((-1 : Int32))), (0, .ref (A 0)), (1, .int (nI (s0))), (2, .int (nI (p0))), (3, .int (wo))]) hx hb dX3_permittedOf_7 hl (by decide) rfl (fun ls hl => ?_)
  have loop_9 : ∀ (k : Nat) (i : Nat) (op : Int32) (ac : Int32), i ≤ rs.length → op = (pmN rs s0 p0 wo i).1 → ac = (pmN rs s0 p0 wo i).2 → rs.length - i < k → ∀ ls : Array Slot, lv_has ls 8 [(6, .int (nI (i))), (5, .int (ac)), (4, .int (op)), (0, .ref (A 0)), (1, .int (nI (s0))), (2, .int (nI (p0))), (3, .int (wo))] → W p l e (rmN 4) s m args below meth c H [] 0 0 Q (F0 m 9 ls []) := by
    intro k
    induction k with
    | zero => exact fun i op ac _ _ _ hk => absurd hk (Nat.not_lt_zero _)
    | succ k ih =>
      intro i op ac h1 h2 h3 hk ls hl
      refine lv_iload hx hb dX3_permittedOf_9 (lv_at hl 0 rfl) ?_
      refine lv_aload_n hx hb dX3_permittedOf_11 rfl (lv_at hl 3 rfl) ?_
      refine nr_get (C := RX3) (T := TX3) (N := 10) (ci := 3) S (fun _ h => List.mem_cons_of_mem _ (List.mem_append_right _ (h))) hK hP 0 rfl rfl 1 (by decide) (List.mem_of_getElem? (i := 1) rfl) rfl dX3_permittedOf_12 ?_
      refine nr_icmp_ge (tgt := 83) hx hb (by omega) (by omega) dX3_permittedOf_15 (by decide) (fun c_15 => ?_) (fun c_15 => ?_)
      · refine lv_iload hx hb dX3_permittedOf_83 (lv_at hl 1 rfl) ?_
        exact hE _ _ _ dX3_permittedOf_85 (vp_nar_int _) (by first | exact pmI_end h1 c_15 h3 | exact h3.trans (pmI_done (h2.symm.trans c_20) h1).symm)
      · refine lv_iload hx hb dX3_permittedOf_18 (lv_at hl 2 rfl) ?_
        refine lv_if_eq (tgt := 83) hx hb dX3_permittedOf_20 (by decide) (fun c_20 => ?_) (fun c_20 => ?_)
        · refine lv_iload hx hb dX3_permittedOf_83 (lv_at hl 1 rfl) ?_
          exact hE _ _ _ dX3_permittedOf_85 (vp_nar_int _) (by first | exact pmI_end h1 c_15 h3 | exact h3.trans (pmI_done (h2.symm.trans c_20) h1).symm)
        · refine lv_iload hx hb dX3_permittedOf_23 (lv_at hl 0 rfl) ?_
          refine lv_iload_n hx hb dX3_permittedOf_25 rfl (lv_at hl 6 rfl) ?_
          refine lv_icmp_ne (tgt := 33) hx hb dX3_permittedOf_26 (by decide) (fun c_26 => ?_) (fun c_26 => ?_)
          · refine lv_aload_n hx hb dX3_permittedOf_33 rfl (lv_at hl 3 rfl) ?_
            refine lv_iload hx hb dX3_permittedOf_34 (lv_at hl 0 rfl) ?_
            refine lv_iload_n hx hb dX3_permittedOf_36 rfl (lv_at hl 4 rfl) ?_
            refine lv_iload_n hx hb dX3_permittedOf_37 rfl (lv_at hl 5 rfl) ?_
            refine Rd.callV (r := (mtI (gt rs (i)) (s0) (p0))) (As := [.int (nI (i)), .int (nI (s0)), .int (nI (p0))]) S (k_X3_matches l hP hf (i := i) (s0 := s0) (p0 := p0) (by omega) (by omega) (by omega)) (cwV 3 hts gX3_permittedOf_X3_matches rfl rfl rfl (by decide +kernel) ⟨Nat.le_of_ble_eq_true rfl, Nat.le_of_ble_eq_true rfl⟩) hK (va_recv hK.1 hP (ci := 3) (q0 := 0) rfl rfl) rfl hl.1 rfl (Nat.le_of_ble_eq_true rfl) dX3_permittedOf_38 ⟨Nat.zero_le _, Nat.zero_le _⟩ ?_
            refine lv_iload hx hb dX3_permittedOf_41 (lv_at hl 2 rfl) ?_
            refine lv_iand hx hb dX3_permittedOf_43 ?_
            refine lv_istore (lv' := [(7, .int (((mtI (gt rs (i)) (s0) (p0)) &&& (op)))), (6, .int (nI (i))), (5, .int (ac)), (4, .int (op)), (0, .ref (A 0)), (1, .int (nI (s0))), (2, .int (nI (p0))), (3, .int (wo))]) hx hb dX3_permittedOf_44 hl (by decide) rfl (fun ls hl => ?_)
            refine lv_iload hx hb dX3_permittedOf_46 (lv_at hl 2 rfl) ?_
            refine lv_aload_n hx hb dX3_permittedOf_48 rfl (lv_at hl 4 rfl) ?_
            refine lv_iload hx hb dX3_permittedOf_49 (lv_at hl 1 rfl) ?_
            refine lv_iconst (v := (nI (5))) hx hb dX3_permittedOf_51 (by decide +kernel) ?_
            refine Rd.callV (r := (nI (bN (pM (gt rs (i)))))) (As := [.int (nI (i)), .int (nI (5))]) S (k_ofR l hP hf (i := i) (w := 5) (by omega) (by omega)) (cwV 2 hts gX3_permittedOf_X3_of rfl rfl rfl (by decide +kernel) ⟨Nat.le_of_ble_eq_true rfl, Nat.le_of_ble_eq_true rfl⟩) hK (va_recv hK.1 hP (ci := 3) (q0 := 0) rfl rfl) rfl hl.1 rfl (Nat.le_of_ble_eq_true rfl) dX3_permittedOf_52 ⟨Nat.zero_le _, Nat.zero_le _⟩ ?_
            refine lv_iconst (v := (nI (1))) hx hb dX3_permittedOf_55 (by decide +kernel) ?_
            refine nr_icmp_ne (tgt := 64) hx hb (Nat.lt_trans (bN_lt _) (by decide)) (by decide) dX3_permittedOf_56 (by decide) (fun c_56 => ?_) (fun c_56 => ?_)
            · refine lv_iconst (v := (nI (0))) hx hb dX3_permittedOf_64 (by decide +kernel) ?_
              refine lv_ior hx hb dX3_permittedOf_65 ?_
              refine lv_istore (lv' := [(5, .int (((ac) ||| (nI (0))))), (7, .int (((mtI (gt rs (i)) (s0) (p0)) &&& (op)))), (6, .int (nI (i))), (4, .int (op)), (0, .ref (A 0)), (1, .int (nI (s0))), (2, .int (nI (p0))), (3, .int (wo))]) hx hb dX3_permittedOf_66 hl (by decide) rfl (fun ls hl => ?_)
              refine lv_iload hx hb dX3_permittedOf_68 (lv_at hl 3 rfl) ?_
              refine lv_iload hx hb dX3_permittedOf_70 (lv_at hl 1 rfl) ?_
              refine lv_iconst (v := ((-1 : Int32))) hx hb dX3_permittedOf_72 (by decide +kernel) ?_
              refine lv_ixor hx hb dX3_permittedOf_73 ?_
              refine lv_iand hx hb dX3_permittedOf_74 ?_
              refine lv_istore (lv' := [(4, .int (((op) &&& (((((mtI (gt rs (i)) (s0) (p0)) &&& (op))) ^^^ ((-1 : Int32))))))), (5, .int (((ac) ||| (nI (0))))), (7, .int (((mtI (gt rs (i)) (s0) (p0)) &&& (op)))), (6, .int (nI (i))), (0, .ref (A 0)), (1, .int (nI (s0))), (2, .int (nI (p0))), (3, .int (wo))]) hx hb dX3_permittedOf_75 hl (by decide) rfl (fun ls hl => ?_)
              refine lv_iinc (v := (nI (i + 1))) (lv' := [(6, .int (nI (i + 1))), (4, .int (((op) &&& (((((mtI (gt rs (i)) (s0) (p0)) &&& (op))) ^^^ ((-1 : Int32))))))), (5, .int (((ac) ||| (nI (0))))), (7, .int (((mtI (gt rs (i)) (s0) (p0)) &&& (op)))), (0, .ref (A 0)), (1, .int (nI (s0))), (2, .int (nI (p0))), (3, .int (wo))]) hx hb dX3_permittedOf_77 hl (k := 3) rfl (nI_add _ _) (by decide) rfl (fun ls hl => ?_)
              refine lv_goto (tgt := 9) hx hb dX3_permittedOf_80 (by decide) ?_
              exact ih (i + 1) ((((op) &&& (((((mtI (gt rs (i)) (s0) (p0)) &&& (op))) ^^^ ((-1 : Int32))))))) ((((ac) ||| (nI (0))))) (by omega) (by first | (rw [pmN_e c_26, ← h2]; exact z_and _) | (rw [pmN_1 c_26, ← h2]; exact z_andn _ _)) (by first | (rw [pmN_e c_26, ← h3]; exact z_or _) | (rw [pmN_t c_26 (bN_t c_56), ← h2, ← h3]; exact z_ors _ _ _) | (rw [pmN_f c_26 (bN_f c_56), ← h3]; exact z_or _)) (by omega) ls (lv_sub hl [0, 2, 1, 4, 5, 6, 7] rfl)
            · refine lv_iload hx hb dX3_permittedOf_59 (lv_at hl 0 rfl) ?_
              refine lv_goto (tgt := 65) hx hb dX3_permittedOf_61 (by decide) ?_
              refine lv_ior hx hb dX3_permittedOf_65 ?_
              refine lv_istore (lv' := [(5, .int (((ac) ||| (((mtI (gt rs (i)) (s0) (p0)) &&& (op)))))), (7, .int (((mtI (gt rs (i)) (s0) (p0)) &&& (op)))), (6, .int (nI (i))), (4, .int (op)), (0, .ref (A 0)), (1, .int (nI (s0))), (2, .int (nI (p0))), (3, .int (wo))]) hx hb dX3_permittedOf_66 hl (by decide) rfl (fun ls hl => ?_)
              refine lv_iload hx hb dX3_permittedOf_68 (lv_at hl 3 rfl) ?_
              refine lv_iload hx hb dX3_permittedOf_70 (lv_at hl 1 rfl) ?_
              refine lv_iconst (v := ((-1 : Int32))) hx hb dX3_permittedOf_72 (by decide +kernel) ?_
              refine lv_ixor hx hb dX3_permittedOf_73 ?_
              refine lv_iand hx hb dX3_permittedOf_74 ?_
              refine lv_istore (lv' := [(4, .int (((op) &&& (((((mtI (gt rs (i)) (s0) (p0)) &&& (op))) ^^^ ((-1 : Int32))))))), (5, .int (((ac) ||| (((mtI (gt rs (i)) (s0) (p0)) &&& (op)))))), (7, .int (((mtI (gt rs (i)) (s0) (p0)) &&& (op)))), (6, .int (nI (i))), (0, .ref (A 0)), (1, .int (nI (s0))), (2, .int (nI (p0))), (3, .int (wo))]) hx hb dX3_permittedOf_75 hl (by decide) rfl (fun ls hl => ?_)
              refine lv_iinc (v := (nI (i + 1))) (lv' := [(6, .int (nI (i + 1))), (4, .int (((op) &&& (((((mtI (gt rs (i)) (s0) (p0)) &&& (op))) ^^^ ((-1 : Int32))))))), (5, .int (((ac) ||| (((mtI (gt rs (i)) (s0) (p0)) &&& (op)))))), (7, .int (((mtI (gt rs (i)) (s0) (p0)) &&& (op)))), (0, .ref (A 0)), (1, .int (nI (s0))), (2, .int (nI (p0))), (3, .int (wo))]) hx hb dX3_permittedOf_77 hl (k := 3) rfl (nI_add _ _) (by decide) rfl (fun ls hl => ?_)
              refine lv_goto (tgt := 9) hx hb dX3_permittedOf_80 (by decide) ?_
              exact ih (i + 1) ((((op) &&& (((((mtI (gt rs (i)) (s0) (p0)) &&& (op))) ^^^ ((-1 : Int32))))))) ((((ac) ||| (((mtI (gt rs (i)) (s0) (p0)) &&& (op)))))) (by omega) (by first | (rw [pmN_e c_26, ← h2]; exact z_and _) | (rw [pmN_1 c_26, ← h2]; exact z_andn _ _)) (by first | (rw [pmN_e c_26, ← h3]; exact z_or _) | (rw [pmN_t c_26 (bN_t c_56), ← h2, ← h3]; exact z_ors _ _ _) | (rw [pmN_f c_26 (bN_f c_56), ← h3]; exact z_or _)) (by omega) ls (lv_sub hl [0, 2, 1, 4, 5, 6, 7] rfl)
          · refine lv_iconst (v := (nI (0))) hx hb dX3_permittedOf_29 (by decide +kernel) ?_
            refine lv_goto (tgt := 44) hx hb dX3_permittedOf_30 (by decide) ?_
            refine lv_istore (lv' := [(7, .int (nI (0))), (6, .int (nI (i))), (5, .int (ac)), (4, .int (op)), (0, .ref (A 0)), (1, .int (nI (s0))), (2, .int (nI (p0))), (3, .int (wo))]) hx hb dX3_permittedOf_44 hl (by decide) rfl (fun ls hl => ?_)
            refine lv_iload hx hb dX3_permittedOf_46 (lv_at hl 2 rfl) ?_
            refine lv_aload_n hx hb dX3_permittedOf_48 rfl (lv_at hl 4 rfl) ?_
            refine lv_iload hx hb dX3_permittedOf_49 (lv_at hl 1 rfl) ?_
            refine lv_iconst (v := (nI (5))) hx hb dX3_permittedOf_51 (by decide +kernel) ?_
            refine Rd.callV (r := (nI (bN (pM (gt rs (i)))))) (As := [.int (nI (i)), .int (nI (5))]) S (k_ofR l hP hf (i := i) (w := 5) (by omega) (by omega)) (cwV 2 hts gX3_permittedOf_X3_of rfl rfl rfl (by decide +kernel) ⟨Nat.le_of_ble_eq_true rfl, Nat.le_of_ble_eq_true rfl⟩) hK (va_recv hK.1 hP (ci := 3) (q0 := 0) rfl rfl) rfl hl.1 rfl (Nat.le_of_ble_eq_true rfl) dX3_permittedOf_52 ⟨Nat.zero_le _, Nat.zero_le _⟩ ?_
            refine lv_iconst (v := (nI (1))) hx hb dX3_permittedOf_55 (by decide +kernel) ?_
            refine nr_icmp_ne (tgt := 64) hx hb (Nat.lt_trans (bN_lt _) (by decide)) (by decide) dX3_permittedOf_56 (by decide) (fun c_56 => ?_) (fun c_56 => ?_)
            · refine lv_iconst (v := (nI (0))) hx hb dX3_permittedOf_64 (by decide +kernel) ?_
              refine lv_ior hx hb dX3_permittedOf_65 ?_
              refine lv_istore (lv' := [(5, .int (((ac) ||| (nI (0))))), (7, .int (nI (0))), (6, .int (nI (i))), (4, .int (op)), (0, .ref (A 0)), (1, .int (nI (s0))), (2, .int (nI (p0))), (3, .int (wo))]) hx hb dX3_permittedOf_66 hl (by decide) rfl (fun ls hl => ?_)
              refine lv_iload hx hb dX3_permittedOf_68 (lv_at hl 3 rfl) ?_
              refine lv_iload hx hb dX3_permittedOf_70 (lv_at hl 1 rfl) ?_
              refine lv_iconst (v := ((-1 : Int32))) hx hb dX3_permittedOf_72 (by decide +kernel) ?_
              refine lv_ixor hx hb dX3_permittedOf_73 ?_
              refine lv_iand hx hb dX3_permittedOf_74 ?_
              refine lv_istore (lv' := [(4, .int (((op) &&& (((nI (0)) ^^^ ((-1 : Int32))))))), (5, .int (((ac) ||| (nI (0))))), (7, .int (nI (0))), (6, .int (nI (i))), (0, .ref (A 0)), (1, .int (nI (s0))), (2, .int (nI (p0))), (3, .int (wo))]) hx hb dX3_permittedOf_75 hl (by decide) rfl (fun ls hl => ?_)
              refine lv_iinc (v := (nI (i + 1))) (lv' := [(6, .int (nI (i + 1))), (4, .int (((op) &&& (((nI (0)) ^^^ ((-1 : Int32))))))), (5, .int (((ac) ||| (nI (0))))), (7, .int (nI (0))), (0, .ref (A 0)), (1, .int (nI (s0))), (2, .int (nI (p0))), (3, .int (wo))]) hx hb dX3_permittedOf_77 hl (k := 3) rfl (nI_add _ _) (by decide) rfl (fun ls hl => ?_)
              refine lv_goto (tgt := 9) hx hb dX3_permittedOf_80 (by decide) ?_
              exact ih (i + 1) ((((op) &&& (((nI (0)) ^^^ ((-1 : Int32))))))) ((((ac) ||| (nI (0))))) (by omega) (by first | (rw [pmN_e c_26, ← h2]; exact z_and _) | (rw [pmN_1 c_26, ← h2]; exact z_andn _ _)) (by first | (rw [pmN_e c_26, ← h3]; exact z_or _) | (rw [pmN_t c_26 (bN_t c_56), ← h2, ← h3]; exact z_ors _ _ _) | (rw [pmN_f c_26 (bN_f c_56), ← h3]; exact z_or _)) (by omega) ls (lv_sub hl [0, 2, 1, 4, 5, 6, 7] rfl)
            · refine lv_iload hx hb dX3_permittedOf_59 (lv_at hl 0 rfl) ?_
              refine lv_goto (tgt := 65) hx hb dX3_permittedOf_61 (by decide) ?_
              refine lv_ior hx hb dX3_permittedOf_65 ?_
              refine lv_istore (lv' := [(5, .int (((ac) ||| (nI (0))))), (7, .int (nI (0))), (6, .int (nI (i))), (4, .int (op)), (0, .ref (A 0)), (1, .int (nI (s0))), (2, .int (nI (p0))), (3, .int (wo))]) hx hb dX3_permittedOf_66 hl (by decide) rfl (fun ls hl => ?_)
              refine lv_iload hx hb dX3_permittedOf_68 (lv_at hl 3 rfl) ?_
              refine lv_iload hx hb dX3_permittedOf_70 (lv_at hl 1 rfl) ?_
              refine lv_iconst (v := ((-1 : Int32))) hx hb dX3_permittedOf_72 (by decide +kernel) ?_
              refine lv_ixor hx hb dX3_permittedOf_73 ?_
              refine lv_iand hx hb dX3_permittedOf_74 ?_
              refine lv_istore (lv' := [(4, .int (((op) &&& (((nI (0)) ^^^ ((-1 : Int32))))))), (5, .int (((ac) ||| (nI (0))))), (7, .int (nI (0))), (6, .int (nI (i))), (0, .ref (A 0)), (1, .int (nI (s0))), (2, .int (nI (p0))), (3, .int (wo))]) hx hb dX3_permittedOf_75 hl (by decide) rfl (fun ls hl => ?_)
              refine lv_iinc (v := (nI (i + 1))) (lv' := [(6, .int (nI (i + 1))), (4, .int (((op) &&& (((nI (0)) ^^^ ((-1 : Int32))))))), (5, .int (((ac) ||| (nI (0))))), (7, .int (nI (0))), (0, .ref (A 0)), (1, .int (nI (s0))), (2, .int (nI (p0))), (3, .int (wo))]) hx hb dX3_permittedOf_77 hl (k := 3) rfl (nI_add _ _) (by decide) rfl (fun ls hl => ?_)
              refine lv_goto (tgt := 9) hx hb dX3_permittedOf_80 (by decide) ?_
              exact ih (i + 1) ((((op) &&& (((nI (0)) ^^^ ((-1 : Int32))))))) ((((ac) ||| (nI (0))))) (by omega) (by first | (rw [pmN_e c_26, ← h2]; exact z_and _) | (rw [pmN_1 c_26, ← h2]; exact z_andn _ _)) (by first | (rw [pmN_e c_26, ← h3]; exact z_or _) | (rw [pmN_t c_26 (bN_t c_56), ← h2, ← h3]; exact z_ors _ _ _) | (rw [pmN_f c_26 (bN_f c_56), ← h3]; exact z_or _)) (by omega) ls (lv_sub hl [0, 2, 1, 4, 5, 6, 7] rfl)
  exact loop_9 _ (0) (((-1 : Int32))) ((nI (0))) (Nat.zero_le _) (rfl) (rfl) (Nat.lt_succ_self _) ls (lv_sub hl [0, 1, 2, 3, 4, 5, 6] rfl)
