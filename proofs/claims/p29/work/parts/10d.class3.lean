/-! the class's blocks and entries -/
set_option maxHeartbeats 4000000 in
set_option maxRecDepth 100000 in
theorem k_X2_blockSize (l : Launch) {D : va_G} {Y : Nat → ClassId} {H : Heap} {set : Int32} {num : Nat} (hnum : num < 32) : Rd l yX2_blockSize wsX2_blockSize 1 D Y [.int (set), .int (nI (num))] H (nI (bsF set num 6)) := by
  refine Rd.start (cc := cX2_blockSize) (maxL := 6) (rt := .int) (by decide) rfl (Nat.le_of_ble_eq_true rfl) ?_
  intro p e s m args below meth c ls Q S hK hl hE
  have S : CallFix p m c cX2_blockSize 6 s args wsX2_blockSize RX2 := S
  have hx := S.1
  have hb := S.2.1
  have hts := S.2.2.2.2
  have hl : lv_has ls 6 [(0, .int (set)), (1, .int (nI (num)))] := hl
  refine lv_iconst (v := (nI (0))) hx hb dX2_blockSize_0 (by decide +kernel) ?_
  refine lv_istore_n (lv' := [(2, .int (nI (0))), (0, .int (set)), (1, .int (nI (num)))]) hx hb dX2_blockSize_1 rfl hl (by decide) rfl (fun ls hl => ?_)
  refine lv_iconst (v := (nI (0))) hx hb dX2_blockSize_2 (by decide +kernel) ?_
  refine lv_istore_n (lv' := [(3, .int (nI (0))), (2, .int (nI (0))), (0, .int (set)), (1, .int (nI (num)))]) hx hb dX2_blockSize_3 rfl hl (by decide) rfl (fun ls hl => ?_)
  have loop_4 : ∀ (fu_4 : Nat) (z : Nat) (k : Nat), (k ≤ 6) → (z = bsF set num k) → 6 - k < fu_4 → ∀ ls : Array Slot, lv_has ls 6 [(3, .int (nI (k))), (2, .int (nI (z))), (0, .int (set)), (1, .int (nI (num)))] → W p l e (rmN 1) s m args below meth c H [] 0 0 Q (F0 m 4 ls []) := by
    intro fu_4
    induction fu_4 with
    | zero => exact fun z k _ _ hk => absurd hk (Nat.not_lt_zero _)
    | succ fu_4 ih_4 =>
      intro z k h1 h2 hk_4 ls hl
      refine lv_iload_n hx hb dX2_blockSize_4 rfl (lv_at hl 0 rfl) ?_
      refine lv_iconst (v := (nI (5))) hx hb dX2_blockSize_5 (by decide +kernel) ?_
      refine nr_icmp_gt (tgt := 50) hx hb (by omega) (by omega) dX2_blockSize_6 (by decide) (fun c_6 => ?_) (fun c_6 => ?_)
      · refine lv_iload_n hx hb dX2_blockSize_50 rfl (lv_at hl 1 rfl) ?_
        exact hE _ _ _ dX2_blockSize_51 (vp_nar_int _) (by rw [h2, show k = 6 from by omega])
      · have hbl := blk_le num hnum k (by omega)
        refine lv_iload_n hx hb dX2_blockSize_9 rfl (lv_at hl 3 rfl) ?_
        refine lv_iload_n hx hb dX2_blockSize_10 rfl (lv_at hl 0 rfl) ?_
        refine lv_ishr hx hb dX2_blockSize_11 ?_
        refine nr_top (y := (nI (num / 2 ^ k))) (pk_shrN (by omega) _ k (s_l k (by omega))) ?_
        refine lv_iload_n hx hb dX2_blockSize_12 rfl (lv_at hl 0 rfl) ?_
        refine lv_ishl hx hb dX2_blockSize_13 ?_
        refine nr_top (y := (nI (num / 2 ^ k * 2 ^ k))) (pk_shlN _ k (s_l k (by omega)) (by have := blk_le num hnum k (by omega); omega)) ?_
        refine lv_istore (lv' := [(4, .int (nI (num / 2 ^ k * 2 ^ k))), (3, .int (nI (k))), (2, .int (nI (z))), (0, .int (set)), (1, .int (nI (num)))]) hx hb dX2_blockSize_14 hl (by decide) rfl (fun ls hl => ?_)
        refine lv_iload hx hb dX2_blockSize_16 (lv_at hl 0 rfl) ?_
        refine lv_iload hx hb dX2_blockSize_18 (lv_at hl 0 rfl) ?_
        refine lv_iconst (v := (nI (1))) hx hb dX2_blockSize_20 (by decide +kernel) ?_
        refine lv_iload_n hx hb dX2_blockSize_21 rfl (lv_at hl 1 rfl) ?_
        refine lv_ishl hx hb dX2_blockSize_22 ?_
        refine nr_top (y := (nI (2 ^ k))) ((pk_shlN _ k (s_l k (by omega)) (by have := blk_le num hnum k (by omega); omega)).trans (congrArg nI (Nat.one_mul _))) ?_
        refine nr_iadd hx hb dX2_blockSize_23 ?_
        refine lv_iconst (v := (nI (1))) hx hb dX2_blockSize_24 (by decide +kernel) ?_
        refine nr_isub hx hb (by omega) dX2_blockSize_25 ?_
        refine Rd.callS (r := (mkI (num / 2 ^ k * 2 ^ k) (((num / 2 ^ k * 2 ^ k) + (2 ^ k)) - 1))) (As := [.int (nI (num / 2 ^ k * 2 ^ k)), .int (nI (((num / 2 ^ k * 2 ^ k) + (2 ^ k)) - 1))]) S (k_X2_setOf l (a := num / 2 ^ k * 2 ^ k) (b := ((num / 2 ^ k * 2 ^ k) + (2 ^ k)) - 1) (by omega)) (va_cwS 2 hts gX2_blockSize_X2_setOf rfl rfl rfl (by decide +kernel) ⟨Nat.le_of_ble_eq_true rfl, Nat.le_of_ble_eq_true rfl⟩) hK rfl hl.1 rfl (Nat.le_of_ble_eq_true rfl) dX2_blockSize_26 ⟨Nat.zero_le _, Nat.zero_le _⟩ ?_
        refine lv_istore (lv' := [(5, .int (mkI (num / 2 ^ k * 2 ^ k) (((num / 2 ^ k * 2 ^ k) + (2 ^ k)) - 1))), (4, .int (nI (num / 2 ^ k * 2 ^ k))), (3, .int (nI (k))), (2, .int (nI (z))), (0, .int (set)), (1, .int (nI (num)))]) hx hb dX2_blockSize_29 hl (by decide) rfl (fun ls hl => ?_)
        refine lv_iload_n hx hb dX2_blockSize_31 rfl (lv_at hl 4 rfl) ?_
        refine lv_iload hx hb dX2_blockSize_32 (lv_at hl 0 rfl) ?_
        refine lv_iand hx hb dX2_blockSize_34 ?_
        refine lv_iload hx hb dX2_blockSize_35 (lv_at hl 0 rfl) ?_
        refine lv_icmp_ne (tgt := 44) hx hb dX2_blockSize_37 (by decide) (fun c_37 => ?_) (fun c_37 => ?_)
        · refine lv_iinc (v := (nI (k + 1))) (lv' := [(3, .int (nI (k + 1))), (5, .int (mkI (num / 2 ^ k * 2 ^ k) (((num / 2 ^ k * 2 ^ k) + (2 ^ k)) - 1))), (4, .int (nI (num / 2 ^ k * 2 ^ k))), (2, .int (nI (z))), (0, .int (set)), (1, .int (nI (num)))]) hx hb dX2_blockSize_44 hl (k := 2) rfl (nI_add _ _) (by decide) rfl (fun ls hl => ?_)
          refine lv_goto (tgt := 4) hx hb dX2_blockSize_47 (by decide) ?_
          exact ih_4 (z) (k + 1) (by omega) (by first | exact (bsF_t c_37).symm | exact h2.trans (bsF_f c_37).symm) (by omega) ls (lv_sub hl [0, 3, 4, 5] rfl)
        · refine lv_iconst (v := (nI (1))) hx hb dX2_blockSize_40 (by decide +kernel) ?_
          refine lv_iload_n hx hb dX2_blockSize_41 rfl (lv_at hl 2 rfl) ?_
          refine lv_ishl hx hb dX2_blockSize_42 ?_
          refine nr_top (y := (nI (2 ^ k))) ((pk_shlN _ k (s_l k (by omega)) (by have := blk_le num hnum k (by omega); omega)).trans (congrArg nI (Nat.one_mul _))) ?_
          refine lv_istore_n (lv' := [(2, .int (nI (2 ^ k))), (5, .int (mkI (num / 2 ^ k * 2 ^ k) (((num / 2 ^ k * 2 ^ k) + (2 ^ k)) - 1))), (4, .int (nI (num / 2 ^ k * 2 ^ k))), (3, .int (nI (k))), (0, .int (set)), (1, .int (nI (num)))]) hx hb dX2_blockSize_43 rfl hl (by decide) rfl (fun ls hl => ?_)
          refine lv_iinc (v := (nI (k + 1))) (lv' := [(3, .int (nI (k + 1))), (2, .int (nI (2 ^ k))), (5, .int (mkI (num / 2 ^ k * 2 ^ k) (((num / 2 ^ k * 2 ^ k) + (2 ^ k)) - 1))), (4, .int (nI (num / 2 ^ k * 2 ^ k))), (0, .int (set)), (1, .int (nI (num)))]) hx hb dX2_blockSize_44 hl (k := 3) rfl (nI_add _ _) (by decide) rfl (fun ls hl => ?_)
          refine lv_goto (tgt := 4) hx hb dX2_blockSize_47 (by decide) ?_
          exact ih_4 (2 ^ k) (k + 1) (by omega) (by first | exact (bsF_t c_37).symm | exact h2.trans (bsF_f c_37).symm) (by omega) ls (lv_sub hl [0, 1, 4, 5] rfl)
  exact loop_4 _ (0) (0) (Nat.zero_le _) (rfl) (Nat.lt_succ_self _) ls (lv_sub hl [0, 1, 2, 3] rfl)
set_option maxHeartbeats 4000000 in
set_option maxRecDepth 100000 in
theorem k_X2_blockBegins (l : Launch) {D : va_G} {Y : Nat → ClassId} {H : Heap} {set : Int32}  : Rd l yX2_blockBegins wsX2_blockBegins 2 D Y [.int (set)] H (bb set) := by
  refine Rd.start (cc := cX2_blockBegins) (maxL := 4) (rt := .int) (by decide) rfl (Nat.le_of_ble_eq_true rfl) ?_
  intro p e s m args below meth c ls Q S hK hl hE
  have S : CallFix p m c cX2_blockBegins 4 s args wsX2_blockBegins RX2 := S
  have hx := S.1
  have hb := S.2.1
  have hts := S.2.2.2.2
  have hl : lv_has ls 4 [(0, .int (set))] := hl
  refine lv_iconst (v := (nI (0))) hx hb dX2_blockBegins_0 (by decide +kernel) ?_
  refine lv_istore_n (lv' := [(1, .int (nI (0))), (0, .int (set))]) hx hb dX2_blockBegins_1 rfl hl (by decide) rfl (fun ls hl => ?_)
  refine lv_iconst (v := (nI (0))) hx hb dX2_blockBegins_2 (by decide +kernel) ?_
  refine lv_istore_n (lv' := [(2, .int (nI (0))), (1, .int (nI (0))), (0, .int (set))]) hx hb dX2_blockBegins_3 rfl hl (by decide) rfl (fun ls hl => ?_)
  have loop_4 : ∀ (fu_4 : Nat) (b : Int32) (n : Nat), (n ≤ 32) → (b = bbF set n) → 32 - n < fu_4 → ∀ ls : Array Slot, lv_has ls 4 [(2, .int (nI (n))), (1, .int (b)), (0, .int (set))] → W p l e (rmN 2) s m args below meth c H [] 0 0 Q (F0 m 4 ls []) := by
    intro fu_4
    induction fu_4 with
    | zero => exact fun b n _ _ hk => absurd hk (Nat.not_lt_zero _)
    | succ fu_4 ih_4 =>
      intro b n h1 h2 hk_4 ls hl
      refine lv_iload_n hx hb dX2_blockBegins_4 rfl (lv_at hl 0 rfl) ?_
      refine lv_bipush (v := (nI (32))) hx hb dX2_blockBegins_5 (by decide +kernel) ?_
      refine nr_icmp_ge (tgt := 40) hx hb (by omega) (by omega) dX2_blockBegins_7 (by decide) (fun c_7 => ?_) (fun c_7 => ?_)
      · refine lv_iload_n hx hb dX2_blockBegins_40 rfl (lv_at hl 1 rfl) ?_
        exact hE _ _ _ dX2_blockBegins_41 (vp_nar_int _) (by rw [h2, show n = 32 from by omega]; rfl)
      · refine lv_iload_n hx hb dX2_blockBegins_10 rfl (lv_at hl 2 rfl) ?_
        refine lv_iload_n hx hb dX2_blockBegins_11 rfl (lv_at hl 0 rfl) ?_
        refine Rd.callS (r := (nI (bsF (set) (n) 6))) (As := [.int (set), .int (nI (n))]) S (k_X2_blockSize l (set := (set)) (num := n) (by omega)) (va_cwS 2 hts gX2_blockBegins_X2_blockSize rfl rfl rfl (by decide +kernel) ⟨Nat.le_of_ble_eq_true rfl, Nat.le_of_ble_eq_true rfl⟩) hK rfl hl.1 rfl (Nat.le_of_ble_eq_true rfl) dX2_blockBegins_12 ⟨Nat.zero_le _, Nat.zero_le _⟩ ?_
        refine lv_istore_n (lv' := [(3, .int (nI (bsF (set) (n) 6))), (2, .int (nI (n))), (1, .int (b)), (0, .int (set))]) hx hb dX2_blockBegins_15 rfl hl (by decide) rfl (fun ls hl => ?_)
        refine lv_iload_n hx hb dX2_blockBegins_16 rfl (lv_at hl 0 rfl) ?_
        refine lv_if_le (tgt := 34) hx hb dX2_blockBegins_17 (by decide) (fun c_17 => ?_) (fun c_17 => ?_)
        · have c_17 : ¬ 0 < bsF set n 6 := fun q => absurd c_17 (nI_nle q (by have := bsF_le set n 6 (Nat.le_refl _); omega))
          refine lv_iinc (v := (nI (n + 1))) (lv' := [(2, .int (nI (n + 1))), (3, .int (nI (bsF (set) (n) 6))), (1, .int (b)), (0, .int (set))]) hx hb dX2_blockBegins_34 hl (k := 1) rfl (nI_add _ _) (by decide) rfl (fun ls hl => ?_)
          refine lv_goto (tgt := 4) hx hb dX2_blockBegins_37 (by decide) ?_
          exact ih_4 ((b)) (n + 1) (by omega) (by first | (rw [bbF_t (show bgB set n = true by unfold bgB; rw [decide_eq_true c_17, decide_eq_true c_25]; rfl), ← h2]) | exact h2.trans (bbF_f (show bgB set n = false by unfold bgB; rw [decide_eq_false (Nat.ne_of_gt c_25), Bool.and_false])).symm | exact h2.trans (bbF_f (show bgB set n = false by unfold bgB; rw [decide_eq_false c_17]; rfl)).symm) (by omega) ls (lv_sub hl [0, 2, 3] rfl)
        · have c_17 : 0 < bsF set n 6 := Nat.pos_of_ne_zero (fun q => c_17 (by rw [q]; decide))
          refine lv_iload_n hx hb dX2_blockBegins_20 rfl (lv_at hl 1 rfl) ?_
          refine lv_iload_n hx hb dX2_blockBegins_21 rfl (lv_at hl 0 rfl) ?_
          refine lv_iconst (v := (nI (1))) hx hb dX2_blockBegins_22 (by decide +kernel) ?_
          refine nr_isub hx hb (by omega) dX2_blockBegins_23 ?_
          refine lv_iand hx hb dX2_blockBegins_24 ?_
          refine nr_top (y := (nI (n &&& (bsF set n 6 - 1)))) (nx_and _ _) ?_
          refine nr_if_ne (tgt := 34) hx hb (Nat.lt_of_le_of_lt Nat.and_le_left (by omega)) dX2_blockBegins_25 (by decide) (fun c_25 => ?_) (fun c_25 => ?_)
          · refine lv_iinc (v := (nI (n + 1))) (lv' := [(2, .int (nI (n + 1))), (3, .int (nI (bsF (set) (n) 6))), (1, .int (b)), (0, .int (set))]) hx hb dX2_blockBegins_34 hl (k := 1) rfl (nI_add _ _) (by decide) rfl (fun ls hl => ?_)
            refine lv_goto (tgt := 4) hx hb dX2_blockBegins_37 (by decide) ?_
            exact ih_4 ((b)) (n + 1) (by omega) (by first | (rw [bbF_t (show bgB set n = true by unfold bgB; rw [decide_eq_true c_17, decide_eq_true c_25]; rfl), ← h2]) | exact h2.trans (bbF_f (show bgB set n = false by unfold bgB; rw [decide_eq_false (Nat.ne_of_gt c_25), Bool.and_false])).symm | exact h2.trans (bbF_f (show bgB set n = false by unfold bgB; rw [decide_eq_false c_17]; rfl)).symm) (by omega) ls (lv_sub hl [0, 2, 3] rfl)
          · refine lv_iload_n hx hb dX2_blockBegins_28 rfl (lv_at hl 2 rfl) ?_
            refine lv_iconst (v := (nI (1))) hx hb dX2_blockBegins_29 (by decide +kernel) ?_
            refine lv_iload_n hx hb dX2_blockBegins_30 rfl (lv_at hl 1 rfl) ?_
            refine lv_ishl hx hb dX2_blockBegins_31 ?_
            refine lv_ior hx hb dX2_blockBegins_32 ?_
            refine lv_istore_n (lv' := [(1, .int (((b) ||| (((nI (1)) <<< ((nI (n)) &&& 31)))))), (3, .int (nI (bsF (set) (n) 6))), (2, .int (nI (n))), (0, .int (set))]) hx hb dX2_blockBegins_33 rfl hl (by decide) rfl (fun ls hl => ?_)
            refine lv_iinc (v := (nI (n + 1))) (lv' := [(2, .int (nI (n + 1))), (1, .int (((b) ||| (((nI (1)) <<< ((nI (n)) &&& 31)))))), (3, .int (nI (bsF (set) (n) 6))), (0, .int (set))]) hx hb dX2_blockBegins_34 hl (k := 2) rfl (nI_add _ _) (by decide) rfl (fun ls hl => ?_)
            refine lv_goto (tgt := 4) hx hb dX2_blockBegins_37 (by decide) ?_
            exact ih_4 ((((b) ||| (((nI (1)) <<< ((nI (n)) &&& 31)))))) (n + 1) (by omega) (by first | (rw [bbF_t (show bgB set n = true by unfold bgB; rw [decide_eq_true c_17, decide_eq_true c_25]; rfl), ← h2]) | exact h2.trans (bbF_f (show bgB set n = false by unfold bgB; rw [decide_eq_false (Nat.ne_of_gt c_25), Bool.and_false])).symm | exact h2.trans (bbF_f (show bgB set n = false by unfold bgB; rw [decide_eq_false c_17]; rfl)).symm) (by omega) ls (lv_sub hl [0, 1, 3] rfl)
  exact loop_4 _ ((nI (0))) (0) (Nat.zero_le _) (rfl) (Nat.lt_succ_self _) ls (lv_sub hl [0, 1, 2] rfl)
set_option maxHeartbeats 4000000 in
set_option maxRecDepth 100000 in
theorem k_X2_entryCount (l : Launch) {D : va_G} {Y : Nat → ClassId} {H : Heap} {r : RV} {ad : Nat × Nat × Nat}  (hP : va_P D aCl (ruC r ad) H) (ho : rvOk r) : Rd l yX2_entryCount wsX2_entryCount 3 D Y [.ref (ad.1)] H (nI (enN r)) := by
  refine Rd.start (cc := cX2_entryCount) (maxL := 1) (rt := .int) (by decide) rfl (Nat.le_of_ble_eq_true rfl) ?_
  intro p e s m args below meth c ls Q S hK hl hE
  have S : CallFix p m c cX2_entryCount 1 s args wsX2_entryCount RX2 := S
  have hx := S.1
  have hb := S.2.1
  have hts := S.2.2.2.2
  have hl : lv_has ls 1 [(0, .ref (ad.1))] := hl
  refine lv_aload_n hx hb dX2_entryCount_0 rfl (lv_at hl 0 rfl) ?_
  refine nr_get (C := RX1) (T := TX1) (N := 5) (ci := 1) S (fun _ h => List.mem_cons_of_mem _ (List.mem_append_left _ (List.mem_append_right _ (h)))) hK hP 0 rfl rfl 1 (by decide) (List.mem_of_getElem? (i := 1) rfl) rfl dX2_entryCount_1 ?_
  refine nr_get (C := RX0) (T := TX0) (N := 3) (ci := 0) S (fun _ h => List.mem_cons_of_mem _ (List.mem_append_right _ (h))) hK hP 1 rfl rfl 2 (by decide) (List.mem_of_getElem? (i := 2) rfl) rfl dX2_entryCount_4 ?_
  refine Rd.callS (r := (bb (mkI (sF r) (sT r)))) (As := [.int (mkI (sF r) (sT r))]) S (k_X2_blockBegins l (set := (mkI (sF r) (sT r)))) (va_cwS 1 hts gX2_entryCount_X2_blockBegins rfl rfl rfl (by decide +kernel) ⟨Nat.le_of_ble_eq_true rfl, Nat.le_of_ble_eq_true rfl⟩) hK rfl hl.1 rfl (Nat.le_of_ble_eq_true rfl) dX2_entryCount_7 ⟨Nat.zero_le _, Nat.zero_le _⟩ ?_
  refine Rd.callS (r := (nI (popI (bb (mkI (sF r) (sT r)))))) (As := [.int (bb (mkI (sF r) (sT r)))]) S (k_J6_bitCount_0f7a4 l (bb (mkI (sF r) (sT r)))) (va_cwS 1 hts gX2_entryCount_J6_bitCount_0f7a4 rfl rfl rfl (by decide +kernel) ⟨Nat.le_of_ble_eq_true rfl, Nat.le_of_ble_eq_true rfl⟩) hK rfl hl.1 rfl (Nat.le_of_ble_eq_true rfl) dX2_entryCount_10 ⟨Nat.zero_le _, Nat.zero_le _⟩ ?_
  refine nr_top (y := (nI ((bS r).length))) (congrArg nI (pop_okk (okS ho))) ?_
  refine lv_aload_n hx hb dX2_entryCount_13 rfl (lv_at hl 0 rfl) ?_
  refine nr_get (C := RX1) (T := TX1) (N := 5) (ci := 1) S (fun _ h => List.mem_cons_of_mem _ (List.mem_append_left _ (List.mem_append_right _ (h)))) hK hP 0 rfl rfl 2 (by decide) (List.mem_of_getElem? (i := 3) rfl) rfl dX2_entryCount_14 ?_
  refine nr_get (C := RX0) (T := TX0) (N := 3) (ci := 0) S (fun _ h => List.mem_cons_of_mem _ (List.mem_append_right _ (h))) hK hP 2 rfl rfl 2 (by decide) (List.mem_of_getElem? (i := 2) rfl) rfl dX2_entryCount_17 ?_
  refine Rd.callS (r := (bb (mkI (dF r) (dT r)))) (As := [.int (mkI (dF r) (dT r))]) S (k_X2_blockBegins l (set := (mkI (dF r) (dT r)))) (va_cwS 1 hts gX2_entryCount_X2_blockBegins rfl rfl rfl (by decide +kernel) ⟨Nat.le_of_ble_eq_true rfl, Nat.le_of_ble_eq_true rfl⟩) hK rfl hl.1 rfl (Nat.le_of_ble_eq_true rfl) dX2_entryCount_20 ⟨Nat.zero_le _, Nat.zero_le _⟩ ?_
  refine Rd.callS (r := (nI (popI (bb (mkI (dF r) (dT r)))))) (As := [.int (bb (mkI (dF r) (dT r)))]) S (k_J6_bitCount_0f7a4 l (bb (mkI (dF r) (dT r)))) (va_cwS 1 hts gX2_entryCount_J6_bitCount_0f7a4 rfl rfl rfl (by decide +kernel) ⟨Nat.le_of_ble_eq_true rfl, Nat.le_of_ble_eq_true rfl⟩) hK rfl hl.1 rfl (Nat.le_of_ble_eq_true rfl) dX2_entryCount_23 ⟨Nat.zero_le _, Nat.zero_le _⟩ ?_
  refine nr_top (y := (nI ((bD r).length))) (congrArg nI (pop_okk (okD ho))) ?_
  refine nr_imul hx hb dX2_entryCount_26 ?_
  refine lv_aload_n hx hb dX2_entryCount_27 rfl (lv_at hl 0 rfl) ?_
  refine nr_get (C := RX1) (T := TX1) (N := 5) (ci := 1) S (fun _ h => List.mem_cons_of_mem _ (List.mem_append_left _ (List.mem_append_right _ (h)))) hK hP 0 rfl rfl 3 (by decide) (List.mem_of_getElem? (i := 4) rfl) rfl dX2_entryCount_28 ?_
  refine Rd.callS (r := (bb (nI (pR r)))) (As := [.int (nI (pR r))]) S (k_X2_blockBegins l (set := (nI (pR r)))) (va_cwS 1 hts gX2_entryCount_X2_blockBegins rfl rfl rfl (by decide +kernel) ⟨Nat.le_of_ble_eq_true rfl, Nat.le_of_ble_eq_true rfl⟩) hK rfl hl.1 rfl (Nat.le_of_ble_eq_true rfl) dX2_entryCount_31 ⟨Nat.zero_le _, Nat.zero_le _⟩ ?_
  refine Rd.callS (r := (nI (popI (bb (nI (pR r)))))) (As := [.int (bb (nI (pR r)))]) S (k_J6_bitCount_0f7a4 l (bb (nI (pR r)))) (va_cwS 1 hts gX2_entryCount_J6_bitCount_0f7a4 rfl rfl rfl (by decide +kernel) ⟨Nat.le_of_ble_eq_true rfl, Nat.le_of_ble_eq_true rfl⟩) hK rfl hl.1 rfl (Nat.le_of_ble_eq_true rfl) dX2_entryCount_34 ⟨Nat.zero_le _, Nat.zero_le _⟩ ?_
  refine nr_top (y := (nI ((bP r).length))) (congrArg nI (pop_okk (okP ho))) ?_
  refine nr_imul hx hb dX2_entryCount_37 ?_
  exact hE _ _ _ dX2_entryCount_38 (vp_nar_int _) (rfl)
set_option maxHeartbeats 4000000 in
set_option maxRecDepth 100000 in
theorem k_X2_packetNumber (l : Launch) {D : va_G} {Y : Nat → ClassId} {H : Heap} {a b c0 : Nat}  : Rd l yX2_packetNumber wsX2_packetNumber 0 D Y [.int (nI (a)), .int (nI (b)), .int (nI (c0))] H (nI (a * 128 + b * 4 + c0)) := by
  refine Rd.start (cc := cX2_packetNumber) (maxL := 3) (rt := .int) (by decide) rfl (Nat.le_of_ble_eq_true rfl) ?_
  intro p e s m args below meth c ls Q S hK hl hE
  have S : CallFix p m c cX2_packetNumber 3 s args wsX2_packetNumber RX2 := S
  have hx := S.1
  have hb := S.2.1
  have hts := S.2.2.2.2
  have hl : lv_has ls 3 [(0, .int (nI (a))), (1, .int (nI (b))), (2, .int (nI (c0)))] := hl
  refine lv_iload_n hx hb dX2_packetNumber_0 rfl (lv_at hl 0 rfl) ?_
  refine lv_sipush (v := (nI (128))) hx hb dX2_packetNumber_1 (by decide +kernel) ?_
  refine nr_imul hx hb dX2_packetNumber_4 ?_
  refine lv_iload_n hx hb dX2_packetNumber_5 rfl (lv_at hl 1 rfl) ?_
  refine lv_iconst (v := (nI (4))) hx hb dX2_packetNumber_6 (by decide +kernel) ?_
  refine nr_imul hx hb dX2_packetNumber_7 ?_
  refine nr_iadd hx hb dX2_packetNumber_8 ?_
  refine lv_iload_n hx hb dX2_packetNumber_9 rfl (lv_at hl 2 rfl) ?_
  refine nr_iadd hx hb dX2_packetNumber_10 ?_
  exact hE _ _ _ dX2_packetNumber_11 (vp_nar_int _) (rfl)
set_option maxHeartbeats 4000000 in
set_option maxRecDepth 100000 in
theorem k_X2_valueOfEntry (l : Launch) {D : va_G} {Y : Nat → ClassId} {H : Heap} {r : RV} {ad : Nat × Nat × Nat} {e0 : Nat}  (hP : va_P D aCl (ruC r ad) H) (ho : rvOk r) (he : e0 < enN r) : Rd l yX2_valueOfEntry wsX2_valueOfEntry 3 D Y [.ref (ad.1), .int (nI (e0))] H (nI (evN r e0)) := by
  refine Rd.start (cc := cX2_valueOfEntry) (maxL := 9) (rt := .int) (by decide) rfl (Nat.le_of_ble_eq_true rfl) ?_
  intro p e s m args below meth c ls Q S hK hl hE
  have S : CallFix p m c cX2_valueOfEntry 9 s args wsX2_valueOfEntry RX2 := S
  have hx := S.1
  have hb := S.2.1
  have hts := S.2.2.2.2
  have hl : lv_has ls 9 [(0, .ref (ad.1)), (1, .int (nI (e0)))] := hl
  have hv := ho
  unfold rvOk at hv
  have hP4 := bgP4 (pR r) (by omega)
  have hcP : cB (nI (pR r)) 32 = (bP r).length := bkOk_all (okP ho)
  have hcD : cB (mkI (dF r) (dT r)) 32 = (bD r).length := bkOk_all (okD ho)
  have hcS : cB (mkI (sF r) (sT r)) 32 = (bS r).length := bkOk_all (okS ho)
  have hen := enN_le ho
  refine lv_aload_n hx hb dX2_valueOfEntry_0 rfl (lv_at hl 0 rfl) ?_
  refine nr_get (C := RX1) (T := TX1) (N := 5) (ci := 1) S (fun _ h => List.mem_cons_of_mem _ (List.mem_append_left _ (List.mem_append_left _ (List.mem_append_right _ (h))))) hK hP 0 rfl rfl 1 (by decide) (List.mem_of_getElem? (i := 3) rfl) rfl dX2_valueOfEntry_1 ?_
  refine nr_get (C := RX0) (T := TX0) (N := 3) (ci := 0) S (fun _ h => List.mem_cons_of_mem _ (List.mem_append_left _ (List.mem_append_right _ (h)))) hK hP 1 rfl rfl 2 (by decide) (List.mem_of_getElem? (i := 4) rfl) rfl dX2_valueOfEntry_4 ?_
  refine Rd.callS (r := (bb (mkI (sF r) (sT r)))) (As := [.int (mkI (sF r) (sT r))]) S (k_X2_blockBegins l (set := (mkI (sF r) (sT r)))) (va_cwS 1 hts gX2_valueOfEntry_X2_blockBegins rfl rfl rfl (by decide +kernel) ⟨Nat.le_of_ble_eq_true rfl, Nat.le_of_ble_eq_true rfl⟩) hK rfl hl.1 rfl (Nat.le_of_ble_eq_true rfl) dX2_valueOfEntry_7 ⟨Nat.zero_le _, Nat.zero_le _⟩ ?_
  refine lv_istore_n (lv' := [(2, .int (bb (mkI (sF r) (sT r)))), (0, .ref (ad.1)), (1, .int (nI (e0)))]) hx hb dX2_valueOfEntry_10 rfl hl (by decide) rfl (fun ls hl => ?_)
  refine lv_aload_n hx hb dX2_valueOfEntry_11 rfl (lv_at hl 1 rfl) ?_
  refine nr_get (C := RX1) (T := TX1) (N := 5) (ci := 1) S (fun _ h => List.mem_cons_of_mem _ (List.mem_append_left _ (List.mem_append_left _ (List.mem_append_right _ (h))))) hK hP 0 rfl rfl 2 (by decide) (List.mem_of_getElem? (i := 5) rfl) rfl dX2_valueOfEntry_12 ?_
  refine nr_get (C := RX0) (T := TX0) (N := 3) (ci := 0) S (fun _ h => List.mem_cons_of_mem _ (List.mem_append_left _ (List.mem_append_right _ (h)))) hK hP 2 rfl rfl 2 (by decide) (List.mem_of_getElem? (i := 4) rfl) rfl dX2_valueOfEntry_15 ?_
  refine Rd.callS (r := (bb (mkI (dF r) (dT r)))) (As := [.int (mkI (dF r) (dT r))]) S (k_X2_blockBegins l (set := (mkI (dF r) (dT r)))) (va_cwS 1 hts gX2_valueOfEntry_X2_blockBegins rfl rfl rfl (by decide +kernel) ⟨Nat.le_of_ble_eq_true rfl, Nat.le_of_ble_eq_true rfl⟩) hK rfl hl.1 rfl (Nat.le_of_ble_eq_true rfl) dX2_valueOfEntry_18 ⟨Nat.zero_le _, Nat.zero_le _⟩ ?_
  refine lv_istore_n (lv' := [(3, .int (bb (mkI (dF r) (dT r)))), (2, .int (bb (mkI (sF r) (sT r)))), (0, .ref (ad.1)), (1, .int (nI (e0)))]) hx hb dX2_valueOfEntry_21 rfl hl (by decide) rfl (fun ls hl => ?_)
  refine lv_aload_n hx hb dX2_valueOfEntry_22 rfl (lv_at hl 2 rfl) ?_
  refine nr_get (C := RX1) (T := TX1) (N := 5) (ci := 1) S (fun _ h => List.mem_cons_of_mem _ (List.mem_append_left _ (List.mem_append_left _ (List.mem_append_right _ (h))))) hK hP 0 rfl rfl 3 (by decide) (List.mem_of_getElem? (i := 6) rfl) rfl dX2_valueOfEntry_23 ?_
  refine Rd.callS (r := (bb (nI (pR r)))) (As := [.int (nI (pR r))]) S (k_X2_blockBegins l (set := (nI (pR r)))) (va_cwS 1 hts gX2_valueOfEntry_X2_blockBegins rfl rfl rfl (by decide +kernel) ⟨Nat.le_of_ble_eq_true rfl, Nat.le_of_ble_eq_true rfl⟩) hK rfl hl.1 rfl (Nat.le_of_ble_eq_true rfl) dX2_valueOfEntry_26 ⟨Nat.zero_le _, Nat.zero_le _⟩ ?_
  refine lv_istore (lv' := [(4, .int (bb (nI (pR r)))), (3, .int (bb (mkI (dF r) (dT r)))), (2, .int (bb (mkI (sF r) (sT r)))), (0, .ref (ad.1)), (1, .int (nI (e0)))]) hx hb dX2_valueOfEntry_29 hl (by decide) rfl (fun ls hl => ?_)
  refine lv_iconst (v := (nI (0))) hx hb dX2_valueOfEntry_31 (by decide +kernel) ?_
  refine lv_istore (lv' := [(5, .int (nI (0))), (4, .int (bb (nI (pR r)))), (3, .int (bb (mkI (dF r) (dT r)))), (2, .int (bb (mkI (sF r) (sT r)))), (0, .ref (ad.1)), (1, .int (nI (e0)))]) hx hb dX2_valueOfEntry_32 hl (by decide) rfl (fun ls hl => ?_)
  refine lv_iconst (v := (nI (0))) hx hb dX2_valueOfEntry_34 (by decide +kernel) ?_
  refine lv_istore (lv' := [(6, .int (nI (0))), (5, .int (nI (0))), (4, .int (bb (nI (pR r)))), (3, .int (bb (mkI (dF r) (dT r)))), (2, .int (bb (mkI (sF r) (sT r)))), (0, .ref (ad.1)), (1, .int (nI (e0)))]) hx hb dX2_valueOfEntry_35 hl (by decide) rfl (fun ls hl => ?_)
  have loop_37 : ∀ (fu_37 : Nat) (b : Nat) (s1 : Nat), (s1 ≤ 32 ∧ b ≤ e0) → (b = cB (mkI (sF r) (sT r)) s1 * ((bD r).length * (bP r).length)) → 32 - s1 < fu_37 → ∀ ls : Array Slot, lv_has ls 9 [(6, .int (nI (s1))), (5, .int (nI (b))), (4, .int (bb (nI (pR r)))), (3, .int (bb (mkI (dF r) (dT r)))), (2, .int (bb (mkI (sF r) (sT r)))), (0, .ref (ad.1)), (1, .int (nI (e0)))] → W p l e (rmN 3) s m args below meth c H [] 0 0 Q (F0 m 37 ls []) := by
    intro fu_37
    induction fu_37 with
    | zero => exact fun b s1 _ _ hk => absurd hk (Nat.not_lt_zero _)
    | succ fu_37 ih_37 =>
      intro b s1 h1 h2 hk_37 ls hl
      refine lv_iload hx hb dX2_valueOfEntry_37 (lv_at hl 0 rfl) ?_
      refine lv_bipush (v := (nI (32))) hx hb dX2_valueOfEntry_39 (by decide +kernel) ?_
      refine nr_icmp_ge (tgt := 128) hx hb (by omega) (by omega) dX2_valueOfEntry_41 (by decide) (fun c_41 => absurd c_41 (Nat.not_le.mpr (by have hz : b < enN r := Nat.lt_of_le_of_lt h1.2 he; by_cases hq : s1 < 32; exact hq; exfalso; rw [h2, show s1 = 32 from by omega, hcS] at hz; unfold enN at hz; rw [Nat.mul_assoc] at hz; exact absurd hz (Nat.lt_irrefl _)))) (fun c_41 => ?_)
      refine lv_iconst (v := (nI (0))) hx hb dX2_valueOfEntry_44 (by decide +kernel) ?_
      refine lv_istore (lv' := [(7, .int (nI (0))), (6, .int (nI (s1))), (5, .int (nI (b))), (4, .int (bb (nI (pR r)))), (3, .int (bb (mkI (dF r) (dT r)))), (2, .int (bb (mkI (sF r) (sT r)))), (0, .ref (ad.1)), (1, .int (nI (e0)))]) hx hb dX2_valueOfEntry_45 hl (by decide) rfl (fun ls hl => ?_)
      have loop_47 : ∀ (fu_47 : Nat) (b2 : Nat) (d1 : Nat), (d1 ≤ 32 ∧ b2 ≤ e0 ∧ (bgB (mkI (sF r) (sT r)) s1 = false → b2 = b ∧ d1 = 0)) → (b2 = b + cB (mkI (dF r) (dT r)) d1 * (bP r).length) → 32 - d1 < fu_47 → ∀ ls : Array Slot, lv_has ls 9 [(7, .int (nI (d1))), (6, .int (nI (s1))), (5, .int (nI (b2))), (4, .int (bb (nI (pR r)))), (3, .int (bb (mkI (dF r) (dT r)))), (2, .int (bb (mkI (sF r) (sT r)))), (0, .ref (ad.1)), (1, .int (nI (e0)))] → W p l e (rmN 3) s m args below meth c H [] 0 0 Q (F0 m 47 ls []) := by
        intro fu_47
        induction fu_47 with
        | zero => exact fun b2 d1 _ _ hk => absurd hk (Nat.not_lt_zero _)
        | succ fu_47 ih_47 =>
          intro b2 d1 g1 g2 hk_47 ls hl
          refine lv_iload_n hx hb dX2_valueOfEntry_47 rfl (lv_at hl 5 rfl) ?_
          refine lv_iload hx hb dX2_valueOfEntry_48 (lv_at hl 1 rfl) ?_
          refine Rd.callS (r := (bI (bgB (mkI (sF r) (sT r)) (s1)))) (As := [.int (bb (mkI (sF r) (sT r))), .int (nI (s1))]) S ((hol_bb (mkI (sF r) (sT r)) (j := s1) (by omega)) ▸ k_X2_holds l (bb (mkI (sF r) (sT r))) (nI (s1))) (va_cwS 2 hts gX2_valueOfEntry_X2_holds rfl rfl rfl (by decide +kernel) ⟨Nat.le_of_ble_eq_true rfl, Nat.le_of_ble_eq_true rfl⟩) hK rfl hl.1 rfl (Nat.le_of_ble_eq_true rfl) dX2_valueOfEntry_50 ⟨Nat.zero_le _, Nat.zero_le _⟩ ?_
          refine nr_ifB_eq (tgt := 122) hx hb dX2_valueOfEntry_53 (by decide) (fun c_53 => ?_) (fun c_53 => ?_)
          · have hb6 : b2 = cB (mkI (sF r) (sT r)) (s1 + 1) * ((bD r).length * (bP r).length) := by
              rw [cB_s]
              cases hq : bgB (mkI (sF r) (sT r)) s1 with
              | false => rw [(g1.2.2 hq).1, h2]; rfl
              | true =>
                have hd32 : d1 = 32 := by
                  first
                  | omega
                  | exact absurd (c_53.symm.trans hq) (by decide)
                rw [g2, hd32, hcD, h2, show bN true = 1 from rfl, Nat.add_mul, Nat.one_mul]
            refine lv_iinc (v := (nI (s1 + 1))) (lv' := [(6, .int (nI (s1 + 1))), (7, .int (nI (d1))), (5, .int (nI (b2))), (4, .int (bb (nI (pR r)))), (3, .int (bb (mkI (dF r) (dT r)))), (2, .int (bb (mkI (sF r) (sT r)))), (0, .ref (ad.1)), (1, .int (nI (e0)))]) hx hb dX2_valueOfEntry_122 hl (k := 1) rfl (nI_add _ _) (by decide) rfl (fun ls hl => ?_)
            refine lv_goto (tgt := 37) hx hb dX2_valueOfEntry_125 (by decide) ?_
            exact ih_37 (b2) (s1 + 1) (by omega) (hb6) (by omega) ls (lv_sub hl [0, 2, 3, 4, 5, 6, 7] rfl)
          · refine lv_iload hx hb dX2_valueOfEntry_56 (lv_at hl 0 rfl) ?_
            refine lv_bipush (v := (nI (32))) hx hb dX2_valueOfEntry_58 (by decide +kernel) ?_
            refine nr_icmp_ge (tgt := 122) hx hb (by omega) (by omega) dX2_valueOfEntry_60 (by decide) (fun c_60 => ?_) (fun c_60 => ?_)
            · have hb6 : b2 = cB (mkI (sF r) (sT r)) (s1 + 1) * ((bD r).length * (bP r).length) := by
                rw [cB_s]
                cases hq : bgB (mkI (sF r) (sT r)) s1 with
                | false => rw [(g1.2.2 hq).1, h2]; rfl
                | true =>
                  have hd32 : d1 = 32 := by
                    first
                    | omega
                    | exact absurd (c_53.symm.trans hq) (by decide)
                  rw [g2, hd32, hcD, h2, show bN true = 1 from rfl, Nat.add_mul, Nat.one_mul]
              refine lv_iinc (v := (nI (s1 + 1))) (lv' := [(6, .int (nI (s1 + 1))), (7, .int (nI (d1))), (5, .int (nI (b2))), (4, .int (bb (nI (pR r)))), (3, .int (bb (mkI (dF r) (dT r)))), (2, .int (bb (mkI (sF r) (sT r)))), (0, .ref (ad.1)), (1, .int (nI (e0)))]) hx hb dX2_valueOfEntry_122 hl (k := 1) rfl (nI_add _ _) (by decide) rfl (fun ls hl => ?_)
              refine lv_goto (tgt := 37) hx hb dX2_valueOfEntry_125 (by decide) ?_
              exact ih_37 (b2) (s1 + 1) (by omega) (hb6) (by omega) ls (lv_sub hl [0, 2, 3, 4, 5, 6, 7] rfl)
            · refine lv_iconst (v := (nI (0))) hx hb dX2_valueOfEntry_63 (by decide +kernel) ?_
              refine lv_istore (lv' := [(8, .int (nI (0))), (7, .int (nI (d1))), (6, .int (nI (s1))), (5, .int (nI (b2))), (4, .int (bb (nI (pR r)))), (3, .int (bb (mkI (dF r) (dT r)))), (2, .int (bb (mkI (sF r) (sT r)))), (0, .ref (ad.1)), (1, .int (nI (e0)))]) hx hb dX2_valueOfEntry_64 hl (by decide) rfl (fun ls hl => ?_)
              have loop_66 : ∀ (fu_66 : Nat) (b3 : Nat) (p1 : Nat), (p1 ≤ 4 ∧ b3 ≤ e0 ∧ (bgB (mkI (dF r) (dT r)) d1 = false → b3 = b2 ∧ p1 = 0)) → (b3 = b2 + cB (nI (pR r)) p1) → 4 - p1 < fu_66 → ∀ ls : Array Slot, lv_has ls 9 [(8, .int (nI (p1))), (7, .int (nI (d1))), (6, .int (nI (s1))), (5, .int (nI (b3))), (4, .int (bb (nI (pR r)))), (3, .int (bb (mkI (dF r) (dT r)))), (2, .int (bb (mkI (sF r) (sT r)))), (0, .ref (ad.1)), (1, .int (nI (e0)))] → W p l e (rmN 3) s m args below meth c H [] 0 0 Q (F0 m 66 ls []) := by
                intro fu_66
                induction fu_66 with
                | zero => exact fun b3 p1 _ _ hk => absurd hk (Nat.not_lt_zero _)
                | succ fu_66 ih_66 =>
                  intro b3 p1 e1 e2 hk_66 ls hl
                  refine lv_iload_n hx hb dX2_valueOfEntry_66 rfl (lv_at hl 5 rfl) ?_
                  refine lv_iload hx hb dX2_valueOfEntry_67 (lv_at hl 1 rfl) ?_
                  refine Rd.callS (r := (bI (bgB (mkI (dF r) (dT r)) (d1)))) (As := [.int (bb (mkI (dF r) (dT r))), .int (nI (d1))]) S ((hol_bb (mkI (dF r) (dT r)) (j := d1) (by omega)) ▸ k_X2_holds l (bb (mkI (dF r) (dT r))) (nI (d1))) (va_cwS 2 hts gX2_valueOfEntry_X2_holds rfl rfl rfl (by decide +kernel) ⟨Nat.le_of_ble_eq_true rfl, Nat.le_of_ble_eq_true rfl⟩) hK rfl hl.1 rfl (Nat.le_of_ble_eq_true rfl) dX2_valueOfEntry_69 ⟨Nat.zero_le _, Nat.zero_le _⟩ ?_
                  refine nr_ifB_eq (tgt := 116) hx hb dX2_valueOfEntry_72 (by decide) (fun c_72 => ?_) (fun c_72 => ?_)
                  · have hb7 : b3 = b + cB (mkI (dF r) (dT r)) (d1 + 1) * (bP r).length := by
                      rw [cB_s]
                      cases hq : bgB (mkI (dF r) (dT r)) d1 with
                      | false => rw [(e1.2.2 hq).1, g2]; rfl
                      | true =>
                        have hp4 : p1 = 4 := by
                          first
                          | omega
                          | exact absurd (c_72.symm.trans hq) (by decide)
                        rw [e2, hp4, hP4, hcP, g2, show bN true = 1 from rfl, Nat.add_mul, Nat.one_mul, Nat.add_assoc]
                    refine lv_iinc (v := (nI (d1 + 1))) (lv' := [(7, .int (nI (d1 + 1))), (8, .int (nI (p1))), (6, .int (nI (s1))), (5, .int (nI (b3))), (4, .int (bb (nI (pR r)))), (3, .int (bb (mkI (dF r) (dT r)))), (2, .int (bb (mkI (sF r) (sT r)))), (0, .ref (ad.1)), (1, .int (nI (e0)))]) hx hb dX2_valueOfEntry_116 hl (k := 1) rfl (nI_add _ _) (by decide) rfl (fun ls hl => ?_)
                    refine lv_goto (tgt := 47) hx hb dX2_valueOfEntry_119 (by decide) ?_
                    exact ih_47 (b3) (d1 + 1) (⟨by omega, by omega, fun q => absurd (c_53.symm.trans q) (by decide)⟩) (hb7) (by omega) ls (lv_sub hl [0, 2, 3, 4, 5, 6, 7, 8] rfl)
                  · refine lv_iload hx hb dX2_valueOfEntry_75 (lv_at hl 0 rfl) ?_
                    refine lv_iconst (v := (nI (4))) hx hb dX2_valueOfEntry_77 (by decide +kernel) ?_
                    refine nr_icmp_ge (tgt := 116) hx hb (by omega) (by omega) dX2_valueOfEntry_78 (by decide) (fun c_78 => ?_) (fun c_78 => ?_)
                    · have hb7 : b3 = b + cB (mkI (dF r) (dT r)) (d1 + 1) * (bP r).length := by
                        rw [cB_s]
                        cases hq : bgB (mkI (dF r) (dT r)) d1 with
                        | false => rw [(e1.2.2 hq).1, g2]; rfl
                        | true =>
                          have hp4 : p1 = 4 := by
                            first
                            | omega
                            | exact absurd (c_72.symm.trans hq) (by decide)
                          rw [e2, hp4, hP4, hcP, g2, show bN true = 1 from rfl, Nat.add_mul, Nat.one_mul, Nat.add_assoc]
                      refine lv_iinc (v := (nI (d1 + 1))) (lv' := [(7, .int (nI (d1 + 1))), (8, .int (nI (p1))), (6, .int (nI (s1))), (5, .int (nI (b3))), (4, .int (bb (nI (pR r)))), (3, .int (bb (mkI (dF r) (dT r)))), (2, .int (bb (mkI (sF r) (sT r)))), (0, .ref (ad.1)), (1, .int (nI (e0)))]) hx hb dX2_valueOfEntry_116 hl (k := 1) rfl (nI_add _ _) (by decide) rfl (fun ls hl => ?_)
                      refine lv_goto (tgt := 47) hx hb dX2_valueOfEntry_119 (by decide) ?_
                      exact ih_47 (b3) (d1 + 1) (⟨by omega, by omega, fun q => absurd (c_53.symm.trans q) (by decide)⟩) (hb7) (by omega) ls (lv_sub hl [0, 2, 3, 4, 5, 6, 7, 8] rfl)
                    · refine lv_iload hx hb dX2_valueOfEntry_81 (lv_at hl 4 rfl) ?_
                      refine lv_iload hx hb dX2_valueOfEntry_83 (lv_at hl 0 rfl) ?_
                      refine Rd.callS (r := (bI (bgB (nI (pR r)) (p1)))) (As := [.int (bb (nI (pR r))), .int (nI (p1))]) S ((hol_bb (nI (pR r)) (j := p1) (by omega)) ▸ k_X2_holds l (bb (nI (pR r))) (nI (p1))) (va_cwS 2 hts gX2_valueOfEntry_X2_holds rfl rfl rfl (by decide +kernel) ⟨Nat.le_of_ble_eq_true rfl, Nat.le_of_ble_eq_true rfl⟩) hK rfl hl.1 rfl (Nat.le_of_ble_eq_true rfl) dX2_valueOfEntry_85 ⟨Nat.zero_le _, Nat.zero_le _⟩ ?_
                      refine nr_ifB_eq (tgt := 110) hx hb dX2_valueOfEntry_88 (by decide) (fun c_88 => ?_) (fun c_88 => ?_)
                      · refine lv_iinc (v := (nI (p1 + 1))) (lv' := [(8, .int (nI (p1 + 1))), (7, .int (nI (d1))), (6, .int (nI (s1))), (5, .int (nI (b3))), (4, .int (bb (nI (pR r)))), (3, .int (bb (mkI (dF r) (dT r)))), (2, .int (bb (mkI (sF r) (sT r)))), (0, .ref (ad.1)), (1, .int (nI (e0)))]) hx hb dX2_valueOfEntry_110 hl (k := 0) rfl (nI_add _ _) (by decide) rfl (fun ls hl => ?_)
                        refine lv_goto (tgt := 66) hx hb dX2_valueOfEntry_113 (by decide) ?_
                        exact ih_66 (b3) (p1 + 1) (⟨by omega, by omega, fun q => absurd (c_72.symm.trans q) (by decide)⟩) (by rw [e2, cB_s]; first | (rw [show bgB (nI (pR r)) p1 = true from c_88]; rfl) | (rw [show bgB (nI (pR r)) p1 = false from c_88]; rfl)) (by omega) ls (lv_sub hl [0, 1, 2, 3, 4, 5, 6, 7, 8] rfl)
                      · refine lv_iload hx hb dX2_valueOfEntry_91 (lv_at hl 3 rfl) ?_
                        refine lv_iload_n hx hb dX2_valueOfEntry_93 rfl (lv_at hl 8 rfl) ?_
                        refine nr_icmp_ne (tgt := 107) hx hb (by omega) (by omega) dX2_valueOfEntry_94 (by decide) (fun c_94 => ?_) (fun c_94 => ?_)
                        · refine lv_iinc (v := (nI (b3 + 1))) (lv' := [(5, .int (nI (b3 + 1))), (8, .int (nI (p1))), (7, .int (nI (d1))), (6, .int (nI (s1))), (4, .int (bb (nI (pR r)))), (3, .int (bb (mkI (dF r) (dT r)))), (2, .int (bb (mkI (sF r) (sT r)))), (0, .ref (ad.1)), (1, .int (nI (e0)))]) hx hb dX2_valueOfEntry_107 hl (k := 3) rfl (nI_add _ _) (by decide) rfl (fun ls hl => ?_)
                          refine lv_iinc (v := (nI (p1 + 1))) (lv' := [(8, .int (nI (p1 + 1))), (5, .int (nI (b3 + 1))), (7, .int (nI (d1))), (6, .int (nI (s1))), (4, .int (bb (nI (pR r)))), (3, .int (bb (mkI (dF r) (dT r)))), (2, .int (bb (mkI (sF r) (sT r)))), (0, .ref (ad.1)), (1, .int (nI (e0)))]) hx hb dX2_valueOfEntry_110 hl (k := 1) rfl (nI_add _ _) (by decide) rfl (fun ls hl => ?_)
                          refine lv_goto (tgt := 66) hx hb dX2_valueOfEntry_113 (by decide) ?_
                          exact ih_66 (b3 + 1) (p1 + 1) (⟨by omega, by omega, fun q => absurd (c_72.symm.trans q) (by decide)⟩) (by rw [e2, cB_s]; first | (rw [show bgB (nI (pR r)) p1 = true from c_88]; rfl) | (rw [show bgB (nI (pR r)) p1 = false from c_88]; rfl)) (by omega) ls (lv_sub hl [0, 2, 3, 1, 4, 5, 6, 7, 8] rfl)
                        · have qS := bkOk_at (okS ho) (n := s1) (by omega) c_53
                          have qD := bkOk_at (okD ho) (n := d1) (by omega) c_72
                          have qP := bkOk_at (okP ho) (n := p1) (by omega) c_88
                          have qE := ent_at (r := r) (e := e0) (a := cB (mkI (sF r) (sT r)) s1) (b := cB (mkI (dF r) (dT r)) d1) (c := cB (nI (pR r)) p1) ho qD.1 qP.1 (by rw [← c_94, e2, g2, h2])
                          refine lv_iload hx hb dX2_valueOfEntry_97 (lv_at hl 2 rfl) ?_
                          refine lv_iload hx hb dX2_valueOfEntry_99 (lv_at hl 1 rfl) ?_
                          refine lv_iload hx hb dX2_valueOfEntry_101 (lv_at hl 0 rfl) ?_
                          refine Rd.callS (r := (nI ((s1) * 128 + (d1) * 4 + (p1)))) (As := [.int (nI (s1)), .int (nI (d1)), .int (nI (p1))]) S (k_X2_packetNumber l (a := s1) (b := d1) (c0 := p1)) (va_cwS 3 hts gX2_valueOfEntry_X2_packetNumber rfl rfl rfl (by decide +kernel) ⟨Nat.le_of_ble_eq_true rfl, Nat.le_of_ble_eq_true rfl⟩) hK rfl hl.1 rfl (Nat.le_of_ble_eq_true rfl) dX2_valueOfEntry_103 ⟨Nat.zero_le _, Nat.zero_le _⟩ ?_
                          exact hE _ _ _ dX2_valueOfEntry_106 (vp_nar_int _) (congrArg nI (by unfold evN; rw [qE.1, qE.2.1, qE.2.2, show bkB (bS r) (cB (mkI (sF r) (sT r)) s1) = s1 from qS.2.1, show bkB (bD r) (cB (mkI (dF r) (dT r)) d1) = d1 from qD.2.1, show bkB (bP r) (cB (nI (pR r)) p1) = p1 from qP.2.1]; omega))
              exact loop_66 _ (b2) (0) (⟨Nat.zero_le _, g1.2.1, fun _ => ⟨rfl, rfl⟩⟩) (rfl) (Nat.lt_succ_self _) ls (lv_sub hl [0, 1, 2, 3, 4, 5, 6, 7, 8] rfl)
      exact loop_47 _ (b) (0) (⟨Nat.zero_le _, h1.2, fun _ => ⟨rfl, rfl⟩⟩) (by rw [show cB (mkI (dF r) (dT r)) 0 = 0 from rfl, Nat.zero_mul]; rfl) (Nat.lt_succ_self _) ls (lv_sub hl [0, 1, 2, 3, 4, 5, 6, 7] rfl)
  exact loop_37 _ (0) (0) (⟨Nat.zero_le _, Nat.zero_le _⟩) ((Nat.zero_mul _).symm) (Nat.lt_succ_self _) ls (lv_sub hl [0, 1, 2, 3, 4, 5, 6] rfl)
set_option maxHeartbeats 4000000 in
set_option maxRecDepth 100000 in
theorem k_X2_blockMask (l : Launch) {D : va_G} {Y : Nat → ClassId} {H : Heap} {set : Int32} {num lim : Nat} (hnum : num < 32) (hlim : 1 ≤ lim) : Rd l yX2_blockMask wsX2_blockMask 2 D Y [.int (set), .int (nI (num)), .int (nI (lim))] H ((nI (lim - 1)) &&& (-(nI (bsF set num 6)))) := by
  refine Rd.start (cc := cX2_blockMask) (maxL := 3) (rt := .int) (by decide) rfl (Nat.le_of_ble_eq_true rfl) ?_
  intro p e s m args below meth c ls Q S hK hl hE
  have S : CallFix p m c cX2_blockMask 3 s args wsX2_blockMask RX2 := S
  have hx := S.1
  have hb := S.2.1
  have hts := S.2.2.2.2
  have hl : lv_has ls 3 [(0, .int (set)), (1, .int (nI (num))), (2, .int (nI (lim)))] := hl
  refine lv_iload_n hx hb dX2_blockMask_0 rfl (lv_at hl 2 rfl) ?_
  refine lv_iconst (v := (nI (1))) hx hb dX2_blockMask_1 (by decide +kernel) ?_
  refine nr_isub hx hb (by omega) dX2_blockMask_2 ?_
  refine lv_iload_n hx hb dX2_blockMask_3 rfl (lv_at hl 0 rfl) ?_
  refine lv_iload_n hx hb dX2_blockMask_4 rfl (lv_at hl 1 rfl) ?_
  refine Rd.callS (r := (nI (bsF (set) (num) 6))) (As := [.int (set), .int (nI (num))]) S (k_X2_blockSize l (set := (set)) (num := num) (by omega)) (va_cwS 2 hts gX2_blockMask_X2_blockSize rfl rfl rfl (by decide +kernel) ⟨Nat.le_of_ble_eq_true rfl, Nat.le_of_ble_eq_true rfl⟩) hK rfl hl.1 rfl (Nat.le_of_ble_eq_true rfl) dX2_blockMask_5 ⟨Nat.zero_le _, Nat.zero_le _⟩ ?_
  refine lv_ineg hx hb dX2_blockMask_8 ?_
  refine lv_iand hx hb dX2_blockMask_9 ?_
  exact hE _ _ _ dX2_blockMask_10 (vp_nar_int _) (rfl)
set_option maxHeartbeats 4000000 in
set_option maxRecDepth 100000 in
theorem k_X2_entries (l : Launch) {D : va_G} {Y : Nat → ClassId} {H : Heap} {x la na ea cap : Nat} {mod ju mi lo : Int32} {es : Nat → Option Nat} {nt : Nat → Int32} {L : List RA} {i : Nat}  (hA : rdA D Y x la na ea cap mod es nt ju mi lo L H) (hi : i < L.length) : Rd l yX2_entries wsX2_entries 4 D Y [.ref (x), .int (nI (i))] H (nI (enN (gt (RS L) (i)))) := by
  refine Rd.start (cc := cX2_entries) (maxL := 2) (rt := .int) (by decide) rfl (Nat.le_of_ble_eq_true rfl) ?_
  intro p e s m args below meth c ls Q S hK hl hE
  have S : CallFix p m c cX2_entries 2 s args wsX2_entries RX2 := S
  have hx := S.1
  have hb := S.2.1
  have hts := S.2.2.2.2
  have hl : lv_has ls 2 [(0, .ref (x)), (1, .int (nI (i)))] := hl
  have hA0 := hA
  obtain ⟨hX, hL, hN, hE2, hR, hok⟩ := hA
  have hlen : (RS L).length = L.length := List.length_map ..
  have hn : L.length ≤ 16 := by have := hok.1; omega
  have hoo : ∀ i, i < L.length → rvOk (gt (RS L) i) := fun i hi => hok.2 i (by omega)
  refine lv_aload_n hx hb dX2_entries_0 rfl (lv_at hl 0 rfl) ?_
  refine lv_iload_n hx hb dX2_entries_1 rfl (lv_at hl 1 rfl) ?_
  refine RdA.callV (x := (gl L (i)).2.1) (As := [.int (nI (i))]) S (k_X2_ruleAt l hA0 (i := i) (by omega)) (cwV 1 hts gX2_entries_X2_ruleAt rfl rfl rfl (by decide +kernel) ⟨Nat.le_of_ble_eq_true rfl, Nat.le_of_ble_eq_true rfl⟩) hK (va_recv hK.1 hX (ci := 2) (q0 := 0) rfl rfl) rfl hl.1 rfl (Nat.le_of_ble_eq_true rfl) dX2_entries_2 ⟨Nat.zero_le _, Nat.zero_le _⟩ ?_
  refine Rd.callS (r := (nI (enN (gt (RS L) (i))))) (As := [.ref ((gl L (i)).2.1)]) S (k_X2_entryCount l (hR (i) (by omega)).2 (hoo (i) (by omega))) (va_cwS 1 hts gX2_entries_X2_entryCount rfl rfl rfl (by decide +kernel) ⟨Nat.le_of_ble_eq_true rfl, Nat.le_of_ble_eq_true rfl⟩) hK rfl hl.1 rfl (Nat.le_of_ble_eq_true rfl) dX2_entries_5 ⟨Nat.zero_le _, Nat.zero_le _⟩ ?_
  exact hE _ _ _ dX2_entries_8 (vp_nar_int _) (rfl)
set_option maxHeartbeats 4000000 in
set_option maxRecDepth 100000 in
theorem k_X2_allEntries (l : Launch) {D : va_G} {Y : Nat → ClassId} {H : Heap} {x la na ea cap : Nat} {mod ju mi lo : Int32} {es : Nat → Option Nat} {nt : Nat → Int32} {L : List RA}  (hA : rdA D Y x la na ea cap mod es nt ju mi lo L H) : Rd l yX2_allEntries wsX2_allEntries 4 D Y [.ref (x)] H (nI (sumN (fun k => enN (gt (RS L) k)) L.length)) := by
  refine Rd.start (cc := cX2_allEntries) (maxL := 3) (rt := .int) (by decide) rfl (Nat.le_of_ble_eq_true rfl) ?_
  intro p e s m args below meth c ls Q S hK hl hE
  have S : CallFix p m c cX2_allEntries 3 s args wsX2_allEntries RX2 := S
  have hx := S.1
  have hb := S.2.1
  have hts := S.2.2.2.2
  have hl : lv_has ls 3 [(0, .ref (x))] := hl
  have hA0 := hA
  obtain ⟨hX, hL, hN, hE2, hR, hok⟩ := hA
  have hlen : (RS L).length = L.length := List.length_map ..
  have hn : L.length ≤ 16 := by have := hok.1; omega
  have hoo : ∀ i, i < L.length → rvOk (gt (RS L) i) := fun i hi => hok.2 i (by omega)
  refine lv_iconst (v := (nI (0))) hx hb dX2_allEntries_0 (by decide +kernel) ?_
  refine lv_istore_n (lv' := [(1, .int (nI (0))), (0, .ref (x))]) hx hb dX2_allEntries_1 rfl hl (by decide) rfl (fun ls hl => ?_)
  refine lv_iconst (v := (nI (0))) hx hb dX2_allEntries_2 (by decide +kernel) ?_
  refine lv_istore_n (lv' := [(2, .int (nI (0))), (1, .int (nI (0))), (0, .ref (x))]) hx hb dX2_allEntries_3 rfl hl (by decide) rfl (fun ls hl => ?_)
  have loop_4 : ∀ (fu_4 : Nat) (n : Nat) (i : Nat), (i ≤ L.length) → (n = sumN (fun k => enN (gt (RS L) k)) i) → L.length - i < fu_4 → ∀ ls : Array Slot, lv_has ls 3 [(2, .int (nI (i))), (1, .int (nI (n))), (0, .ref (x))] → W p l e (rmN 4) s m args below meth c H [] 0 0 Q (F0 m 4 ls []) := by
    intro fu_4
    induction fu_4 with
    | zero => exact fun n i _ _ hk => absurd hk (Nat.not_lt_zero _)
    | succ fu_4 ih_4 =>
      intro n i h1 h2 hk_4 ls hl
      refine lv_iload_n hx hb dX2_allEntries_4 rfl (lv_at hl 0 rfl) ?_
      refine lv_aload_n hx hb dX2_allEntries_5 rfl (lv_at hl 2 rfl) ?_
      refine nr_get (C := RX2) (T := TX2) (N := 5) (ci := 2) S (fun _ h => List.mem_cons_of_mem _ (List.mem_append_left _ (List.mem_append_left _ (List.mem_append_left _ (List.mem_append_right _ (h)))))) hK hX 0 rfl rfl 0 (by decide) (List.mem_of_getElem? (i := 1) rfl) rfl dX2_allEntries_6 ?_
      refine Rd.callV (r := (nI (L.length))) (As := []) S (k_Jx4a65c_size_8abf5 l hL) (cwV 0 hts gX2_allEntries_Jx4a65c_size_8abf5 rfl rfl rfl (by decide +kernel) ⟨Nat.le_of_ble_eq_true rfl, Nat.le_of_ble_eq_true rfl⟩) hK (va_recv hK.1 hL (ci := 4) (q0 := 0) rfl rfl) rfl hl.1 rfl (Nat.le_of_ble_eq_true rfl) dX2_allEntries_9 ⟨Nat.zero_le _, Nat.zero_le _⟩ ?_
      refine nr_icmp_ge (tgt := 38) hx hb (by omega) (by omega) dX2_allEntries_12 (by decide) (fun c_12 => ?_) (fun c_12 => ?_)
      · refine lv_iload_n hx hb dX2_allEntries_38 rfl (lv_at hl 1 rfl) ?_
        exact hE _ _ _ dX2_allEntries_39 (vp_nar_int _) (sumN_end h1 c_12 h2)
      · refine lv_iload_n hx hb dX2_allEntries_15 rfl (lv_at hl 1 rfl) ?_
        refine lv_aload_n hx hb dX2_allEntries_16 rfl (lv_at hl 2 rfl) ?_
        refine nr_get (C := RX2) (T := TX2) (N := 5) (ci := 2) S (fun _ h => List.mem_cons_of_mem _ (List.mem_append_left _ (List.mem_append_left _ (List.mem_append_left _ (List.mem_append_right _ (h)))))) hK hX 0 rfl rfl 0 (by decide) (List.mem_of_getElem? (i := 1) rfl) rfl dX2_allEntries_17 ?_
        refine lv_iload_n hx hb dX2_allEntries_20 rfl (lv_at hl 0 rfl) ?_
        refine RdA.callV (x := (gl L (i)).2.1) (As := [.int (nI (i))]) S (k_Jx4a65c_get_915e3 l hL (hE2 (by omega)).1 (i := i) (by omega) (hE2 (by omega)).2.1 (hE2 (by omega)).2.2 (hR (i) (by omega)).1) (cwV 1 hts gX2_allEntries_Jx4a65c_get_915e3 rfl rfl rfl (by decide +kernel) ⟨Nat.le_of_ble_eq_true rfl, Nat.le_of_ble_eq_true rfl⟩) hK (va_recv hK.1 hL (ci := 4) (q0 := 0) rfl rfl) rfl hl.1 rfl (Nat.le_of_ble_eq_true rfl) dX2_allEntries_21 ⟨Nat.zero_le _, Nat.zero_le _⟩ ?_
        refine nr_cast (C := RX1) (T := TX1) (N := 5) (ci := 1) S (List.mem_of_getElem? (i := 2) rfl) hK (hR (i) (by omega)).2 0 rfl rfl dX2_allEntries_24 ?_
        refine Rd.callS (r := (nI (enN (gt (RS L) (i))))) (As := [.ref ((gl L (i)).2.1)]) S (k_X2_entryCount l (hR (i) (by omega)).2 (hoo (i) (by omega))) (va_cwS 1 hts gX2_allEntries_X2_entryCount rfl rfl rfl (by decide +kernel) ⟨Nat.le_of_ble_eq_true rfl, Nat.le_of_ble_eq_true rfl⟩) hK rfl hl.1 rfl (Nat.le_of_ble_eq_true rfl) dX2_allEntries_27 ⟨Nat.zero_le _, Nat.zero_le _⟩ ?_
        refine nr_iadd hx hb dX2_allEntries_30 ?_
        refine lv_istore_n (lv' := [(1, .int (nI (n + (enN (gt (RS L) (i)))))), (2, .int (nI (i))), (0, .ref (x))]) hx hb dX2_allEntries_31 rfl hl (by decide) rfl (fun ls hl => ?_)
        refine lv_iinc (v := (nI (i + 1))) (lv' := [(2, .int (nI (i + 1))), (1, .int (nI (n + (enN (gt (RS L) (i)))))), (0, .ref (x))]) hx hb dX2_allEntries_32 hl (k := 1) rfl (nI_add _ _) (by decide) rfl (fun ls hl => ?_)
        refine lv_goto (tgt := 4) hx hb dX2_allEntries_35 (by decide) ?_
        exact ih_4 (n + (enN (gt (RS L) (i)))) (i + 1) (by omega) (by rw [h2]; rfl) (by omega) ls (lv_sub hl [0, 1, 2] rfl)
  exact loop_4 _ (0) (0) (Nat.zero_le _) (rfl) (Nat.lt_succ_self _) ls (lv_sub hl [0, 1, 2] rfl)
set_option maxHeartbeats 4000000 in
set_option maxRecDepth 100000 in
theorem k_X2_entryValue (l : Launch) {D : va_G} {Y : Nat → ClassId} {H : Heap} {x la na ea cap : Nat} {mod ju mi lo : Int32} {es : Nat → Option Nat} {nt : Nat → Int32} {L : List RA} {i e0 : Nat}  (hA : rdA D Y x la na ea cap mod es nt ju mi lo L H) (hi : i < L.length) (he : e0 < enN (gt (RS L) (i))) : Rd l yX2_entryValue wsX2_entryValue 4 D Y [.ref (x), .int (nI (i)), .int (nI (e0))] H (nI (evN (gt (RS L) (i)) e0)) := by
  refine Rd.start (cc := cX2_entryValue) (maxL := 3) (rt := .int) (by decide) rfl (Nat.le_of_ble_eq_true rfl) ?_
  intro p e s m args below meth c ls Q S hK hl hE
  have S : CallFix p m c cX2_entryValue 3 s args wsX2_entryValue RX2 := S
  have hx := S.1
  have hb := S.2.1
  have hts := S.2.2.2.2
  have hl : lv_has ls 3 [(0, .ref (x)), (1, .int (nI (i))), (2, .int (nI (e0)))] := hl
  have hA0 := hA
  obtain ⟨hX, hL, hN, hE2, hR, hok⟩ := hA
  have hlen : (RS L).length = L.length := List.length_map ..
  have hn : L.length ≤ 16 := by have := hok.1; omega
  have hoo : ∀ i, i < L.length → rvOk (gt (RS L) i) := fun i hi => hok.2 i (by omega)
  refine lv_aload_n hx hb dX2_entryValue_0 rfl (lv_at hl 0 rfl) ?_
  refine lv_iload_n hx hb dX2_entryValue_1 rfl (lv_at hl 1 rfl) ?_
  refine RdA.callV (x := (gl L (i)).2.1) (As := [.int (nI (i))]) S (k_X2_ruleAt l hA0 (i := i) (by omega)) (cwV 1 hts gX2_entryValue_X2_ruleAt rfl rfl rfl (by decide +kernel) ⟨Nat.le_of_ble_eq_true rfl, Nat.le_of_ble_eq_true rfl⟩) hK (va_recv hK.1 hX (ci := 2) (q0 := 0) rfl rfl) rfl hl.1 rfl (Nat.le_of_ble_eq_true rfl) dX2_entryValue_2 ⟨Nat.zero_le _, Nat.zero_le _⟩ ?_
  refine lv_iload_n hx hb dX2_entryValue_5 rfl (lv_at hl 2 rfl) ?_
  refine Rd.callS (r := (nI (evN (gt (RS L) (i)) (e0)))) (As := [.ref ((gl L (i)).2.1), .int (nI (e0))]) S (k_X2_valueOfEntry l (hR (i) (by omega)).2 (hoo (i) (by omega)) (e0 := e0) he) (va_cwS 2 hts gX2_entryValue_X2_valueOfEntry rfl rfl rfl (by decide +kernel) ⟨Nat.le_of_ble_eq_true rfl, Nat.le_of_ble_eq_true rfl⟩) hK rfl hl.1 rfl (Nat.le_of_ble_eq_true rfl) dX2_entryValue_6 ⟨Nat.zero_le _, Nat.zero_le _⟩ ?_
  exact hE _ _ _ dX2_entryValue_9 (vp_nar_int _) (rfl)
set_option maxHeartbeats 4000000 in
set_option maxRecDepth 100000 in
theorem k_X2_entryMask (l : Launch) {D : va_G} {Y : Nat → ClassId} {H : Heap} {x la na ea cap : Nat} {mod ju mi lo : Int32} {es : Nat → Option Nat} {nt : Nat → Int32} {L : List RA} {i e0 : Nat}  (hA : rdA D Y x la na ea cap mod es nt ju mi lo L H) (hi : i < L.length) (he : e0 < enN (gt (RS L) (i))) : Rd l yX2_entryMask wsX2_entryMask 4 D Y [.ref (x), .int (nI (i)), .int (nI (e0))] H (nI (emN (gt (RS L) (i)) e0)) := by
  refine Rd.start (cc := cX2_entryMask) (maxL := 8) (rt := .int) (by decide) rfl (Nat.le_of_ble_eq_true rfl) ?_
  intro p e s m args below meth c ls Q S hK hl hE
  have S : CallFix p m c cX2_entryMask 8 s args wsX2_entryMask RX2 := S
  have hx := S.1
  have hb := S.2.1
  have hts := S.2.2.2.2
  have hl : lv_has ls 8 [(0, .ref (x)), (1, .int (nI (i))), (2, .int (nI (e0)))] := hl
  have hA0 := hA
  obtain ⟨hX, hL, hN, hE2, hR, hok⟩ := hA
  have hlen : (RS L).length = L.length := List.length_map ..
  have hn : L.length ≤ 16 := by have := hok.1; omega
  have hoo : ∀ i, i < L.length → rvOk (gt (RS L) i) := fun i hi => hok.2 i (by omega)
  have ho := hoo i hi
  have qS := bS_at ho (eS_lt he)
  have qD := bD_at ho (eD_lt ho e0)
  have qP := bP_at ho (eP_lt ho e0)
  have hev : evN (gt (RS L) (i)) e0 = 128 * bkB (bS (gt (RS L) (i))) (eS (gt (RS L) (i)) e0) + 4 * bkB (bD (gt (RS L) (i))) (eD (gt (RS L) (i)) e0) + bkB (bP (gt (RS L) (i))) (eP (gt (RS L) (i)) e0) := rfl
  refine lv_aload_n hx hb dX2_entryMask_0 rfl (lv_at hl 0 rfl) ?_
  refine lv_iload_n hx hb dX2_entryMask_1 rfl (lv_at hl 1 rfl) ?_
  refine RdA.callV (x := (gl L (i)).2.1) (As := [.int (nI (i))]) S (k_X2_ruleAt l hA0 (i := i) (by omega)) (cwV 1 hts gX2_entryMask_X2_ruleAt rfl rfl rfl (by decide +kernel) ⟨Nat.le_of_ble_eq_true rfl, Nat.le_of_ble_eq_true rfl⟩) hK (va_recv hK.1 hX (ci := 2) (q0 := 0) rfl rfl) rfl hl.1 rfl (Nat.le_of_ble_eq_true rfl) dX2_entryMask_2 ⟨Nat.zero_le _, Nat.zero_le _⟩ ?_
  refine lv_astore_n (lv' := [(3, .ref ((gl L (i)).2.1)), (0, .ref (x)), (1, .int (nI (i))), (2, .int (nI (e0)))]) hx hb dX2_entryMask_5 rfl hl (by decide) rfl (fun ls hl => ?_)
  refine lv_aload_n hx hb dX2_entryMask_6 rfl (lv_at hl 0 rfl) ?_
  refine lv_iload_n hx hb dX2_entryMask_7 rfl (lv_at hl 3 rfl) ?_
  refine Rd.callS (r := (nI (evN (gt (RS L) (i)) (e0)))) (As := [.ref ((gl L (i)).2.1), .int (nI (e0))]) S (k_X2_valueOfEntry l (hR (i) (by omega)).2 (hoo (i) (by omega)) (e0 := e0) he) (va_cwS 2 hts gX2_entryMask_X2_valueOfEntry rfl rfl rfl (by decide +kernel) ⟨Nat.le_of_ble_eq_true rfl, Nat.le_of_ble_eq_true rfl⟩) hK rfl hl.1 rfl (Nat.le_of_ble_eq_true rfl) dX2_entryMask_8 ⟨Nat.zero_le _, Nat.zero_le _⟩ ?_
  refine lv_istore (lv' := [(4, .int (nI (evN (gt (RS L) (i)) (e0)))), (3, .ref ((gl L (i)).2.1)), (0, .ref (x)), (1, .int (nI (i))), (2, .int (nI (e0)))]) hx hb dX2_entryMask_11 hl (by decide) rfl (fun ls hl => ?_)
  refine lv_aload_n hx hb dX2_entryMask_13 rfl (lv_at hl 1 rfl) ?_
  refine nr_get (C := RX1) (T := TX1) (N := 5) (ci := 1) S (fun _ h => List.mem_cons_of_mem _ (List.mem_append_left _ (List.mem_append_left _ (List.mem_append_left _ (List.mem_append_left _ (List.mem_append_right _ (h))))))) hK (hR (i) (by omega)).2 0 rfl rfl 1 (by decide) (List.mem_of_getElem? (i := 1) rfl) rfl dX2_entryMask_14 ?_
  refine nr_get (C := RX0) (T := TX0) (N := 3) (ci := 0) S (fun _ h => List.mem_cons_of_mem _ (List.mem_append_left _ (List.mem_append_left _ (List.mem_append_left _ (List.mem_append_right _ (h)))))) hK (hR (i) (by omega)).2 1 rfl rfl 2 (by decide) (List.mem_of_getElem? (i := 2) rfl) rfl dX2_entryMask_17 ?_
  refine lv_iload hx hb dX2_entryMask_20 (lv_at hl 0 rfl) ?_
  refine lv_bipush (v := (nI (7))) hx hb dX2_entryMask_22 (by decide +kernel) ?_
  refine lv_ishr hx hb dX2_entryMask_24 ?_
  refine nr_top (y := (nI (bkB (bS (gt (RS L) (i))) (eS (gt (RS L) (i)) e0)))) ((pk_shrN (by omega) _ 7 (s_l 7 (by decide))).trans (congrArg nI (by omega))) ?_
  refine lv_bipush (v := (nI (32))) hx hb dX2_entryMask_25 (by decide +kernel) ?_
  refine Rd.callS (r := (nI (32 - bsF (mkI (sF (gt (RS L) (i))) (sT (gt (RS L) (i)))) (bkB (bS (gt (RS L) (i))) (eS (gt (RS L) (i)) e0)) 6))) (As := [.int (mkI (sF (gt (RS L) (i))) (sT (gt (RS L) (i)))), .int (nI (bkB (bS (gt (RS L) (i))) (eS (gt (RS L) (i)) e0))), .int (nI (32))]) S ((msk32 (by rw [← qS.2.1]; exact qS.2.2)) ▸ k_X2_blockMask l (set := (mkI (sF (gt (RS L) (i))) (sT (gt (RS L) (i))))) (num := bkB (bS (gt (RS L) (i))) (eS (gt (RS L) (i)) e0)) (lim := 32) (by omega) (by decide)) (va_cwS 3 hts gX2_entryMask_X2_blockMask rfl rfl rfl (by decide +kernel) ⟨Nat.le_of_ble_eq_true rfl, Nat.le_of_ble_eq_true rfl⟩) hK rfl hl.1 rfl (Nat.le_of_ble_eq_true rfl) dX2_entryMask_27 ⟨Nat.zero_le _, Nat.zero_le _⟩ ?_
  refine lv_istore (lv' := [(5, .int (nI (32 - bsF (mkI (sF (gt (RS L) (i))) (sT (gt (RS L) (i)))) (bkB (bS (gt (RS L) (i))) (eS (gt (RS L) (i)) e0)) 6))), (4, .int (nI (evN (gt (RS L) (i)) (e0)))), (3, .ref ((gl L (i)).2.1)), (0, .ref (x)), (1, .int (nI (i))), (2, .int (nI (e0)))]) hx hb dX2_entryMask_30 hl (by decide) rfl (fun ls hl => ?_)
  refine lv_aload_n hx hb dX2_entryMask_32 rfl (lv_at hl 2 rfl) ?_
  refine nr_get (C := RX1) (T := TX1) (N := 5) (ci := 1) S (fun _ h => List.mem_cons_of_mem _ (List.mem_append_left _ (List.mem_append_left _ (List.mem_append_left _ (List.mem_append_left _ (List.mem_append_right _ (h))))))) hK (hR (i) (by omega)).2 0 rfl rfl 2 (by decide) (List.mem_of_getElem? (i := 3) rfl) rfl dX2_entryMask_33 ?_
  refine nr_get (C := RX0) (T := TX0) (N := 3) (ci := 0) S (fun _ h => List.mem_cons_of_mem _ (List.mem_append_left _ (List.mem_append_left _ (List.mem_append_left _ (List.mem_append_right _ (h)))))) hK (hR (i) (by omega)).2 2 rfl rfl 2 (by decide) (List.mem_of_getElem? (i := 2) rfl) rfl dX2_entryMask_36 ?_
  refine lv_iload hx hb dX2_entryMask_39 (lv_at hl 1 rfl) ?_
  refine lv_iconst (v := (nI (2))) hx hb dX2_entryMask_41 (by decide +kernel) ?_
  refine lv_ishr hx hb dX2_entryMask_42 ?_
  refine nr_top (y := (nI (evN (gt (RS L) (i)) e0 / 2 ^ 2))) (pk_shrN (by omega) _ 2 (s_l 2 (by decide))) ?_
  refine lv_bipush (v := (nI (31))) hx hb dX2_entryMask_43 (by decide +kernel) ?_
  refine lv_iand hx hb dX2_entryMask_45 ?_
  refine nr_top (y := (nI (bkB (bD (gt (RS L) (i))) (eD (gt (RS L) (i)) e0)))) ((pk_andN (by omega) 5 (by decide +kernel)).trans (congrArg nI (by omega))) ?_
  refine lv_bipush (v := (nI (32))) hx hb dX2_entryMask_46 (by decide +kernel) ?_
  refine Rd.callS (r := (nI (32 - bsF (mkI (dF (gt (RS L) (i))) (dT (gt (RS L) (i)))) (bkB (bD (gt (RS L) (i))) (eD (gt (RS L) (i)) e0)) 6))) (As := [.int (mkI (dF (gt (RS L) (i))) (dT (gt (RS L) (i)))), .int (nI (bkB (bD (gt (RS L) (i))) (eD (gt (RS L) (i)) e0))), .int (nI (32))]) S ((msk32 (by rw [← qD.2.1]; exact qD.2.2)) ▸ k_X2_blockMask l (set := (mkI (dF (gt (RS L) (i))) (dT (gt (RS L) (i))))) (num := bkB (bD (gt (RS L) (i))) (eD (gt (RS L) (i)) e0)) (lim := 32) (by omega) (by decide)) (va_cwS 3 hts gX2_entryMask_X2_blockMask rfl rfl rfl (by decide +kernel) ⟨Nat.le_of_ble_eq_true rfl, Nat.le_of_ble_eq_true rfl⟩) hK rfl hl.1 rfl (Nat.le_of_ble_eq_true rfl) dX2_entryMask_48 ⟨Nat.zero_le _, Nat.zero_le _⟩ ?_
  refine lv_istore (lv' := [(6, .int (nI (32 - bsF (mkI (dF (gt (RS L) (i))) (dT (gt (RS L) (i)))) (bkB (bD (gt (RS L) (i))) (eD (gt (RS L) (i)) e0)) 6))), (5, .int (nI (32 - bsF (mkI (sF (gt (RS L) (i))) (sT (gt (RS L) (i)))) (bkB (bS (gt (RS L) (i))) (eS (gt (RS L) (i)) e0)) 6))), (4, .int (nI (evN (gt (RS L) (i)) (e0)))), (3, .ref ((gl L (i)).2.1)), (0, .ref (x)), (1, .int (nI (i))), (2, .int (nI (e0)))]) hx hb dX2_entryMask_51 hl (by decide) rfl (fun ls hl => ?_)
  refine lv_aload_n hx hb dX2_entryMask_53 rfl (lv_at hl 3 rfl) ?_
  refine nr_get (C := RX1) (T := TX1) (N := 5) (ci := 1) S (fun _ h => List.mem_cons_of_mem _ (List.mem_append_left _ (List.mem_append_left _ (List.mem_append_left _ (List.mem_append_left _ (List.mem_append_right _ (h))))))) hK (hR (i) (by omega)).2 0 rfl rfl 3 (by decide) (List.mem_of_getElem? (i := 4) rfl) rfl dX2_entryMask_54 ?_
  refine lv_iload hx hb dX2_entryMask_57 (lv_at hl 2 rfl) ?_
  refine lv_iconst (v := (nI (3))) hx hb dX2_entryMask_59 (by decide +kernel) ?_
  refine lv_iand hx hb dX2_entryMask_60 ?_
  refine nr_top (y := (nI (bkB (bP (gt (RS L) (i))) (eP (gt (RS L) (i)) e0)))) ((pk_andN (by omega) 2 (by decide +kernel)).trans (congrArg nI (by omega))) ?_
  refine lv_iconst (v := (nI (4))) hx hb dX2_entryMask_61 (by decide +kernel) ?_
  refine Rd.callS (r := (nI (4 - bsF (nI (pR (gt (RS L) (i)))) (bkB (bP (gt (RS L) (i))) (eP (gt (RS L) (i)) e0)) 6))) (As := [.int (nI (pR (gt (RS L) (i)))), .int (nI (bkB (bP (gt (RS L) (i))) (eP (gt (RS L) (i)) e0))), .int (nI (4))]) S ((msk4 (by rw [← qP.2.1]; exact qP.2.2) (by rw [← qP.2.1]; exact bP_s4 ho _)) ▸ k_X2_blockMask l (set := (nI (pR (gt (RS L) (i))))) (num := bkB (bP (gt (RS L) (i))) (eP (gt (RS L) (i)) e0)) (lim := 4) (by omega) (by decide)) (va_cwS 3 hts gX2_entryMask_X2_blockMask rfl rfl rfl (by decide +kernel) ⟨Nat.le_of_ble_eq_true rfl, Nat.le_of_ble_eq_true rfl⟩) hK rfl hl.1 rfl (Nat.le_of_ble_eq_true rfl) dX2_entryMask_62 ⟨Nat.zero_le _, Nat.zero_le _⟩ ?_
  refine lv_istore (lv' := [(7, .int (nI (4 - bsF (nI (pR (gt (RS L) (i)))) (bkB (bP (gt (RS L) (i))) (eP (gt (RS L) (i)) e0)) 6))), (6, .int (nI (32 - bsF (mkI (dF (gt (RS L) (i))) (dT (gt (RS L) (i)))) (bkB (bD (gt (RS L) (i))) (eD (gt (RS L) (i)) e0)) 6))), (5, .int (nI (32 - bsF (mkI (sF (gt (RS L) (i))) (sT (gt (RS L) (i)))) (bkB (bS (gt (RS L) (i))) (eS (gt (RS L) (i)) e0)) 6))), (4, .int (nI (evN (gt (RS L) (i)) (e0)))), (3, .ref ((gl L (i)).2.1)), (0, .ref (x)), (1, .int (nI (i))), (2, .int (nI (e0)))]) hx hb dX2_entryMask_65 hl (by decide) rfl (fun ls hl => ?_)
  refine lv_iload hx hb dX2_entryMask_67 (lv_at hl 2 rfl) ?_
  refine lv_iload hx hb dX2_entryMask_69 (lv_at hl 1 rfl) ?_
  refine lv_iload hx hb dX2_entryMask_71 (lv_at hl 0 rfl) ?_
  refine Rd.callS (r := (nI ((32 - bsF (mkI (sF (gt (RS L) (i))) (sT (gt (RS L) (i)))) (bkB (bS (gt (RS L) (i))) (eS (gt (RS L) (i)) e0)) 6) * 128 + (32 - bsF (mkI (dF (gt (RS L) (i))) (dT (gt (RS L) (i)))) (bkB (bD (gt (RS L) (i))) (eD (gt (RS L) (i)) e0)) 6) * 4 + (4 - bsF (nI (pR (gt (RS L) (i)))) (bkB (bP (gt (RS L) (i))) (eP (gt (RS L) (i)) e0)) 6)))) (As := [.int (nI (32 - bsF (mkI (sF (gt (RS L) (i))) (sT (gt (RS L) (i)))) (bkB (bS (gt (RS L) (i))) (eS (gt (RS L) (i)) e0)) 6)), .int (nI (32 - bsF (mkI (dF (gt (RS L) (i))) (dT (gt (RS L) (i)))) (bkB (bD (gt (RS L) (i))) (eD (gt (RS L) (i)) e0)) 6)), .int (nI (4 - bsF (nI (pR (gt (RS L) (i)))) (bkB (bP (gt (RS L) (i))) (eP (gt (RS L) (i)) e0)) 6))]) S (k_X2_packetNumber l (a := 32 - bsF (mkI (sF (gt (RS L) (i))) (sT (gt (RS L) (i)))) (bkB (bS (gt (RS L) (i))) (eS (gt (RS L) (i)) e0)) 6) (b := 32 - bsF (mkI (dF (gt (RS L) (i))) (dT (gt (RS L) (i)))) (bkB (bD (gt (RS L) (i))) (eD (gt (RS L) (i)) e0)) 6) (c0 := 4 - bsF (nI (pR (gt (RS L) (i)))) (bkB (bP (gt (RS L) (i))) (eP (gt (RS L) (i)) e0)) 6)) (va_cwS 3 hts gX2_entryMask_X2_packetNumber rfl rfl rfl (by decide +kernel) ⟨Nat.le_of_ble_eq_true rfl, Nat.le_of_ble_eq_true rfl⟩) hK rfl hl.1 rfl (Nat.le_of_ble_eq_true rfl) dX2_entryMask_73 ⟨Nat.zero_le _, Nat.zero_le _⟩ ?_
  exact hE _ _ _ dX2_entryMask_76 (vp_nar_int _) (congrArg nI (by unfold emN; rw [qS.2.1, qD.2.1, qP.2.1]; have h4 := bP_s4 ho (eP (gt (RS L) (i)) e0); rw [qP.2.1] at h4; omega))
