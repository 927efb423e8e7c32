/-! the class's ranges and rules: what they answer -/
set_option maxHeartbeats 4000000 in
set_option maxRecDepth 100000 in
theorem k_X2_setOf (l : Launch) {D : va_G} {Y : Nat → ClassId} {H : Heap} {a b : Nat} (hb : b ≤ 31) : Rd l yX2_setOf wsX2_setOf 0 D Y [.int (nI (a)), .int (nI (b))] H (mkI a b) := by
  refine Rd.start (cc := cX2_setOf) (maxL := 2) (rt := .int) (by decide) rfl (Nat.le_of_ble_eq_true rfl) ?_
  intro p e s m args below meth c ls Q S hK hl hE
  have S : CallFix p m c cX2_setOf 2 s args wsX2_setOf RX2 := S
  have hx := S.1
  have hb := S.2.1
  have hts := S.2.2.2.2
  have hl : lv_has ls 2 [(0, .int (nI (a))), (1, .int (nI (b)))] := hl
  refine lv_iconst (v := ((-1 : Int32))) hx hb dX2_setOf_0 (by decide +kernel) ?_
  refine lv_iload_n hx hb dX2_setOf_1 rfl (lv_at hl 0 rfl) ?_
  refine lv_ishl hx hb dX2_setOf_2 ?_
  refine lv_iconst (v := ((-1 : Int32))) hx hb dX2_setOf_3 (by decide +kernel) ?_
  refine lv_bipush (v := (nI (31))) hx hb dX2_setOf_4 (by decide +kernel) ?_
  refine lv_iload_n hx hb dX2_setOf_6 rfl (lv_at hl 1 rfl) ?_
  refine nr_isub hx hb (by omega) dX2_setOf_7 ?_
  refine lv_iushr hx hb dX2_setOf_8 rfl ?_
  refine lv_iand hx hb dX2_setOf_9 ?_
  exact hE _ _ _ dX2_setOf_10 (vp_nar_int _) (rfl)
set_option maxHeartbeats 4000000 in
set_option maxRecDepth 100000 in
theorem k_X2_holds (l : Launch) {D : va_G} {Y : Nat → ClassId} {H : Heap} (a b : Int32) : Rd l yX2_holds wsX2_holds 0 D Y [.int (a), .int (b)] H (bI (holI a b)) := by
  refine Rd.start (cc := cX2_holds) (maxL := 2) (rt := .boolean) (by decide) rfl (Nat.le_of_ble_eq_true rfl) ?_
  intro p e s m args below meth c ls Q S hK hl hE
  have S : CallFix p m c cX2_holds 2 s args wsX2_holds RX2 := S
  have hx := S.1
  have hb := S.2.1
  have hts := S.2.2.2.2
  have hl : lv_has ls 2 [(0, .int (a)), (1, .int (b))] := hl
  refine lv_iload_n hx hb dX2_holds_0 rfl (lv_at hl 0 rfl) ?_
  refine lv_iload_n hx hb dX2_holds_1 rfl (lv_at hl 1 rfl) ?_
  refine lv_ishr hx hb dX2_holds_2 ?_
  refine lv_iconst (v := (nI (1))) hx hb dX2_holds_3 (by decide +kernel) ?_
  refine lv_iand hx hb dX2_holds_4 ?_
  refine lv_iconst (v := (nI (1))) hx hb dX2_holds_5 (by decide +kernel) ?_
  refine lv_icmp_ne (tgt := 13) hx hb dX2_holds_6 (by decide) (fun c_6 => ?_) (fun c_6 => ?_)
  · refine lv_iconst (v := (nI (0))) hx hb dX2_holds_13 (by decide +kernel) ?_
    exact hE _ _ _ dX2_holds_14 (rfl) (bI_f (holI_f c_6))
  · refine lv_iconst (v := (nI (1))) hx hb dX2_holds_9 (by decide +kernel) ?_
    refine lv_goto (tgt := 14) hx hb dX2_holds_10 (by decide) ?_
    exact hE _ _ _ dX2_holds_14 (rfl) (bI_t (holI_t c_6))
set_option maxHeartbeats 4000000 in
set_option maxRecDepth 100000 in
theorem k_X0_asNumber (l : Launch) {D : va_G} {Y : Nat → ClassId} {H : Heap} {a f t : Nat}  (hP : va_P D aCl [(a, rgE f t)] H) : Rd l yX0_asNumber wsX0_asNumber 0 D Y [.ref (a)] H (nI (100 * f + t)) := by
  refine Rd.start (cc := cX0_asNumber) (maxL := 1) (rt := .int) (by decide) rfl (Nat.le_of_ble_eq_true rfl) ?_
  intro p e s m args below meth c ls Q S hK hl hE
  have S : CallFix p m c cX0_asNumber 1 s args wsX0_asNumber RX0 := S
  have hx := S.1
  have hb := S.2.1
  have hts := S.2.2.2.2
  have hl : lv_has ls 1 [(0, .ref (a))] := hl
  refine lv_bipush (v := (nI (100))) hx hb dX0_asNumber_0 (by decide +kernel) ?_
  refine lv_aload_n hx hb dX0_asNumber_2 rfl (lv_at hl 0 rfl) ?_
  refine nr_get (C := RX0) (T := TX0) (N := 3) (ci := 0) S (fun _ h => List.mem_cons_of_mem _ (List.mem_append_right _ (h))) hK hP 0 rfl rfl 0 (by decide) (List.mem_of_getElem? (i := 1) rfl) rfl dX0_asNumber_3 ?_
  refine nr_imul hx hb dX0_asNumber_6 ?_
  refine lv_aload_n hx hb dX0_asNumber_7 rfl (lv_at hl 0 rfl) ?_
  refine nr_get (C := RX0) (T := TX0) (N := 3) (ci := 0) S (fun _ h => List.mem_cons_of_mem _ (List.mem_append_right _ (h))) hK hP 0 rfl rfl 1 (by decide) (List.mem_of_getElem? (i := 2) rfl) rfl dX0_asNumber_8 ?_
  refine nr_iadd hx hb dX0_asNumber_11 ?_
  exact hE _ _ _ dX0_asNumber_12 (vp_nar_int _) (rfl)
set_option maxHeartbeats 4000000 in
set_option maxRecDepth 100000 in
theorem k_X0_includes (l : Launch) {D : va_G} {Y : Nat → ClassId} {H : Heap} {a f t : Nat} {v : Nat}  (hP : va_P D aCl [(a, rgE f t)] H) (hbd : f ≤ 31 ∧ t ≤ 31) (hv : v ≤ 31) : Rd l yX0_includes wsX0_includes 0 D Y [.ref (a), .int (nI (v))] H (bI (inN v f t)) := by
  refine Rd.start (cc := cX0_includes) (maxL := 2) (rt := .boolean) (by decide) rfl (Nat.le_of_ble_eq_true rfl) ?_
  intro p e s m args below meth c ls Q S hK hl hE
  have S : CallFix p m c cX0_includes 2 s args wsX0_includes RX0 := S
  have hx := S.1
  have hb := S.2.1
  have hts := S.2.2.2.2
  have hl : lv_has ls 2 [(0, .ref (a)), (1, .int (nI (v)))] := hl
  refine lv_iload_n hx hb dX0_includes_0 rfl (lv_at hl 1 rfl) ?_
  refine lv_aload_n hx hb dX0_includes_1 rfl (lv_at hl 0 rfl) ?_
  refine nr_get (C := RX0) (T := TX0) (N := 3) (ci := 0) S (fun _ h => List.mem_cons_of_mem _ (List.mem_append_right _ (h))) hK hP 0 rfl rfl 0 (by decide) (List.mem_of_getElem? (i := 1) rfl) rfl dX0_includes_2 ?_
  refine nr_icmp_lt (tgt := 20) hx hb (by omega) (by omega) dX0_includes_5 (by decide) (fun c_5 => ?_) (fun c_5 => ?_)
  · refine lv_iconst (v := (nI (0))) hx hb dX0_includes_20 (by decide +kernel) ?_
    exact hE _ _ _ dX0_includes_21 (rfl) (bI_f (by first | exact inN_f1 c_5 | exact inN_f2 c_13))
  · refine lv_iload_n hx hb dX0_includes_8 rfl (lv_at hl 1 rfl) ?_
    refine lv_aload_n hx hb dX0_includes_9 rfl (lv_at hl 0 rfl) ?_
    refine nr_get (C := RX0) (T := TX0) (N := 3) (ci := 0) S (fun _ h => List.mem_cons_of_mem _ (List.mem_append_right _ (h))) hK hP 0 rfl rfl 1 (by decide) (List.mem_of_getElem? (i := 2) rfl) rfl dX0_includes_10 ?_
    refine nr_icmp_gt (tgt := 20) hx hb (by omega) (by omega) dX0_includes_13 (by decide) (fun c_13 => ?_) (fun c_13 => ?_)
    · refine lv_iconst (v := (nI (0))) hx hb dX0_includes_20 (by decide +kernel) ?_
      exact hE _ _ _ dX0_includes_21 (rfl) (bI_f (by first | exact inN_f1 c_5 | exact inN_f2 c_13))
    · refine lv_iconst (v := (nI (1))) hx hb dX0_includes_16 (by decide +kernel) ?_
      refine lv_goto (tgt := 21) hx hb dX0_includes_17 (by decide) ?_
      exact hE _ _ _ dX0_includes_21 (rfl) (bI_t (inN_t c_5 c_13))
set_option maxHeartbeats 4000000 in
set_option maxRecDepth 100000 in
theorem k_X0_includesAll (l : Launch) {D : va_G} {Y : Nat → ClassId} {H : Heap} {a b f t f2 t2 : Nat}  (hP : va_P D aCl [(a, rgE f t)] H) (hP2 : va_P D aCl [(b, rgE f2 t2)] H) (hbd : f ≤ 31 ∧ t ≤ 31 ∧ f2 ≤ 31 ∧ t2 ≤ 31) : Rd l yX0_includesAll wsX0_includesAll 0 D Y [.ref (a), .ref (b)] H (bI (iaB f t f2 t2)) := by
  refine Rd.start (cc := cX0_includesAll) (maxL := 2) (rt := .boolean) (by decide) rfl (Nat.le_of_ble_eq_true rfl) ?_
  intro p e s m args below meth c ls Q S hK hl hE
  have S : CallFix p m c cX0_includesAll 2 s args wsX0_includesAll RX0 := S
  have hx := S.1
  have hb := S.2.1
  have hts := S.2.2.2.2
  have hl : lv_has ls 2 [(0, .ref (a)), (1, .ref (b))] := hl
  refine lv_aload_n hx hb dX0_includesAll_0 rfl (lv_at hl 1 rfl) ?_
  refine nr_get (C := RX0) (T := TX0) (N := 3) (ci := 0) S (fun _ h => List.mem_cons_of_mem _ (List.mem_append_right _ (h))) hK hP2 0 rfl rfl 0 (by decide) (List.mem_of_getElem? (i := 1) rfl) rfl dX0_includesAll_1 ?_
  refine lv_aload_n hx hb dX0_includesAll_4 rfl (lv_at hl 0 rfl) ?_
  refine nr_get (C := RX0) (T := TX0) (N := 3) (ci := 0) S (fun _ h => List.mem_cons_of_mem _ (List.mem_append_right _ (h))) hK hP 0 rfl rfl 0 (by decide) (List.mem_of_getElem? (i := 1) rfl) rfl dX0_includesAll_5 ?_
  refine nr_icmp_lt (tgt := 26) hx hb (by omega) (by omega) dX0_includesAll_8 (by decide) (fun c_8 => ?_) (fun c_8 => ?_)
  · refine lv_iconst (v := (nI (0))) hx hb dX0_includesAll_26 (by decide +kernel) ?_
    exact hE _ _ _ dX0_includesAll_27 (rfl) (bI_f (by unfold iaB; first | (rw [decide_eq_false (Nat.not_le.mpr c_8)]; rfl) | (rw [decide_eq_false (Nat.not_le.mpr c_19), Bool.and_false])))
  · refine lv_aload_n hx hb dX0_includesAll_11 rfl (lv_at hl 1 rfl) ?_
    refine nr_get (C := RX0) (T := TX0) (N := 3) (ci := 0) S (fun _ h => List.mem_cons_of_mem _ (List.mem_append_right _ (h))) hK hP2 0 rfl rfl 1 (by decide) (List.mem_of_getElem? (i := 2) rfl) rfl dX0_includesAll_12 ?_
    refine lv_aload_n hx hb dX0_includesAll_15 rfl (lv_at hl 0 rfl) ?_
    refine nr_get (C := RX0) (T := TX0) (N := 3) (ci := 0) S (fun _ h => List.mem_cons_of_mem _ (List.mem_append_right _ (h))) hK hP 0 rfl rfl 1 (by decide) (List.mem_of_getElem? (i := 2) rfl) rfl dX0_includesAll_16 ?_
    refine nr_icmp_gt (tgt := 26) hx hb (by omega) (by omega) dX0_includesAll_19 (by decide) (fun c_19 => ?_) (fun c_19 => ?_)
    · refine lv_iconst (v := (nI (0))) hx hb dX0_includesAll_26 (by decide +kernel) ?_
      exact hE _ _ _ dX0_includesAll_27 (rfl) (bI_f (by unfold iaB; first | (rw [decide_eq_false (Nat.not_le.mpr c_8)]; rfl) | (rw [decide_eq_false (Nat.not_le.mpr c_19), Bool.and_false])))
    · refine lv_iconst (v := (nI (1))) hx hb dX0_includesAll_22 (by decide +kernel) ?_
      refine lv_goto (tgt := 27) hx hb dX0_includesAll_23 (by decide) ?_
      exact hE _ _ _ dX0_includesAll_27 (rfl) (bI_t (by unfold iaB; rw [decide_eq_true c_8, decide_eq_true c_19]; rfl))
set_option maxHeartbeats 4000000 in
set_option maxRecDepth 100000 in
theorem k_X0_isSame (l : Launch) {D : va_G} {Y : Nat → ClassId} {H : Heap} {a b f t f2 t2 : Nat}  (hP : va_P D aCl [(a, rgE f t)] H) (hP2 : va_P D aCl [(b, rgE f2 t2)] H) (hbd : f ≤ 31 ∧ t ≤ 31 ∧ f2 ≤ 31 ∧ t2 ≤ 31) : Rd l yX0_isSame wsX0_isSame 0 D Y [.ref (a), .ref (b)] H (bI (smB f t f2 t2)) := by
  refine Rd.start (cc := cX0_isSame) (maxL := 2) (rt := .boolean) (by decide) rfl (Nat.le_of_ble_eq_true rfl) ?_
  intro p e s m args below meth c ls Q S hK hl hE
  have S : CallFix p m c cX0_isSame 2 s args wsX0_isSame RX0 := S
  have hx := S.1
  have hb := S.2.1
  have hts := S.2.2.2.2
  have hl : lv_has ls 2 [(0, .ref (a)), (1, .ref (b))] := hl
  refine lv_aload_n hx hb dX0_isSame_0 rfl (lv_at hl 1 rfl) ?_
  refine nr_get (C := RX0) (T := TX0) (N := 3) (ci := 0) S (fun _ h => List.mem_cons_of_mem _ (List.mem_append_right _ (h))) hK hP2 0 rfl rfl 0 (by decide) (List.mem_of_getElem? (i := 1) rfl) rfl dX0_isSame_1 ?_
  refine lv_aload_n hx hb dX0_isSame_4 rfl (lv_at hl 0 rfl) ?_
  refine nr_get (C := RX0) (T := TX0) (N := 3) (ci := 0) S (fun _ h => List.mem_cons_of_mem _ (List.mem_append_right _ (h))) hK hP 0 rfl rfl 0 (by decide) (List.mem_of_getElem? (i := 1) rfl) rfl dX0_isSame_5 ?_
  refine nr_icmp_ne (tgt := 26) hx hb (by omega) (by omega) dX0_isSame_8 (by decide) (fun c_8 => ?_) (fun c_8 => ?_)
  · refine lv_iconst (v := (nI (0))) hx hb dX0_isSame_26 (by decide +kernel) ?_
    exact hE _ _ _ dX0_isSame_27 (rfl) (bI_f (by unfold smB; first | (rw [decide_eq_false c_8]; rfl) | (rw [decide_eq_false c_19, Bool.and_false])))
  · refine lv_aload_n hx hb dX0_isSame_11 rfl (lv_at hl 1 rfl) ?_
    refine nr_get (C := RX0) (T := TX0) (N := 3) (ci := 0) S (fun _ h => List.mem_cons_of_mem _ (List.mem_append_right _ (h))) hK hP2 0 rfl rfl 1 (by decide) (List.mem_of_getElem? (i := 2) rfl) rfl dX0_isSame_12 ?_
    refine lv_aload_n hx hb dX0_isSame_15 rfl (lv_at hl 0 rfl) ?_
    refine nr_get (C := RX0) (T := TX0) (N := 3) (ci := 0) S (fun _ h => List.mem_cons_of_mem _ (List.mem_append_right _ (h))) hK hP 0 rfl rfl 1 (by decide) (List.mem_of_getElem? (i := 2) rfl) rfl dX0_isSame_16 ?_
    refine nr_icmp_ne (tgt := 26) hx hb (by omega) (by omega) dX0_isSame_19 (by decide) (fun c_19 => ?_) (fun c_19 => ?_)
    · refine lv_iconst (v := (nI (0))) hx hb dX0_isSame_26 (by decide +kernel) ?_
      exact hE _ _ _ dX0_isSame_27 (rfl) (bI_f (by unfold smB; first | (rw [decide_eq_false c_8]; rfl) | (rw [decide_eq_false c_19, Bool.and_false])))
    · refine lv_iconst (v := (nI (1))) hx hb dX0_isSame_22 (by decide +kernel) ?_
      refine lv_goto (tgt := 27) hx hb dX0_isSame_23 (by decide) ?_
      exact hE _ _ _ dX0_isSame_27 (rfl) (bI_t (by unfold smB; rw [decide_eq_true c_8, decide_eq_true c_19]; rfl))
set_option maxHeartbeats 4000000 in
set_option maxRecDepth 100000 in
theorem k_X0_isJoinable (l : Launch) {D : va_G} {Y : Nat → ClassId} {H : Heap} {a b f t f2 t2 : Nat}  (hP : va_P D aCl [(a, rgE f t)] H) (hP2 : va_P D aCl [(b, rgE f2 t2)] H) (hbd : f ≤ 31 ∧ t ≤ 31 ∧ f2 ≤ 31 ∧ t2 ≤ 31) : Rd l yX0_isJoinable wsX0_isJoinable 0 D Y [.ref (a), .ref (b)] H (bI (jnB f t f2 t2)) := by
  refine Rd.start (cc := cX0_isJoinable) (maxL := 2) (rt := .boolean) (by decide) rfl (Nat.le_of_ble_eq_true rfl) ?_
  intro p e s m args below meth c ls Q S hK hl hE
  have S : CallFix p m c cX0_isJoinable 2 s args wsX0_isJoinable RX0 := S
  have hx := S.1
  have hb := S.2.1
  have hts := S.2.2.2.2
  have hl : lv_has ls 2 [(0, .ref (a)), (1, .ref (b))] := hl
  refine lv_aload_n hx hb dX0_isJoinable_0 rfl (lv_at hl 0 rfl) ?_
  refine nr_get (C := RX0) (T := TX0) (N := 3) (ci := 0) S (fun _ h => List.mem_cons_of_mem _ (List.mem_append_right _ (h))) hK hP 0 rfl rfl 0 (by decide) (List.mem_of_getElem? (i := 1) rfl) rfl dX0_isJoinable_1 ?_
  refine lv_aload_n hx hb dX0_isJoinable_4 rfl (lv_at hl 1 rfl) ?_
  refine nr_get (C := RX0) (T := TX0) (N := 3) (ci := 0) S (fun _ h => List.mem_cons_of_mem _ (List.mem_append_right _ (h))) hK hP2 0 rfl rfl 1 (by decide) (List.mem_of_getElem? (i := 2) rfl) rfl dX0_isJoinable_5 ?_
  refine lv_iconst (v := (nI (1))) hx hb dX0_isJoinable_8 (by decide +kernel) ?_
  refine nr_iadd hx hb dX0_isJoinable_9 ?_
  refine nr_icmp_gt (tgt := 30) hx hb (by omega) (by omega) dX0_isJoinable_10 (by decide) (fun c_10 => ?_) (fun c_10 => ?_)
  · refine lv_iconst (v := (nI (0))) hx hb dX0_isJoinable_30 (by decide +kernel) ?_
    exact hE _ _ _ dX0_isJoinable_31 (rfl) (bI_f (by unfold jnB; first | (rw [decide_eq_false (Nat.not_le.mpr c_10)]; rfl) | (rw [decide_eq_false (Nat.not_le.mpr c_23), Bool.and_false])))
  · refine lv_aload_n hx hb dX0_isJoinable_13 rfl (lv_at hl 1 rfl) ?_
    refine nr_get (C := RX0) (T := TX0) (N := 3) (ci := 0) S (fun _ h => List.mem_cons_of_mem _ (List.mem_append_right _ (h))) hK hP2 0 rfl rfl 0 (by decide) (List.mem_of_getElem? (i := 1) rfl) rfl dX0_isJoinable_14 ?_
    refine lv_aload_n hx hb dX0_isJoinable_17 rfl (lv_at hl 0 rfl) ?_
    refine nr_get (C := RX0) (T := TX0) (N := 3) (ci := 0) S (fun _ h => List.mem_cons_of_mem _ (List.mem_append_right _ (h))) hK hP 0 rfl rfl 1 (by decide) (List.mem_of_getElem? (i := 2) rfl) rfl dX0_isJoinable_18 ?_
    refine lv_iconst (v := (nI (1))) hx hb dX0_isJoinable_21 (by decide +kernel) ?_
    refine nr_iadd hx hb dX0_isJoinable_22 ?_
    refine nr_icmp_gt (tgt := 30) hx hb (by omega) (by omega) dX0_isJoinable_23 (by decide) (fun c_23 => ?_) (fun c_23 => ?_)
    · refine lv_iconst (v := (nI (0))) hx hb dX0_isJoinable_30 (by decide +kernel) ?_
      exact hE _ _ _ dX0_isJoinable_31 (rfl) (bI_f (by unfold jnB; first | (rw [decide_eq_false (Nat.not_le.mpr c_10)]; rfl) | (rw [decide_eq_false (Nat.not_le.mpr c_23), Bool.and_false])))
    · refine lv_iconst (v := (nI (1))) hx hb dX0_isJoinable_26 (by decide +kernel) ?_
      refine lv_goto (tgt := 31) hx hb dX0_isJoinable_27 (by decide) ?_
      exact hE _ _ _ dX0_isJoinable_31 (rfl) (bI_t (by unfold jnB; rw [decide_eq_true c_10, decide_eq_true c_23]; rfl))
set_option maxHeartbeats 4000000 in
set_option maxRecDepth 100000 in
theorem k_X0_commonNumbers (l : Launch) {D : va_G} {Y : Nat → ClassId} {H : Heap} {a b f t f2 t2 : Nat}  (hP : va_P D aCl [(a, rgE f t)] H) (hP2 : va_P D aCl [(b, rgE f2 t2)] H) (hbd : f ≤ 31 ∧ t ≤ 31 ∧ f2 ≤ 31 ∧ t2 ≤ 31) : Rd l yX0_commonNumbers wsX0_commonNumbers 1 D Y [.ref (a), .ref (b)] H (nI (cnN f t f2 t2)) := by
  refine Rd.start (cc := cX0_commonNumbers) (maxL := 2) (rt := .int) (by decide) rfl (Nat.le_of_ble_eq_true rfl) ?_
  intro p e s m args below meth c ls Q S hK hl hE
  have S : CallFix p m c cX0_commonNumbers 2 s args wsX0_commonNumbers RX0 := S
  have hx := S.1
  have hb := S.2.1
  have hts := S.2.2.2.2
  have hl : lv_has ls 2 [(0, .ref (a)), (1, .ref (b))] := hl
  refine lv_iconst (v := (nI (0))) hx hb dX0_commonNumbers_0 (by decide +kernel) ?_
  refine lv_aload_n hx hb dX0_commonNumbers_1 rfl (lv_at hl 0 rfl) ?_
  refine nr_get (C := RX0) (T := TX0) (N := 3) (ci := 0) S (fun _ h => List.mem_cons_of_mem _ (List.mem_append_right _ (h))) hK hP 0 rfl rfl 1 (by decide) (List.mem_of_getElem? (i := 1) rfl) rfl dX0_commonNumbers_2 ?_
  refine lv_aload_n hx hb dX0_commonNumbers_5 rfl (lv_at hl 1 rfl) ?_
  refine nr_get (C := RX0) (T := TX0) (N := 3) (ci := 0) S (fun _ h => List.mem_cons_of_mem _ (List.mem_append_right _ (h))) hK hP2 0 rfl rfl 1 (by decide) (List.mem_of_getElem? (i := 1) rfl) rfl dX0_commonNumbers_6 ?_
  refine va_mmin hx hb (S.2.2.1.trans hl.1.symm) S.2.2.2.1 (hts _ (List.mem_of_getElem? (i := 2) rfl)) (hts _ (List.mem_of_getElem? (i := 3) rfl)) (hts _ (List.mem_of_getElem? (i := 4) rfl)) (hts _ (List.mem_of_getElem? (i := 5) rfl)) (Nat.le_of_ble_eq_true rfl) (Nat.le_of_ble_eq_true rfl) (Nat.zero_le _) (Nat.zero_le _) dX0_commonNumbers_9 ?_
  refine nr_top (y := (nI (min (t) (t2)))) (mn_N (by omega) (by omega)) ?_
  refine lv_aload_n hx hb dX0_commonNumbers_12 rfl (lv_at hl 0 rfl) ?_
  refine nr_get (C := RX0) (T := TX0) (N := 3) (ci := 0) S (fun _ h => List.mem_cons_of_mem _ (List.mem_append_right _ (h))) hK hP 0 rfl rfl 0 (by decide) (List.mem_of_getElem? (i := 6) rfl) rfl dX0_commonNumbers_13 ?_
  refine lv_aload_n hx hb dX0_commonNumbers_16 rfl (lv_at hl 1 rfl) ?_
  refine nr_get (C := RX0) (T := TX0) (N := 3) (ci := 0) S (fun _ h => List.mem_cons_of_mem _ (List.mem_append_right _ (h))) hK hP2 0 rfl rfl 0 (by decide) (List.mem_of_getElem? (i := 6) rfl) rfl dX0_commonNumbers_17 ?_
  refine va_mmax hx hb (S.2.2.1.trans hl.1.symm) S.2.2.2.1 (hts _ (List.mem_of_getElem? (i := 7) rfl)) (hts _ (List.mem_of_getElem? (i := 8) rfl)) (hts _ (List.mem_of_getElem? (i := 4) rfl)) (hts _ (List.mem_of_getElem? (i := 9) rfl)) (Nat.le_of_ble_eq_true rfl) (Nat.le_of_ble_eq_true rfl) (Nat.zero_le _) (Nat.zero_le _) dX0_commonNumbers_20 ?_
  refine nr_top (y := (nI (max (f) (f2)))) (mx_N (by omega) (by omega)) ?_
  refine lv_isub hx hb dX0_commonNumbers_23 ?_
  refine lv_iconst (v := (nI (1))) hx hb dX0_commonNumbers_24 (by decide +kernel) ?_
  refine lv_iadd hx hb dX0_commonNumbers_25 ?_
  refine va_mmax hx hb (S.2.2.1.trans hl.1.symm) S.2.2.2.1 (hts _ (List.mem_of_getElem? (i := 7) rfl)) (hts _ (List.mem_of_getElem? (i := 8) rfl)) (hts _ (List.mem_of_getElem? (i := 4) rfl)) (hts _ (List.mem_of_getElem? (i := 9) rfl)) (Nat.le_of_ble_eq_true rfl) (Nat.le_of_ble_eq_true rfl) (Nat.zero_le _) (Nat.zero_le _) dX0_commonNumbers_26 ?_
  exact hE _ _ _ dX0_commonNumbers_29 (vp_nar_int _) (cn_I hbd)
/-! bits counted byte by byte -/
theorem and_b8 (u v : Nat) : u &&& v = 256 * (u / 256 &&& v / 256) + (u % 256 &&& v % 256) := by
  have h1 : (u &&& v) % 256 = u % 256 &&& v % 256 := Nat.and_mod_two_pow (n := 8)
  have dd : ∀ n : Nat, n / 256 = n / 2 / 2 / 2 / 2 / 2 / 2 / 2 / 2 := fun n => by omega
  have h2 : (u &&& v) / 256 = u / 256 &&& v / 256 := by rw [dd, dd u, dd v, and_half, and_half, and_half, and_half, and_half, and_half, and_half, and_half]
  rw [← h1, ← h2]
  exact (Nat.div_add_mod _ 256).symm
def by4 (a b c0 d : Nat) : Nat := a + 256 * (b + 256 * (c0 + 256 * d))
theorem and_s {t x c0 m : Nat} (hx9 : x < 256) (hm : m < 256) : (x + 256 * t) &&& (m + 256 * c0) = (x &&& m) + 256 * (t &&& c0) := by
  rw [and_b8, show (x + 256 * t) / 256 = t from by omega, show (m + 256 * c0) / 256 = c0 from by omega, show (x + 256 * t) % 256 = x from by omega, show (m + 256 * c0) % 256 = m from by omega]
  exact Nat.add_comm _ _
theorem and_by4 {a b c0 d m : Nat} (ha : a < 256) (hb9 : b < 256) (hc : c0 < 256) (hm : m < 256) : by4 a b c0 d &&& by4 m m m m = by4 (a &&& m) (b &&& m) (c0 &&& m) (d &&& m) := by
  unfold by4
  rw [and_s ha hm, and_s hb9 hm, and_s hc hm]
def g1 (b : Nat) : Nat := b - (b / 2 &&& 85)
def g2 (b : Nat) : Nat := (g1 b &&& 51) + (g1 b / 4 &&& 51)
theorem f1_ok : ∀ b : Fin 256, ∀ e : Fin 2, ((b.val / 2 + 128 * e.val) &&& 85) = (b.val / 2 &&& 85) ∧ (b.val / 2 &&& 85) ≤ b.val := by decide +kernel
theorem g1_ok : ∀ b : Fin 256, ∀ e : Fin 4, ((g1 b.val / 4 + 64 * e.val) &&& 51) = (g1 b.val / 4 &&& 51) ∧ g1 b.val < 256 := by decide +kernel
theorem g2_ok : ∀ b : Fin 256, ∀ k : Fin 5, g2 b.val + g2 b.val / 16 + 16 * k.val < 256 ∧ ((g2 b.val + g2 b.val / 16 + 16 * k.val) &&& 15) = popN 8 b.val ∧ g2 b.val % 16 ≤ 4 ∧ popN 8 b.val ≤ 8 := by decide +kernel
theorem sw1 {a b c0 d : Nat} (ha : a < 256) (hb9 : b < 256) (hc : c0 < 256) (hd : d < 256) : by4 a b c0 d / 2 &&& by4 85 85 85 85 = by4 (a / 2 &&& 85) (b / 2 &&& 85) (c0 / 2 &&& 85) (d / 2 &&& 85) := by
  rw [show by4 a b c0 d / 2 = by4 (a / 2 + 128 * (b % 2)) (b / 2 + 128 * (c0 % 2)) (c0 / 2 + 128 * (d % 2)) (d / 2) from by unfold by4; omega]
  rw [and_by4 (by omega) (by omega) (by omega) (by omega)]
  rw [(f1_ok ⟨a, ha⟩ ⟨b % 2, by omega⟩).1, (f1_ok ⟨b, hb9⟩ ⟨c0 % 2, by omega⟩).1, (f1_ok ⟨c0, hc⟩ ⟨d % 2, by omega⟩).1]
theorem sw2 {a b c0 d : Nat} (ha : a < 256) (hb9 : b < 256) (hc : c0 < 256) (hd : d < 256) : by4 a b c0 d - (by4 a b c0 d / 2 &&& by4 85 85 85 85) = by4 (g1 a) (g1 b) (g1 c0) (g1 d) := by
  rw [sw1 ha hb9 hc hd]
  have h1 := (f1_ok ⟨a, ha⟩ 0).2
  have h2 := (f1_ok ⟨b, hb9⟩ 0).2
  have h3 := (f1_ok ⟨c0, hc⟩ 0).2
  have h4 := (f1_ok ⟨d, hd⟩ 0).2
  have h1 : (a / 2 &&& 85) ≤ a := h1
  have h2 : (b / 2 &&& 85) ≤ b := h2
  have h3 : (c0 / 2 &&& 85) ≤ c0 := h3
  have h4 : (d / 2 &&& 85) ≤ d := h4
  unfold by4 g1
  omega
theorem sw3 {a b c0 d : Nat} (ha : a < 256) (hb9 : b < 256) (hc : c0 < 256) (hd : d < 256) : (by4 (g1 a) (g1 b) (g1 c0) (g1 d) &&& by4 51 51 51 51) + (by4 (g1 a) (g1 b) (g1 c0) (g1 d) / 4 &&& by4 51 51 51 51) = by4 (g2 a) (g2 b) (g2 c0) (g2 d) := by
  have h1 : g1 a < 256 := (g1_ok ⟨a, ha⟩ 0).2
  have h2 : g1 b < 256 := (g1_ok ⟨b, hb9⟩ 0).2
  have h3 : g1 c0 < 256 := (g1_ok ⟨c0, hc⟩ 0).2
  have h4 : g1 d < 256 := (g1_ok ⟨d, hd⟩ 0).2
  rw [show by4 (g1 a) (g1 b) (g1 c0) (g1 d) / 4 = by4 (g1 a / 4 + 64 * (g1 b % 4)) (g1 b / 4 + 64 * (g1 c0 % 4)) (g1 c0 / 4 + 64 * (g1 d % 4)) (g1 d / 4) from by unfold by4; omega]
  rw [and_by4 h1 h2 h3 (by omega), and_by4 (by omega) (by omega) (by omega) (by omega)]
  have q1 : ((g1 a / 4 + 64 * (g1 b % 4)) &&& 51) = (g1 a / 4 &&& 51) := (g1_ok ⟨a, ha⟩ ⟨g1 b % 4, by omega⟩).1
  have q2 : ((g1 b / 4 + 64 * (g1 c0 % 4)) &&& 51) = (g1 b / 4 &&& 51) := (g1_ok ⟨b, hb9⟩ ⟨g1 c0 % 4, by omega⟩).1
  have q3 : ((g1 c0 / 4 + 64 * (g1 d % 4)) &&& 51) = (g1 c0 / 4 &&& 51) := (g1_ok ⟨c0, hc⟩ ⟨g1 d % 4, by omega⟩).1
  rw [q1, q2, q3]
  unfold by4 g2
  omega
theorem sw4 {a b c0 d : Nat} (ha : a < 256) (hb9 : b < 256) (hc : c0 < 256) (hd : d < 256) : (by4 (g2 a) (g2 b) (g2 c0) (g2 d) + by4 (g2 a) (g2 b) (g2 c0) (g2 d) / 16) &&& by4 15 15 15 15 = by4 (popN 8 a) (popN 8 b) (popN 8 c0) (popN 8 d) := by
  have k2 : g2 b % 16 < 5 := Nat.lt_succ_of_le (g2_ok ⟨b, hb9⟩ 0).2.2.1
  have k3 : g2 c0 % 16 < 5 := Nat.lt_succ_of_le (g2_ok ⟨c0, hc⟩ 0).2.2.1
  have k4 : g2 d % 16 < 5 := Nat.lt_succ_of_le (g2_ok ⟨d, hd⟩ 0).2.2.1
  have p1 := g2_ok ⟨a, ha⟩ ⟨g2 b % 16, k2⟩
  have p2 := g2_ok ⟨b, hb9⟩ ⟨g2 c0 % 16, k3⟩
  have p3 := g2_ok ⟨c0, hc⟩ ⟨g2 d % 16, k4⟩
  have p4 := g2_ok ⟨d, hd⟩ 0
  rw [show by4 (g2 a) (g2 b) (g2 c0) (g2 d) + by4 (g2 a) (g2 b) (g2 c0) (g2 d) / 16 = by4 (g2 a + g2 a / 16 + 16 * (g2 b % 16)) (g2 b + g2 b / 16 + 16 * (g2 c0 % 16)) (g2 c0 + g2 c0 / 16 + 16 * (g2 d % 16)) (g2 d + g2 d / 16 + 16 * 0) from by unfold by4; omega]
  rw [and_by4 p1.1 p2.1 p3.1 (by omega), p1.2.1, p2.2.1, p3.2.1]
  rw [show (g2 d + g2 d / 16 + 16 * 0) &&& 15 = popN 8 d from p4.2.1]
theorem popN_app : ∀ (j k a t : Nat), a < 2 ^ j → popN (j + k) (a + 2 ^ j * t) = popN j a + popN k t
  | 0, k, a, t, h => by
    have h : a = 0 := by rw [Nat.pow_zero] at h; omega
    rw [h, Nat.zero_add, Nat.zero_add, Nat.pow_zero, Nat.one_mul]
    exact (Nat.zero_add _).symm
  | j + 1, k, a, t, h => by
    have e : 2 ^ (j + 1) * t = 2 * (2 ^ j * t) := by rw [Nat.pow_succ, Nat.mul_comm (2 ^ j) 2, Nat.mul_assoc]
    rw [Nat.pow_succ] at h
    rw [e, show j + 1 + k = (j + k) + 1 from by omega]
    show (a + 2 * (2 ^ j * t)) % 2 + popN (j + k) ((a + 2 * (2 ^ j * t)) / 2) = (a % 2 + popN j (a / 2)) + popN k t
    rw [show (a + 2 * (2 ^ j * t)) / 2 = a / 2 + 2 ^ j * t from by omega, show (a + 2 * (2 ^ j * t)) % 2 = a % 2 from by omega, popN_app j k (a / 2) t (by omega)]
    omega
theorem sw5 {a b c0 d : Nat} (ha : a < 256) (hb9 : b < 256) (hc : c0 < 256) : popN 32 (by4 a b c0 d) = popN 8 a + popN 8 b + popN 8 c0 + popN 8 d := by
  have e1 : popN 32 (a + 256 * (b + 256 * (c0 + 256 * d))) = popN 8 a + popN 24 (b + 256 * (c0 + 256 * d)) := popN_app 8 24 a _ ha
  have e2 : popN 24 (b + 256 * (c0 + 256 * d)) = popN 8 b + popN 16 (c0 + 256 * d) := popN_app 8 16 b _ hb9
  have e3 : popN 16 (c0 + 256 * d) = popN 8 c0 + popN 8 d := popN_app 8 8 c0 d hc
  unfold by4
  omega
theorem tn_sh (x : Int32) (k : Nat) (hk : ((((nI k).toUInt32 &&& Int32.toUInt32 31).toBitVec) % 32).toNat = k) : ((x.toUInt32 >>> ((nI k).toUInt32 &&& Int32.toUInt32 31)).toInt32).toBitVec.toNat = x.toBitVec.toNat / 2 ^ k := pk_ushr x (nI k) k hk
theorem tn_and (x y : Int32) : (x &&& y).toBitVec.toNat = x.toBitVec.toNat &&& y.toBitVec.toNat := by rw [Int32.toBitVec_and, BitVec.toNat_and]
theorem tn_add (x y : Int32) (h : x.toBitVec.toNat + y.toBitVec.toNat < 2 ^ 32) : (x + y).toBitVec.toNat = x.toBitVec.toNat + y.toBitVec.toNat := by
  rw [Int32.toBitVec_add, BitVec.toNat_add]
  exact Nat.mod_eq_of_lt h
theorem tn_sub (x y : Int32) (h : y.toBitVec.toNat ≤ x.toBitVec.toNat) : (x - y).toBitVec.toNat = x.toBitVec.toNat - y.toBitVec.toNat := by
  have h1 := x.toBitVec.isLt
  rw [Int32.toBitVec_sub, BitVec.toNat_sub]
  omega
theorem sw6 {p q r t : Nat} (hp : p ≤ 8) (hq : q ≤ 8) (hr : r ≤ 8) (ht : t ≤ 8) : (by4 p q r t + by4 p q r t / 256 + (by4 p q r t + by4 p q r t / 256) / 65536) % 64 = p + q + r + t := by
  have e1 : by4 p q r t / 256 = q + 256 * (r + 256 * t) := by unfold by4; omega
  rw [e1]
  have e2 : (by4 p q r t + (q + 256 * (r + 256 * t))) / 65536 = r + t + 256 * t := by unfold by4; omega
  rw [e2]
  unfold by4
  omega
theorem g2_le : ∀ b : Fin 256, g2 b.val ≤ 68 := by decide +kernel
theorem swar2 (x : Int32) : ((((((((x - (((x).toUInt32 >>> ((nI (1)).toUInt32 &&& Int32.toUInt32 31)).toInt32 &&& (1431655765 : Int32))) &&& (858993459 : Int32)) + ((((x - (((x).toUInt32 >>> ((nI (1)).toUInt32 &&& Int32.toUInt32 31)).toInt32 &&& (1431655765 : Int32)))).toUInt32 >>> ((nI (2)).toUInt32 &&& Int32.toUInt32 31)).toInt32 &&& (858993459 : Int32))) + (((((x - (((x).toUInt32 >>> ((nI (1)).toUInt32 &&& Int32.toUInt32 31)).toInt32 &&& (1431655765 : Int32))) &&& (858993459 : Int32)) + ((((x - (((x).toUInt32 >>> ((nI (1)).toUInt32 &&& Int32.toUInt32 31)).toInt32 &&& (1431655765 : Int32)))).toUInt32 >>> ((nI (2)).toUInt32 &&& Int32.toUInt32 31)).toInt32 &&& (858993459 : Int32)))).toUInt32 >>> ((nI (4)).toUInt32 &&& Int32.toUInt32 31)).toInt32) &&& (252645135 : Int32)) + (((((((x - (((x).toUInt32 >>> ((nI (1)).toUInt32 &&& Int32.toUInt32 31)).toInt32 &&& (1431655765 : Int32))) &&& (858993459 : Int32)) + ((((x - (((x).toUInt32 >>> ((nI (1)).toUInt32 &&& Int32.toUInt32 31)).toInt32 &&& (1431655765 : Int32)))).toUInt32 >>> ((nI (2)).toUInt32 &&& Int32.toUInt32 31)).toInt32 &&& (858993459 : Int32))) + (((((x - (((x).toUInt32 >>> ((nI (1)).toUInt32 &&& Int32.toUInt32 31)).toInt32 &&& (1431655765 : Int32))) &&& (858993459 : Int32)) + ((((x - (((x).toUInt32 >>> ((nI (1)).toUInt32 &&& Int32.toUInt32 31)).toInt32 &&& (1431655765 : Int32)))).toUInt32 >>> ((nI (2)).toUInt32 &&& Int32.toUInt32 31)).toInt32 &&& (858993459 : Int32)))).toUInt32 >>> ((nI (4)).toUInt32 &&& Int32.toUInt32 31)).toInt32) &&& (252645135 : Int32))).toUInt32 >>> ((nI (8)).toUInt32 &&& Int32.toUInt32 31)).toInt32) + ((((((((x - (((x).toUInt32 >>> ((nI (1)).toUInt32 &&& Int32.toUInt32 31)).toInt32 &&& (1431655765 : Int32))) &&& (858993459 : Int32)) + ((((x - (((x).toUInt32 >>> ((nI (1)).toUInt32 &&& Int32.toUInt32 31)).toInt32 &&& (1431655765 : Int32)))).toUInt32 >>> ((nI (2)).toUInt32 &&& Int32.toUInt32 31)).toInt32 &&& (858993459 : Int32))) + (((((x - (((x).toUInt32 >>> ((nI (1)).toUInt32 &&& Int32.toUInt32 31)).toInt32 &&& (1431655765 : Int32))) &&& (858993459 : Int32)) + ((((x - (((x).toUInt32 >>> ((nI (1)).toUInt32 &&& Int32.toUInt32 31)).toInt32 &&& (1431655765 : Int32)))).toUInt32 >>> ((nI (2)).toUInt32 &&& Int32.toUInt32 31)).toInt32 &&& (858993459 : Int32)))).toUInt32 >>> ((nI (4)).toUInt32 &&& Int32.toUInt32 31)).toInt32) &&& (252645135 : Int32)) + (((((((x - (((x).toUInt32 >>> ((nI (1)).toUInt32 &&& Int32.toUInt32 31)).toInt32 &&& (1431655765 : Int32))) &&& (858993459 : Int32)) + ((((x - (((x).toUInt32 >>> ((nI (1)).toUInt32 &&& Int32.toUInt32 31)).toInt32 &&& (1431655765 : Int32)))).toUInt32 >>> ((nI (2)).toUInt32 &&& Int32.toUInt32 31)).toInt32 &&& (858993459 : Int32))) + (((((x - (((x).toUInt32 >>> ((nI (1)).toUInt32 &&& Int32.toUInt32 31)).toInt32 &&& (1431655765 : Int32))) &&& (858993459 : Int32)) + ((((x - (((x).toUInt32 >>> ((nI (1)).toUInt32 &&& Int32.toUInt32 31)).toInt32 &&& (1431655765 : Int32)))).toUInt32 >>> ((nI (2)).toUInt32 &&& Int32.toUInt32 31)).toInt32 &&& (858993459 : Int32)))).toUInt32 >>> ((nI (4)).toUInt32 &&& Int32.toUInt32 31)).toInt32) &&& (252645135 : Int32))).toUInt32 >>> ((nI (8)).toUInt32 &&& Int32.toUInt32 31)).toInt32)).toUInt32 >>> ((nI (16)).toUInt32 &&& Int32.toUInt32 31)).toInt32) &&& nI 63) = nI (popI x) := by
  have hN := x.toBitVec.isLt
  obtain ⟨a, ea⟩ : ∃ z, z = x.toBitVec.toNat % 256 := ⟨_, rfl⟩
  obtain ⟨b, eb⟩ : ∃ z, z = x.toBitVec.toNat / 256 % 256 := ⟨_, rfl⟩
  obtain ⟨c0, ec⟩ : ∃ z, z = x.toBitVec.toNat / 65536 % 256 := ⟨_, rfl⟩
  obtain ⟨d, ed⟩ : ∃ z, z = x.toBitVec.toNat / 16777216 := ⟨_, rfl⟩
  have ha : a < 256 := by omega
  have hb9 : b < 256 := by omega
  have hc : c0 < 256 := by omega
  have hd : d < 256 := by omega
  have hn : x.toBitVec.toNat = by4 a b c0 d := by unfold by4; omega
  have hpop : popI x = popN 8 a + popN 8 b + popN 8 c0 + popN 8 d := by unfold popI; rw [hn, sw5 ha hb9 hc]
  clear ea eb ec ed
  have m1 : (1431655765 : Int32).toBitVec.toNat = by4 85 85 85 85 := by decide +kernel
  have m2 : (858993459 : Int32).toBitVec.toNat = by4 51 51 51 51 := by decide +kernel
  have m3 : (252645135 : Int32).toBitVec.toNat = by4 15 15 15 15 := by decide +kernel
  have s1 : (((x).toUInt32 >>> ((nI (1)).toUInt32 &&& Int32.toUInt32 31)).toInt32 &&& (1431655765 : Int32)).toBitVec.toNat = by4 a b c0 d / 2 &&& by4 85 85 85 85 := by rw [tn_and, tn_sh x 1 (by decide), hn, m1]
  have t1 : (x - (((x).toUInt32 >>> ((nI (1)).toUInt32 &&& Int32.toUInt32 31)).toInt32 &&& (1431655765 : Int32))).toBitVec.toNat = by4 (g1 a) (g1 b) (g1 c0) (g1 d) := by
    rw [tn_sub _ _ (by rw [s1, hn]; exact Nat.le_trans Nat.and_le_left (Nat.div_le_self _ _)), s1, hn]
    exact sw2 ha hb9 hc hd
  generalize (x - (((x).toUInt32 >>> ((nI (1)).toUInt32 &&& Int32.toUInt32 31)).toInt32 &&& (1431655765 : Int32))) = y1 at t1 ⊢
  clear s1
  have ga := g2_le ⟨a, ha⟩
  have gb := g2_le ⟨b, hb9⟩
  have gc := g2_le ⟨c0, hc⟩
  have gd := g2_le ⟨d, hd⟩
  have ga : g2 a ≤ 68 := ga
  have gb : g2 b ≤ 68 := gb
  have gc : g2 c0 ≤ 68 := gc
  have gd : g2 d ≤ 68 := gd
  have s2 : (y1 &&& (858993459 : Int32)).toBitVec.toNat + (((y1).toUInt32 >>> ((nI (2)).toUInt32 &&& Int32.toUInt32 31)).toInt32 &&& (858993459 : Int32)).toBitVec.toNat = by4 (g2 a) (g2 b) (g2 c0) (g2 d) := by
    rw [tn_and, tn_and, tn_sh y1 2 (by decide), t1, m2]
    exact sw3 ha hb9 hc hd
  have t2 : ((y1 &&& (858993459 : Int32)) + (((y1).toUInt32 >>> ((nI (2)).toUInt32 &&& Int32.toUInt32 31)).toInt32 &&& (858993459 : Int32))).toBitVec.toNat = by4 (g2 a) (g2 b) (g2 c0) (g2 d) := by rw [tn_add _ _ (by rw [s2]; unfold by4; omega), s2]
  generalize ((y1 &&& (858993459 : Int32)) + (((y1).toUInt32 >>> ((nI (2)).toUInt32 &&& Int32.toUInt32 31)).toInt32 &&& (858993459 : Int32))) = y2 at t2 ⊢
  clear s2
  have t3 : ((y2 + ((y2).toUInt32 >>> ((nI (4)).toUInt32 &&& Int32.toUInt32 31)).toInt32) &&& (252645135 : Int32)).toBitVec.toNat = by4 (popN 8 a) (popN 8 b) (popN 8 c0) (popN 8 d) := by
    rw [tn_and, tn_add _ _ (by rw [tn_sh y2 4 (by decide), t2]; unfold by4; omega), tn_sh y2 4 (by decide), t2, m3]
    exact sw4 ha hb9 hc hd
  generalize ((y2 + ((y2).toUInt32 >>> ((nI (4)).toUInt32 &&& Int32.toUInt32 31)).toInt32) &&& (252645135 : Int32)) = y3 at t3 ⊢
  have pa := popN_le 8 a
  have pb := popN_le 8 b
  have pc9 := popN_le 8 c0
  have pd := popN_le 8 d
  have t4 : (y3 + ((y3).toUInt32 >>> ((nI (8)).toUInt32 &&& Int32.toUInt32 31)).toInt32).toBitVec.toNat = by4 (popN 8 a) (popN 8 b) (popN 8 c0) (popN 8 d) + by4 (popN 8 a) (popN 8 b) (popN 8 c0) (popN 8 d) / 256 := by
    rw [tn_add _ _ (by rw [tn_sh y3 8 (by decide), t3]; unfold by4; omega), tn_sh y3 8 (by decide), t3]
  generalize (y3 + ((y3).toUInt32 >>> ((nI (8)).toUInt32 &&& Int32.toUInt32 31)).toInt32) = y4 at t4 ⊢
  have t5 : (y4 + ((y4).toUInt32 >>> ((nI (16)).toUInt32 &&& Int32.toUInt32 31)).toInt32).toBitVec.toNat = y4.toBitVec.toNat + y4.toBitVec.toNat / 65536 := by
    rw [tn_add _ _ (by rw [tn_sh y4 16 (by decide), t4]; unfold by4; omega), tn_sh y4 16 (by decide)]
  generalize (y4 + ((y4).toUInt32 >>> ((nI (16)).toUInt32 &&& Int32.toUInt32 31)).toInt32) = y5 at t5 ⊢
  rw [pk_and y5 6 (by decide), hpop, t5, t4]
  exact congrArg nI (sw6 pa pb pc9 pd)
/-- the bits, counted by Integer.bitCount -/
theorem swar (x : Int32) : ((((((((((((((((x) - ((((((x).toUInt32 >>> ((nI (1)).toUInt32 &&& Int32.toUInt32 31)).toInt32)) &&& ((1431655765 : Int32)))))) &&& ((858993459 : Int32)))) + ((((((((x) - ((((((x).toUInt32 >>> ((nI (1)).toUInt32 &&& Int32.toUInt32 31)).toInt32)) &&& ((1431655765 : Int32)))))).toUInt32 >>> ((nI (2)).toUInt32 &&& Int32.toUInt32 31)).toInt32)) &&& ((858993459 : Int32)))))) + ((((((((((x) - ((((((x).toUInt32 >>> ((nI (1)).toUInt32 &&& Int32.toUInt32 31)).toInt32)) &&& ((1431655765 : Int32)))))) &&& ((858993459 : Int32)))) + ((((((((x) - ((((((x).toUInt32 >>> ((nI (1)).toUInt32 &&& Int32.toUInt32 31)).toInt32)) &&& ((1431655765 : Int32)))))).toUInt32 >>> ((nI (2)).toUInt32 &&& Int32.toUInt32 31)).toInt32)) &&& ((858993459 : Int32)))))).toUInt32 >>> ((nI (4)).toUInt32 &&& Int32.toUInt32 31)).toInt32)))) &&& ((252645135 : Int32)))) + ((((((((((((((x) - ((((((x).toUInt32 >>> ((nI (1)).toUInt32 &&& Int32.toUInt32 31)).toInt32)) &&& ((1431655765 : Int32)))))) &&& ((858993459 : Int32)))) + ((((((((x) - ((((((x).toUInt32 >>> ((nI (1)).toUInt32 &&& Int32.toUInt32 31)).toInt32)) &&& ((1431655765 : Int32)))))).toUInt32 >>> ((nI (2)).toUInt32 &&& Int32.toUInt32 31)).toInt32)) &&& ((858993459 : Int32)))))) + ((((((((((x) - ((((((x).toUInt32 >>> ((nI (1)).toUInt32 &&& Int32.toUInt32 31)).toInt32)) &&& ((1431655765 : Int32)))))) &&& ((858993459 : Int32)))) + ((((((((x) - ((((((x).toUInt32 >>> ((nI (1)).toUInt32 &&& Int32.toUInt32 31)).toInt32)) &&& ((1431655765 : Int32)))))).toUInt32 >>> ((nI (2)).toUInt32 &&& Int32.toUInt32 31)).toInt32)) &&& ((858993459 : Int32)))))).toUInt32 >>> ((nI (4)).toUInt32 &&& Int32.toUInt32 31)).toInt32)))) &&& ((252645135 : Int32)))).toUInt32 >>> ((nI (8)).toUInt32 &&& Int32.toUInt32 31)).toInt32)))) + ((((((((((((((((x) - ((((((x).toUInt32 >>> ((nI (1)).toUInt32 &&& Int32.toUInt32 31)).toInt32)) &&& ((1431655765 : Int32)))))) &&& ((858993459 : Int32)))) + ((((((((x) - ((((((x).toUInt32 >>> ((nI (1)).toUInt32 &&& Int32.toUInt32 31)).toInt32)) &&& ((1431655765 : Int32)))))).toUInt32 >>> ((nI (2)).toUInt32 &&& Int32.toUInt32 31)).toInt32)) &&& ((858993459 : Int32)))))) + ((((((((((x) - ((((((x).toUInt32 >>> ((nI (1)).toUInt32 &&& Int32.toUInt32 31)).toInt32)) &&& ((1431655765 : Int32)))))) &&& ((858993459 : Int32)))) + ((((((((x) - ((((((x).toUInt32 >>> ((nI (1)).toUInt32 &&& Int32.toUInt32 31)).toInt32)) &&& ((1431655765 : Int32)))))).toUInt32 >>> ((nI (2)).toUInt32 &&& Int32.toUInt32 31)).toInt32)) &&& ((858993459 : Int32)))))).toUInt32 >>> ((nI (4)).toUInt32 &&& Int32.toUInt32 31)).toInt32)))) &&& ((252645135 : Int32)))) + ((((((((((((((x) - ((((((x).toUInt32 >>> ((nI (1)).toUInt32 &&& Int32.toUInt32 31)).toInt32)) &&& ((1431655765 : Int32)))))) &&& ((858993459 : Int32)))) + ((((((((x) - ((((((x).toUInt32 >>> ((nI (1)).toUInt32 &&& Int32.toUInt32 31)).toInt32)) &&& ((1431655765 : Int32)))))).toUInt32 >>> ((nI (2)).toUInt32 &&& Int32.toUInt32 31)).toInt32)) &&& ((858993459 : Int32)))))) + ((((((((((x) - ((((((x).toUInt32 >>> ((nI (1)).toUInt32 &&& Int32.toUInt32 31)).toInt32)) &&& ((1431655765 : Int32)))))) &&& ((858993459 : Int32)))) + ((((((((x) - ((((((x).toUInt32 >>> ((nI (1)).toUInt32 &&& Int32.toUInt32 31)).toInt32)) &&& ((1431655765 : Int32)))))).toUInt32 >>> ((nI (2)).toUInt32 &&& Int32.toUInt32 31)).toInt32)) &&& ((858993459 : Int32)))))).toUInt32 >>> ((nI (4)).toUInt32 &&& Int32.toUInt32 31)).toInt32)))) &&& ((252645135 : Int32)))).toUInt32 >>> ((nI (8)).toUInt32 &&& Int32.toUInt32 31)).toInt32)))).toUInt32 >>> ((nI (16)).toUInt32 &&& Int32.toUInt32 31)).toInt32)))) &&& (nI (63))) = nI (popI x) := swar2 x
set_option maxHeartbeats 4000000 in
set_option maxRecDepth 100000 in
theorem k_J6_bitCount_0f7a4 (l : Launch) {D : va_G} {Y : Nat → ClassId} {H : Heap} (x : Int32) : Rd l yJ6_bitCount_0f7a4 wsJ6_bitCount_0f7a4 0 D Y [.int (x)] H (nI (popI x)) := by
  refine Rd.start (cc := cJ6_bitCount_0f7a4) (maxL := 1) (rt := .int) (by decide) rfl (Nat.le_of_ble_eq_true rfl) ?_
  intro p e s m args below meth c ls Q S hK hl hE
  have S : CallFix p m c cJ6_bitCount_0f7a4 1 s args wsJ6_bitCount_0f7a4 RJ6 := S
  have hx := S.1
  have hb := S.2.1
  have hts := S.2.2.2.2
  have hl : lv_has ls 1 [(0, .int (x))] := hl
  refine lv_iload_n hx hb dJ6_bitCount_0f7a4_0 rfl (lv_at hl 0 rfl) ?_
  refine lv_iload_n hx hb dJ6_bitCount_0f7a4_1 rfl (lv_at hl 0 rfl) ?_
  refine lv_iconst (v := (nI (1))) hx hb dJ6_bitCount_0f7a4_2 (by decide +kernel) ?_
  refine lv_iushr hx hb dJ6_bitCount_0f7a4_3 rfl ?_
  refine lv_ldcw hx hb S.2.2.2.1 (hts _ (List.mem_of_getElem? (i := 1) rfl)) dJ6_bitCount_0f7a4_4 ?_
  refine lv_iand hx hb dJ6_bitCount_0f7a4_7 ?_
  refine lv_isub hx hb dJ6_bitCount_0f7a4_8 ?_
  refine lv_istore_n (lv' := [(0, .int (((x) - ((((((x).toUInt32 >>> ((nI (1)).toUInt32 &&& Int32.toUInt32 31)).toInt32)) &&& ((1431655765 : Int32)))))))]) hx hb dJ6_bitCount_0f7a4_9 rfl hl (by decide) rfl (fun ls hl => ?_)
  refine lv_iload_n hx hb dJ6_bitCount_0f7a4_10 rfl (lv_at hl 0 rfl) ?_
  refine lv_ldcw hx hb S.2.2.2.1 (hts _ (List.mem_of_getElem? (i := 2) rfl)) dJ6_bitCount_0f7a4_11 ?_
  refine lv_iand hx hb dJ6_bitCount_0f7a4_14 ?_
  refine lv_iload_n hx hb dJ6_bitCount_0f7a4_15 rfl (lv_at hl 0 rfl) ?_
  refine lv_iconst (v := (nI (2))) hx hb dJ6_bitCount_0f7a4_16 (by decide +kernel) ?_
  refine lv_iushr hx hb dJ6_bitCount_0f7a4_17 rfl ?_
  refine lv_ldcw hx hb S.2.2.2.1 (hts _ (List.mem_of_getElem? (i := 2) rfl)) dJ6_bitCount_0f7a4_18 ?_
  refine lv_iand hx hb dJ6_bitCount_0f7a4_21 ?_
  refine lv_iadd hx hb dJ6_bitCount_0f7a4_22 ?_
  refine lv_istore_n (lv' := [(0, .int (((((((x) - ((((((x).toUInt32 >>> ((nI (1)).toUInt32 &&& Int32.toUInt32 31)).toInt32)) &&& ((1431655765 : Int32)))))) &&& ((858993459 : Int32)))) + ((((((((x) - ((((((x).toUInt32 >>> ((nI (1)).toUInt32 &&& Int32.toUInt32 31)).toInt32)) &&& ((1431655765 : Int32)))))).toUInt32 >>> ((nI (2)).toUInt32 &&& Int32.toUInt32 31)).toInt32)) &&& ((858993459 : Int32)))))))]) hx hb dJ6_bitCount_0f7a4_23 rfl hl (by decide) rfl (fun ls hl => ?_)
  refine lv_iload_n hx hb dJ6_bitCount_0f7a4_24 rfl (lv_at hl 0 rfl) ?_
  refine lv_iload_n hx hb dJ6_bitCount_0f7a4_25 rfl (lv_at hl 0 rfl) ?_
  refine lv_iconst (v := (nI (4))) hx hb dJ6_bitCount_0f7a4_26 (by decide +kernel) ?_
  refine lv_iushr hx hb dJ6_bitCount_0f7a4_27 rfl ?_
  refine lv_iadd hx hb dJ6_bitCount_0f7a4_28 ?_
  refine lv_ldcw hx hb S.2.2.2.1 (hts _ (List.mem_of_getElem? (i := 3) rfl)) dJ6_bitCount_0f7a4_29 ?_
  refine lv_iand hx hb dJ6_bitCount_0f7a4_32 ?_
  refine lv_istore_n (lv' := [(0, .int (((((((((((x) - ((((((x).toUInt32 >>> ((nI (1)).toUInt32 &&& Int32.toUInt32 31)).toInt32)) &&& ((1431655765 : Int32)))))) &&& ((858993459 : Int32)))) + ((((((((x) - ((((((x).toUInt32 >>> ((nI (1)).toUInt32 &&& Int32.toUInt32 31)).toInt32)) &&& ((1431655765 : Int32)))))).toUInt32 >>> ((nI (2)).toUInt32 &&& Int32.toUInt32 31)).toInt32)) &&& ((858993459 : Int32)))))) + ((((((((((x) - ((((((x).toUInt32 >>> ((nI (1)).toUInt32 &&& Int32.toUInt32 31)).toInt32)) &&& ((1431655765 : Int32)))))) &&& ((858993459 : Int32)))) + ((((((((x) - ((((((x).toUInt32 >>> ((nI (1)).toUInt32 &&& Int32.toUInt32 31)).toInt32)) &&& ((1431655765 : Int32)))))).toUInt32 >>> ((nI (2)).toUInt32 &&& Int32.toUInt32 31)).toInt32)) &&& ((858993459 : Int32)))))).toUInt32 >>> ((nI (4)).toUInt32 &&& Int32.toUInt32 31)).toInt32)))) &&& ((252645135 : Int32)))))]) hx hb dJ6_bitCount_0f7a4_33 rfl hl (by decide) rfl (fun ls hl => ?_)
  refine lv_iload_n hx hb dJ6_bitCount_0f7a4_34 rfl (lv_at hl 0 rfl) ?_
  refine lv_iload_n hx hb dJ6_bitCount_0f7a4_35 rfl (lv_at hl 0 rfl) ?_
  refine lv_bipush (v := (nI (8))) hx hb dJ6_bitCount_0f7a4_36 (by decide +kernel) ?_
  refine lv_iushr hx hb dJ6_bitCount_0f7a4_38 rfl ?_
  refine lv_iadd hx hb dJ6_bitCount_0f7a4_39 ?_
  refine lv_istore_n (lv' := [(0, .int (((((((((((((x) - ((((((x).toUInt32 >>> ((nI (1)).toUInt32 &&& Int32.toUInt32 31)).toInt32)) &&& ((1431655765 : Int32)))))) &&& ((858993459 : Int32)))) + ((((((((x) - ((((((x).toUInt32 >>> ((nI (1)).toUInt32 &&& Int32.toUInt32 31)).toInt32)) &&& ((1431655765 : Int32)))))).toUInt32 >>> ((nI (2)).toUInt32 &&& Int32.toUInt32 31)).toInt32)) &&& ((858993459 : Int32)))))) + ((((((((((x) - ((((((x).toUInt32 >>> ((nI (1)).toUInt32 &&& Int32.toUInt32 31)).toInt32)) &&& ((1431655765 : Int32)))))) &&& ((858993459 : Int32)))) + ((((((((x) - ((((((x).toUInt32 >>> ((nI (1)).toUInt32 &&& Int32.toUInt32 31)).toInt32)) &&& ((1431655765 : Int32)))))).toUInt32 >>> ((nI (2)).toUInt32 &&& Int32.toUInt32 31)).toInt32)) &&& ((858993459 : Int32)))))).toUInt32 >>> ((nI (4)).toUInt32 &&& Int32.toUInt32 31)).toInt32)))) &&& ((252645135 : Int32)))) + ((((((((((((((x) - ((((((x).toUInt32 >>> ((nI (1)).toUInt32 &&& Int32.toUInt32 31)).toInt32)) &&& ((1431655765 : Int32)))))) &&& ((858993459 : Int32)))) + ((((((((x) - ((((((x).toUInt32 >>> ((nI (1)).toUInt32 &&& Int32.toUInt32 31)).toInt32)) &&& ((1431655765 : Int32)))))).toUInt32 >>> ((nI (2)).toUInt32 &&& Int32.toUInt32 31)).toInt32)) &&& ((858993459 : Int32)))))) + ((((((((((x) - ((((((x).toUInt32 >>> ((nI (1)).toUInt32 &&& Int32.toUInt32 31)).toInt32)) &&& ((1431655765 : Int32)))))) &&& ((858993459 : Int32)))) + ((((((((x) - ((((((x).toUInt32 >>> ((nI (1)).toUInt32 &&& Int32.toUInt32 31)).toInt32)) &&& ((1431655765 : Int32)))))).toUInt32 >>> ((nI (2)).toUInt32 &&& Int32.toUInt32 31)).toInt32)) &&& ((858993459 : Int32)))))).toUInt32 >>> ((nI (4)).toUInt32 &&& Int32.toUInt32 31)).toInt32)))) &&& ((252645135 : Int32)))).toUInt32 >>> ((nI (8)).toUInt32 &&& Int32.toUInt32 31)).toInt32)))))]) hx hb dJ6_bitCount_0f7a4_40 rfl hl (by decide) rfl (fun ls hl => ?_)
  refine lv_iload_n hx hb dJ6_bitCount_0f7a4_41 rfl (lv_at hl 0 rfl) ?_
  refine lv_iload_n hx hb dJ6_bitCount_0f7a4_42 rfl (lv_at hl 0 rfl) ?_
  refine lv_bipush (v := (nI (16))) hx hb dJ6_bitCount_0f7a4_43 (by decide +kernel) ?_
  refine lv_iushr hx hb dJ6_bitCount_0f7a4_45 rfl ?_
  refine lv_iadd hx hb dJ6_bitCount_0f7a4_46 ?_
  refine lv_istore_n (lv' := [(0, .int (((((((((((((((x) - ((((((x).toUInt32 >>> ((nI (1)).toUInt32 &&& Int32.toUInt32 31)).toInt32)) &&& ((1431655765 : Int32)))))) &&& ((858993459 : Int32)))) + ((((((((x) - ((((((x).toUInt32 >>> ((nI (1)).toUInt32 &&& Int32.toUInt32 31)).toInt32)) &&& ((1431655765 : Int32)))))).toUInt32 >>> ((nI (2)).toUInt32 &&& Int32.toUInt32 31)).toInt32)) &&& ((858993459 : Int32)))))) + ((((((((((x) - ((((((x).toUInt32 >>> ((nI (1)).toUInt32 &&& Int32.toUInt32 31)).toInt32)) &&& ((1431655765 : Int32)))))) &&& ((858993459 : Int32)))) + ((((((((x) - ((((((x).toUInt32 >>> ((nI (1)).toUInt32 &&& Int32.toUInt32 31)).toInt32)) &&& ((1431655765 : Int32)))))).toUInt32 >>> ((nI (2)).toUInt32 &&& Int32.toUInt32 31)).toInt32)) &&& ((858993459 : Int32)))))).toUInt32 >>> ((nI (4)).toUInt32 &&& Int32.toUInt32 31)).toInt32)))) &&& ((252645135 : Int32)))) + ((((((((((((((x) - ((((((x).toUInt32 >>> ((nI (1)).toUInt32 &&& Int32.toUInt32 31)).toInt32)) &&& ((1431655765 : Int32)))))) &&& ((858993459 : Int32)))) + ((((((((x) - ((((((x).toUInt32 >>> ((nI (1)).toUInt32 &&& Int32.toUInt32 31)).toInt32)) &&& ((1431655765 : Int32)))))).toUInt32 >>> ((nI (2)).toUInt32 &&& Int32.toUInt32 31)).toInt32)) &&& ((858993459 : Int32)))))) + ((((((((((x) - ((((((x).toUInt32 >>> ((nI (1)).toUInt32 &&& Int32.toUInt32 31)).toInt32)) &&& ((1431655765 : Int32)))))) &&& ((858993459 : Int32)))) + ((((((((x) - ((((((x).toUInt32 >>> ((nI (1)).toUInt32 &&& Int32.toUInt32 31)).toInt32)) &&& ((1431655765 : Int32)))))).toUInt32 >>> ((nI (2)).toUInt32 &&& Int32.toUInt32 31)).toInt32)) &&& ((858993459 : Int32)))))).toUInt32 >>> ((nI (4)).toUInt32 &&& Int32.toUInt32 31)).toInt32)))) &&& ((252645135 : Int32)))).toUInt32 >>> ((nI (8)).toUInt32 &&& Int32.toUInt32 31)).toInt32)))) + ((((((((((((((((x) - ((((((x).toUInt32 >>> ((nI (1)).toUInt32 &&& Int32.toUInt32 31)).toInt32)) &&& ((1431655765 : Int32)))))) &&& ((858993459 : Int32)))) + ((((((((x) - ((((((x).toUInt32 >>> ((nI (1)).toUInt32 &&& Int32.toUInt32 31)).toInt32)) &&& ((1431655765 : Int32)))))).toUInt32 >>> ((nI (2)).toUInt32 &&& Int32.toUInt32 31)).toInt32)) &&& ((858993459 : Int32)))))) + ((((((((((x) - ((((((x).toUInt32 >>> ((nI (1)).toUInt32 &&& Int32.toUInt32 31)).toInt32)) &&& ((1431655765 : Int32)))))) &&& ((858993459 : Int32)))) + ((((((((x) - ((((((x).toUInt32 >>> ((nI (1)).toUInt32 &&& Int32.toUInt32 31)).toInt32)) &&& ((1431655765 : Int32)))))).toUInt32 >>> ((nI (2)).toUInt32 &&& Int32.toUInt32 31)).toInt32)) &&& ((858993459 : Int32)))))).toUInt32 >>> ((nI (4)).toUInt32 &&& Int32.toUInt32 31)).toInt32)))) &&& ((252645135 : Int32)))) + ((((((((((((((x) - ((((((x).toUInt32 >>> ((nI (1)).toUInt32 &&& Int32.toUInt32 31)).toInt32)) &&& ((1431655765 : Int32)))))) &&& ((858993459 : Int32)))) + ((((((((x) - ((((((x).toUInt32 >>> ((nI (1)).toUInt32 &&& Int32.toUInt32 31)).toInt32)) &&& ((1431655765 : Int32)))))).toUInt32 >>> ((nI (2)).toUInt32 &&& Int32.toUInt32 31)).toInt32)) &&& ((858993459 : Int32)))))) + ((((((((((x) - ((((((x).toUInt32 >>> ((nI (1)).toUInt32 &&& Int32.toUInt32 31)).toInt32)) &&& ((1431655765 : Int32)))))) &&& ((858993459 : Int32)))) + ((((((((x) - ((((((x).toUInt32 >>> ((nI (1)).toUInt32 &&& Int32.toUInt32 31)).toInt32)) &&& ((1431655765 : Int32)))))).toUInt32 >>> ((nI (2)).toUInt32 &&& Int32.toUInt32 31)).toInt32)) &&& ((858993459 : Int32)))))).toUInt32 >>> ((nI (4)).toUInt32 &&& Int32.toUInt32 31)).toInt32)))) &&& ((252645135 : Int32)))).toUInt32 >>> ((nI (8)).toUInt32 &&& Int32.toUInt32 31)).toInt32)))).toUInt32 >>> ((nI (16)).toUInt32 &&& Int32.toUInt32 31)).toInt32)))))]) hx hb dJ6_bitCount_0f7a4_47 rfl hl (by decide) rfl (fun ls hl => ?_)
  refine lv_iload_n hx hb dJ6_bitCount_0f7a4_48 rfl (lv_at hl 0 rfl) ?_
  refine lv_bipush (v := (nI (63))) hx hb dJ6_bitCount_0f7a4_49 (by decide +kernel) ?_
  refine lv_iand hx hb dJ6_bitCount_0f7a4_51 ?_
  exact hE _ _ _ dJ6_bitCount_0f7a4_52 (vp_nar_int _) (swar x)
set_option maxHeartbeats 4000000 in
set_option maxRecDepth 100000 in
theorem k_X1_concerns (l : Launch) {D : va_G} {Y : Nat → ClassId} {H : Heap} {r : RV} {ad : Nat × Nat × Nat} {s0 p0 : Nat}  (hP : va_P D aCl (ruC r ad) H) (ho : rvOk r) (hs : s0 < 32) (hp : p0 < 4) : Rd l yX1_concerns wsX1_concerns 1 D Y [.ref (ad.1), .int (nI (s0)), .int (nI (p0))] H (bI (con r s0 p0)) := by
  refine Rd.start (cc := cX1_concerns) (maxL := 3) (rt := .boolean) (by decide) rfl (Nat.le_of_ble_eq_true rfl) ?_
  intro p e s m args below meth c ls Q S hK hl hE
  have S : CallFix p m c cX1_concerns 3 s args wsX1_concerns RX1 := S
  have hx := S.1
  have hb := S.2.1
  have hts := S.2.2.2.2
  have hl : lv_has ls 3 [(0, .ref (ad.1)), (1, .int (nI (s0))), (2, .int (nI (p0)))] := hl
  have hv := ho
  unfold rvOk at hv
  refine lv_aload_n hx hb dX1_concerns_0 rfl (lv_at hl 0 rfl) ?_
  refine nr_get (C := RX1) (T := TX1) (N := 5) (ci := 1) S (fun _ h => List.mem_cons_of_mem _ (List.mem_append_left _ (List.mem_append_right _ (h)))) hK hP 0 rfl rfl 1 (by decide) (List.mem_of_getElem? (i := 1) rfl) rfl dX1_concerns_1 ?_
  refine lv_iload_n hx hb dX1_concerns_4 rfl (lv_at hl 1 rfl) ?_
  refine Rd.callV (r := (bI (inN (s0) (sF r) (sT r)))) (As := [.int (nI (s0))]) S (k_X0_includes l (hP.sub [1] rfl) (by omega) (v := s0) (by omega)) (cwV 1 hts gX1_concerns_X0_includes rfl rfl rfl (by decide +kernel) ⟨Nat.le_of_ble_eq_true rfl, Nat.le_of_ble_eq_true rfl⟩) hK (va_recv hK.1 hP (ci := 0) (q0 := 1) rfl rfl) rfl hl.1 rfl (Nat.le_of_ble_eq_true rfl) dX1_concerns_5 ⟨Nat.zero_le _, Nat.zero_le _⟩ ?_
  refine nr_ifB_eq (tgt := 26) hx hb dX1_concerns_8 (by decide) (fun c_8 => ?_) (fun c_8 => ?_)
  · refine lv_iconst (v := (nI (0))) hx hb dX1_concerns_26 (by decide +kernel) ?_
    exact hE _ _ _ dX1_concerns_27 (rfl) (bI_f (by unfold con hol; first | (rw [c_8]; rfl) | (rw [c_19, Bool.and_false])))
  · refine lv_aload_n hx hb dX1_concerns_11 rfl (lv_at hl 0 rfl) ?_
    refine nr_get (C := RX1) (T := TX1) (N := 5) (ci := 1) S (fun _ h => List.mem_cons_of_mem _ (List.mem_append_left _ (List.mem_append_right _ (h)))) hK hP 0 rfl rfl 3 (by decide) (List.mem_of_getElem? (i := 2) rfl) rfl dX1_concerns_12 ?_
    refine lv_iload_n hx hb dX1_concerns_15 rfl (lv_at hl 2 rfl) ?_
    refine Rd.callSN (r := (bI (holI (nI (pR r)) (nI (p0))))) (As := [.int (nI (pR r)), .int (nI (p0))]) S (k_X2_holds l (nI (pR r)) (nI (p0))) ⟨va_cnB 2 hts gX1_concerns_X2_holds_n30 rfl rfl rfl hK.2.2.1 (hts _ (List.mem_of_getElem? (i := 11) rfl)) (by decide +kernel) ⟨Nat.le_of_ble_eq_true rfl, Nat.le_of_ble_eq_true rfl⟩, hts _ (List.mem_of_getElem? (i := 10) rfl), trivial⟩ hK rfl hl.1 rfl (Nat.le_of_ble_eq_true rfl) dX1_concerns_16 ⟨Nat.zero_le _, Nat.zero_le _⟩ ?_
    refine nr_ifB_eq (tgt := 26) hx hb dX1_concerns_19 (by decide) (fun c_19 => ?_) (fun c_19 => ?_)
    · refine lv_iconst (v := (nI (0))) hx hb dX1_concerns_26 (by decide +kernel) ?_
      exact hE _ _ _ dX1_concerns_27 (rfl) (bI_f (by unfold con hol; first | (rw [c_8]; rfl) | (rw [c_19, Bool.and_false])))
    · refine lv_iconst (v := (nI (1))) hx hb dX1_concerns_22 (by decide +kernel) ?_
      refine lv_goto (tgt := 27) hx hb dX1_concerns_23 (by decide) ?_
      exact hE _ _ _ dX1_concerns_27 (rfl) (bI_t (by unfold con hol; rw [c_8, c_19]; rfl))
set_option maxHeartbeats 4000000 in
set_option maxRecDepth 100000 in
theorem k_X1_matches (l : Launch) {D : va_G} {Y : Nat → ClassId} {H : Heap} {r : RV} {ad : Nat × Nat × Nat} {s0 d0 p0 : Nat}  (hP : va_P D aCl (ruC r ad) H) (ho : rvOk r) (hs : s0 < 32) (hd : d0 < 32) (hp : p0 < 4) : Rd l yX1_matches wsX1_matches 2 D Y [.ref (ad.1), .int (nI (s0)), .int (nI (d0)), .int (nI (p0))] H (bI (mtB r s0 d0 p0)) := by
  refine Rd.start (cc := cX1_matches) (maxL := 4) (rt := .boolean) (by decide) rfl (Nat.le_of_ble_eq_true rfl) ?_
  intro p e s m args below meth c ls Q S hK hl hE
  have S : CallFix p m c cX1_matches 4 s args wsX1_matches RX1 := S
  have hx := S.1
  have hb := S.2.1
  have hts := S.2.2.2.2
  have hl : lv_has ls 4 [(0, .ref (ad.1)), (1, .int (nI (s0))), (2, .int (nI (d0))), (3, .int (nI (p0)))] := hl
  have hv := ho
  unfold rvOk at hv
  refine lv_aload_n hx hb dX1_matches_0 rfl (lv_at hl 0 rfl) ?_
  refine lv_iload_n hx hb dX1_matches_1 rfl (lv_at hl 1 rfl) ?_
  refine lv_iload_n hx hb dX1_matches_2 rfl (lv_at hl 3 rfl) ?_
  refine Rd.callV (r := (bI (con r (s0) (p0)))) (As := [.int (nI (s0)), .int (nI (p0))]) S (k_X1_concerns l hP ho (s0 := s0) (p0 := p0) (by omega) (by omega)) (cwV 2 hts gX1_matches_X1_concerns rfl rfl rfl (by decide +kernel) ⟨Nat.le_of_ble_eq_true rfl, Nat.le_of_ble_eq_true rfl⟩) hK (va_recv hK.1 hP (ci := 1) (q0 := 0) rfl rfl) rfl hl.1 rfl (Nat.le_of_ble_eq_true rfl) dX1_matches_3 ⟨Nat.zero_le _, Nat.zero_le _⟩ ?_
  refine nr_ifB_eq (tgt := 24) hx hb dX1_matches_6 (by decide) (fun c_6 => ?_) (fun c_6 => ?_)
  · refine lv_iconst (v := (nI (0))) hx hb dX1_matches_24 (by decide +kernel) ?_
    exact hE _ _ _ dX1_matches_25 (rfl) (bI_f (by unfold mtB; first | (rw [c_6]; rfl) | (rw [c_17, Bool.and_false])))
  · refine lv_aload_n hx hb dX1_matches_9 rfl (lv_at hl 0 rfl) ?_
    refine nr_get (C := RX1) (T := TX1) (N := 5) (ci := 1) S (fun _ h => List.mem_cons_of_mem _ (List.mem_append_left _ (List.mem_append_right _ (h)))) hK hP 0 rfl rfl 2 (by decide) (List.mem_of_getElem? (i := 1) rfl) rfl dX1_matches_10 ?_
    refine lv_iload_n hx hb dX1_matches_13 rfl (lv_at hl 2 rfl) ?_
    refine Rd.callV (r := (bI (inN (d0) (dF r) (dT r)))) (As := [.int (nI (d0))]) S (k_X0_includes l (hP.sub [2] rfl) (by omega) (v := d0) (by omega)) (cwV 1 hts gX1_matches_X0_includes rfl rfl rfl (by decide +kernel) ⟨Nat.le_of_ble_eq_true rfl, Nat.le_of_ble_eq_true rfl⟩) hK (va_recv hK.1 hP (ci := 0) (q0 := 2) rfl rfl) rfl hl.1 rfl (Nat.le_of_ble_eq_true rfl) dX1_matches_14 ⟨Nat.zero_le _, Nat.zero_le _⟩ ?_
    refine nr_ifB_eq (tgt := 24) hx hb dX1_matches_17 (by decide) (fun c_17 => ?_) (fun c_17 => ?_)
    · refine lv_iconst (v := (nI (0))) hx hb dX1_matches_24 (by decide +kernel) ?_
      exact hE _ _ _ dX1_matches_25 (rfl) (bI_f (by unfold mtB; first | (rw [c_6]; rfl) | (rw [c_17, Bool.and_false])))
    · refine lv_iconst (v := (nI (1))) hx hb dX1_matches_20 (by decide +kernel) ?_
      refine lv_goto (tgt := 25) hx hb dX1_matches_21 (by decide) ?_
      exact hE _ _ _ dX1_matches_25 (rfl) (bI_t (by unfold mtB; rw [c_6, c_17]; rfl))
set_option maxHeartbeats 4000000 in
set_option maxRecDepth 100000 in
theorem k_X1_covers (l : Launch) {D : va_G} {Y : Nat → ClassId} {H : Heap} {r r2 : RV} {ad ad2 : Nat × Nat × Nat}  (hP : va_P D aCl (ruC r ad) H) (hP2 : va_P D aCl (ruC r2 ad2) H) (ho : rvOk r) (ho2 : rvOk r2) : Rd l yX1_covers wsX1_covers 1 D Y [.ref (ad.1), .ref (ad2.1)] H (bI (cvB r r2)) := by
  refine Rd.start (cc := cX1_covers) (maxL := 2) (rt := .boolean) (by decide) rfl (Nat.le_of_ble_eq_true rfl) ?_
  intro p e s m args below meth c ls Q S hK hl hE
  have S : CallFix p m c cX1_covers 2 s args wsX1_covers RX1 := S
  have hx := S.1
  have hb := S.2.1
  have hts := S.2.2.2.2
  have hl : lv_has ls 2 [(0, .ref (ad.1)), (1, .ref (ad2.1))] := hl
  have hv := ho
  unfold rvOk at hv
  have hv2 := ho2
  unfold rvOk at hv2
  refine lv_aload_n hx hb dX1_covers_0 rfl (lv_at hl 0 rfl) ?_
  refine nr_get (C := RX1) (T := TX1) (N := 5) (ci := 1) S (fun _ h => List.mem_cons_of_mem _ (List.mem_append_left _ (List.mem_append_right _ (h)))) hK hP 0 rfl rfl 1 (by decide) (List.mem_of_getElem? (i := 1) rfl) rfl dX1_covers_1 ?_
  refine lv_aload_n hx hb dX1_covers_4 rfl (lv_at hl 1 rfl) ?_
  refine nr_get (C := RX1) (T := TX1) (N := 5) (ci := 1) S (fun _ h => List.mem_cons_of_mem _ (List.mem_append_left _ (List.mem_append_right _ (h)))) hK hP2 0 rfl rfl 1 (by decide) (List.mem_of_getElem? (i := 1) rfl) rfl dX1_covers_5 ?_
  refine Rd.callV (r := (bI (iaB (sF r) (sT r) (sF r2) (sT r2)))) (As := [.ref (ad2.2.1)]) S (k_X0_includesAll l (hP.sub [1] rfl) (hP2.sub [1] rfl) (by omega)) (cwV 1 hts gX1_covers_X0_includesAll rfl rfl rfl (by decide +kernel) ⟨Nat.le_of_ble_eq_true rfl, Nat.le_of_ble_eq_true rfl⟩) hK (va_recv hK.1 hP (ci := 0) (q0 := 1) rfl rfl) rfl hl.1 rfl (Nat.le_of_ble_eq_true rfl) dX1_covers_8 ⟨Nat.zero_le _, Nat.zero_le _⟩ ?_
  refine nr_ifB_eq (tgt := 48) hx hb dX1_covers_11 (by decide) (fun c_11 => ?_) (fun c_11 => ?_)
  · refine lv_iconst (v := (nI (0))) hx hb dX1_covers_48 (by decide +kernel) ?_
    exact hE _ _ _ dX1_covers_49 (rfl) (bI_f (by unfold cvB; first | (rw [c_11]; rfl) | (rw [c_25, Bool.and_false]; rfl) | (rw [decide_eq_false c_41, Bool.and_false])))
  · refine lv_aload_n hx hb dX1_covers_14 rfl (lv_at hl 0 rfl) ?_
    refine nr_get (C := RX1) (T := TX1) (N := 5) (ci := 1) S (fun _ h => List.mem_cons_of_mem _ (List.mem_append_left _ (List.mem_append_right _ (h)))) hK hP 0 rfl rfl 2 (by decide) (List.mem_of_getElem? (i := 2) rfl) rfl dX1_covers_15 ?_
    refine lv_aload_n hx hb dX1_covers_18 rfl (lv_at hl 1 rfl) ?_
    refine nr_get (C := RX1) (T := TX1) (N := 5) (ci := 1) S (fun _ h => List.mem_cons_of_mem _ (List.mem_append_left _ (List.mem_append_right _ (h)))) hK hP2 0 rfl rfl 2 (by decide) (List.mem_of_getElem? (i := 2) rfl) rfl dX1_covers_19 ?_
    refine Rd.callV (r := (bI (iaB (dF r) (dT r) (dF r2) (dT r2)))) (As := [.ref (ad2.2.2)]) S (k_X0_includesAll l (hP.sub [2] rfl) (hP2.sub [2] rfl) (by omega)) (cwV 1 hts gX1_covers_X0_includesAll rfl rfl rfl (by decide +kernel) ⟨Nat.le_of_ble_eq_true rfl, Nat.le_of_ble_eq_true rfl⟩) hK (va_recv hK.1 hP (ci := 0) (q0 := 2) rfl rfl) rfl hl.1 rfl (Nat.le_of_ble_eq_true rfl) dX1_covers_22 ⟨Nat.zero_le _, Nat.zero_le _⟩ ?_
    refine nr_ifB_eq (tgt := 48) hx hb dX1_covers_25 (by decide) (fun c_25 => ?_) (fun c_25 => ?_)
    · refine lv_iconst (v := (nI (0))) hx hb dX1_covers_48 (by decide +kernel) ?_
      exact hE _ _ _ dX1_covers_49 (rfl) (bI_f (by unfold cvB; first | (rw [c_11]; rfl) | (rw [c_25, Bool.and_false]; rfl) | (rw [decide_eq_false c_41, Bool.and_false])))
    · refine lv_aload_n hx hb dX1_covers_28 rfl (lv_at hl 0 rfl) ?_
      refine nr_get (C := RX1) (T := TX1) (N := 5) (ci := 1) S (fun _ h => List.mem_cons_of_mem _ (List.mem_append_left _ (List.mem_append_right _ (h)))) hK hP 0 rfl rfl 3 (by decide) (List.mem_of_getElem? (i := 3) rfl) rfl dX1_covers_29 ?_
      refine lv_aload_n hx hb dX1_covers_32 rfl (lv_at hl 1 rfl) ?_
      refine nr_get (C := RX1) (T := TX1) (N := 5) (ci := 1) S (fun _ h => List.mem_cons_of_mem _ (List.mem_append_left _ (List.mem_append_right _ (h)))) hK hP2 0 rfl rfl 3 (by decide) (List.mem_of_getElem? (i := 3) rfl) rfl dX1_covers_33 ?_
      refine lv_iand hx hb dX1_covers_36 ?_
      refine nr_top (y := (nI (pR r &&& pR r2))) (nx_and _ _) ?_
      refine lv_aload_n hx hb dX1_covers_37 rfl (lv_at hl 1 rfl) ?_
      refine nr_get (C := RX1) (T := TX1) (N := 5) (ci := 1) S (fun _ h => List.mem_cons_of_mem _ (List.mem_append_left _ (List.mem_append_right _ (h)))) hK hP2 0 rfl rfl 3 (by decide) (List.mem_of_getElem? (i := 3) rfl) rfl dX1_covers_38 ?_
      refine nr_icmp_ne (tgt := 48) hx hb (Nat.lt_of_le_of_lt Nat.and_le_left (by omega)) (by omega) dX1_covers_41 (by decide) (fun c_41 => ?_) (fun c_41 => ?_)
      · refine lv_iconst (v := (nI (0))) hx hb dX1_covers_48 (by decide +kernel) ?_
        exact hE _ _ _ dX1_covers_49 (rfl) (bI_f (by unfold cvB; first | (rw [c_11]; rfl) | (rw [c_25, Bool.and_false]; rfl) | (rw [decide_eq_false c_41, Bool.and_false])))
      · refine lv_iconst (v := (nI (1))) hx hb dX1_covers_44 (by decide +kernel) ?_
        refine lv_goto (tgt := 49) hx hb dX1_covers_45 (by decide) ?_
        exact hE _ _ _ dX1_covers_49 (rfl) (bI_t (by unfold cvB; rw [c_11, c_25, decide_eq_true c_41]; rfl))
set_option maxHeartbeats 4000000 in
set_option maxRecDepth 100000 in
theorem k_X1_commonPackets (l : Launch) {D : va_G} {Y : Nat → ClassId} {H : Heap} {r r2 : RV} {ad ad2 : Nat × Nat × Nat}  (hP : va_P D aCl (ruC r ad) H) (hP2 : va_P D aCl (ruC r2 ad2) H) (ho : rvOk r) (ho2 : rvOk r2) : Rd l yX1_commonPackets wsX1_commonPackets 2 D Y [.ref (ad.1), .ref (ad2.1)] H (nI (cpN r r2)) := by
  refine Rd.start (cc := cX1_commonPackets) (maxL := 2) (rt := .int) (by decide) rfl (Nat.le_of_ble_eq_true rfl) ?_
  intro p e s m args below meth c ls Q S hK hl hE
  have S : CallFix p m c cX1_commonPackets 2 s args wsX1_commonPackets RX1 := S
  have hx := S.1
  have hb := S.2.1
  have hts := S.2.2.2.2
  have hl : lv_has ls 2 [(0, .ref (ad.1)), (1, .ref (ad2.1))] := hl
  have hv := ho
  unfold rvOk at hv
  have hv2 := ho2
  unfold rvOk at hv2
  refine lv_aload_n hx hb dX1_commonPackets_0 rfl (lv_at hl 0 rfl) ?_
  refine nr_get (C := RX1) (T := TX1) (N := 5) (ci := 1) S (fun _ h => List.mem_cons_of_mem _ (List.mem_append_left _ (List.mem_append_right _ (h)))) hK hP 0 rfl rfl 1 (by decide) (List.mem_of_getElem? (i := 1) rfl) rfl dX1_commonPackets_1 ?_
  refine lv_aload_n hx hb dX1_commonPackets_4 rfl (lv_at hl 1 rfl) ?_
  refine nr_get (C := RX1) (T := TX1) (N := 5) (ci := 1) S (fun _ h => List.mem_cons_of_mem _ (List.mem_append_left _ (List.mem_append_right _ (h)))) hK hP2 0 rfl rfl 1 (by decide) (List.mem_of_getElem? (i := 1) rfl) rfl dX1_commonPackets_5 ?_
  refine Rd.callV (r := (nI (cnN (sF r) (sT r) (sF r2) (sT r2)))) (As := [.ref (ad2.2.1)]) S (k_X0_commonNumbers l (hP.sub [1] rfl) (hP2.sub [1] rfl) (by omega)) (cwV 1 hts gX1_commonPackets_X0_commonNumbers rfl rfl rfl (by decide +kernel) ⟨Nat.le_of_ble_eq_true rfl, Nat.le_of_ble_eq_true rfl⟩) hK (va_recv hK.1 hP (ci := 0) (q0 := 1) rfl rfl) rfl hl.1 rfl (Nat.le_of_ble_eq_true rfl) dX1_commonPackets_8 ⟨Nat.zero_le _, Nat.zero_le _⟩ ?_
  refine lv_aload_n hx hb dX1_commonPackets_11 rfl (lv_at hl 0 rfl) ?_
  refine nr_get (C := RX1) (T := TX1) (N := 5) (ci := 1) S (fun _ h => List.mem_cons_of_mem _ (List.mem_append_left _ (List.mem_append_right _ (h)))) hK hP 0 rfl rfl 2 (by decide) (List.mem_of_getElem? (i := 2) rfl) rfl dX1_commonPackets_12 ?_
  refine lv_aload_n hx hb dX1_commonPackets_15 rfl (lv_at hl 1 rfl) ?_
  refine nr_get (C := RX1) (T := TX1) (N := 5) (ci := 1) S (fun _ h => List.mem_cons_of_mem _ (List.mem_append_left _ (List.mem_append_right _ (h)))) hK hP2 0 rfl rfl 2 (by decide) (List.mem_of_getElem? (i := 2) rfl) rfl dX1_commonPackets_16 ?_
  refine Rd.callV (r := (nI (cnN (dF r) (dT r) (dF r2) (dT r2)))) (As := [.ref (ad2.2.2)]) S (k_X0_commonNumbers l (hP.sub [2] rfl) (hP2.sub [2] rfl) (by omega)) (cwV 1 hts gX1_commonPackets_X0_commonNumbers rfl rfl rfl (by decide +kernel) ⟨Nat.le_of_ble_eq_true rfl, Nat.le_of_ble_eq_true rfl⟩) hK (va_recv hK.1 hP (ci := 0) (q0 := 2) rfl rfl) rfl hl.1 rfl (Nat.le_of_ble_eq_true rfl) dX1_commonPackets_19 ⟨Nat.zero_le _, Nat.zero_le _⟩ ?_
  refine nr_imul hx hb dX1_commonPackets_22 ?_
  refine lv_aload_n hx hb dX1_commonPackets_23 rfl (lv_at hl 0 rfl) ?_
  refine nr_get (C := RX1) (T := TX1) (N := 5) (ci := 1) S (fun _ h => List.mem_cons_of_mem _ (List.mem_append_left _ (List.mem_append_right _ (h)))) hK hP 0 rfl rfl 3 (by decide) (List.mem_of_getElem? (i := 3) rfl) rfl dX1_commonPackets_24 ?_
  refine lv_aload_n hx hb dX1_commonPackets_27 rfl (lv_at hl 1 rfl) ?_
  refine nr_get (C := RX1) (T := TX1) (N := 5) (ci := 1) S (fun _ h => List.mem_cons_of_mem _ (List.mem_append_left _ (List.mem_append_right _ (h)))) hK hP2 0 rfl rfl 3 (by decide) (List.mem_of_getElem? (i := 3) rfl) rfl dX1_commonPackets_28 ?_
  refine lv_iand hx hb dX1_commonPackets_31 ?_
  refine nr_top (y := (nI (pR r &&& pR r2))) (nx_and _ _) ?_
  refine Rd.callS (r := (nI (popI (nI (pR r &&& pR r2))))) (As := [.int (nI (pR r &&& pR r2))]) S (k_J6_bitCount_0f7a4 l (nI (pR r &&& pR r2))) (va_cwS 1 hts gX1_commonPackets_J6_bitCount_0f7a4 rfl rfl rfl (by decide +kernel) ⟨Nat.le_of_ble_eq_true rfl, Nat.le_of_ble_eq_true rfl⟩) hK rfl hl.1 rfl (Nat.le_of_ble_eq_true rfl) dX1_commonPackets_32 ⟨Nat.zero_le _, Nat.zero_le _⟩ ?_
  refine nr_imul hx hb dX1_commonPackets_35 ?_
  exact hE _ _ _ dX1_commonPackets_36 (vp_nar_int _) (rfl)
theorem cpN_lt {r r2 : RV} (h : rvOk r) (h2 : rvOk r2) : cpN r r2 < 2 ^ 31 := by
  unfold rvOk at h h2
  have h3 : cnN (sF r) (sT r) (sF r2) (sT r2) ≤ 32 := by unfold cnN; omega
  have h4 : cnN (dF r) (dT r) (dF r2) (dT r2) ≤ 32 := by unfold cnN; omega
  exact Nat.lt_of_le_of_lt (Nat.mul_le_mul (Nat.mul_le_mul h3 h4) (popI_le _)) (by decide)
set_option maxHeartbeats 4000000 in
set_option maxRecDepth 100000 in
theorem k_X1_isExchangeable (l : Launch) {D : va_G} {Y : Nat → ClassId} {H : Heap} {r r2 : RV} {ad ad2 : Nat × Nat × Nat}  (hP : va_P D aCl (ruC r ad) H) (hP2 : va_P D aCl (ruC r2 ad2) H) (ho : rvOk r) (ho2 : rvOk r2) : Rd l yX1_isExchangeable wsX1_isExchangeable 3 D Y [.ref (ad.1), .ref (ad2.1)] H (bI (exB r r2)) := by
  refine Rd.start (cc := cX1_isExchangeable) (maxL := 2) (rt := .boolean) (by decide) rfl (Nat.le_of_ble_eq_true rfl) ?_
  intro p e s m args below meth c ls Q S hK hl hE
  have S : CallFix p m c cX1_isExchangeable 2 s args wsX1_isExchangeable RX1 := S
  have hx := S.1
  have hb := S.2.1
  have hts := S.2.2.2.2
  have hl : lv_has ls 2 [(0, .ref (ad.1)), (1, .ref (ad2.1))] := hl
  have hv := ho
  unfold rvOk at hv
  have hv2 := ho2
  unfold rvOk at hv2
  refine lv_aload_n hx hb dX1_isExchangeable_0 rfl (lv_at hl 0 rfl) ?_
  refine nr_get (C := RX1) (T := TX1) (N := 5) (ci := 1) S (fun _ h => List.mem_cons_of_mem _ (List.mem_append_left _ (List.mem_append_right _ (h)))) hK hP 0 rfl rfl 0 (by decide) (List.mem_of_getElem? (i := 1) rfl) rfl dX1_isExchangeable_1 ?_
  refine lv_aload_n hx hb dX1_isExchangeable_4 rfl (lv_at hl 1 rfl) ?_
  refine nr_get (C := RX1) (T := TX1) (N := 5) (ci := 1) S (fun _ h => List.mem_cons_of_mem _ (List.mem_append_left _ (List.mem_append_right _ (h)))) hK hP2 0 rfl rfl 0 (by decide) (List.mem_of_getElem? (i := 1) rfl) rfl dX1_isExchangeable_5 ?_
  refine nr_icmpB_eq (tgt := 19) hx hb dX1_isExchangeable_8 (by decide) (fun c_8 => ?_) (fun c_8 => ?_)
  · refine lv_iconst (v := (nI (1))) hx hb dX1_isExchangeable_19 (by decide +kernel) ?_
    refine lv_goto (tgt := 24) hx hb dX1_isExchangeable_20 (by decide) ?_
    exact hE _ _ _ dX1_isExchangeable_24 (rfl) (bI_t (by unfold exB; first | (rw [decide_eq_true c_8]; rfl) | (rw [decide_eq_true c_16, Bool.or_true])))
  · refine lv_aload_n hx hb dX1_isExchangeable_11 rfl (lv_at hl 0 rfl) ?_
    refine lv_aload_n hx hb dX1_isExchangeable_12 rfl (lv_at hl 1 rfl) ?_
    refine Rd.callV (r := (nI (cpN r r2))) (As := [.ref (ad2.1)]) S (k_X1_commonPackets l hP hP2 ho ho2) (cwV 1 hts gX1_isExchangeable_X1_commonPackets rfl rfl rfl (by decide +kernel) ⟨Nat.le_of_ble_eq_true rfl, Nat.le_of_ble_eq_true rfl⟩) hK (va_recv hK.1 hP (ci := 1) (q0 := 0) rfl rfl) rfl hl.1 rfl (Nat.le_of_ble_eq_true rfl) dX1_isExchangeable_13 ⟨Nat.zero_le _, Nat.zero_le _⟩ ?_
    refine nr_if_ne (tgt := 23) hx hb (cpN_lt ho ho2) dX1_isExchangeable_16 (by decide) (fun c_16 => ?_) (fun c_16 => ?_)
    · refine lv_iconst (v := (nI (0))) hx hb dX1_isExchangeable_23 (by decide +kernel) ?_
      exact hE _ _ _ dX1_isExchangeable_24 (rfl) (bI_f (by unfold exB; rw [decide_eq_false c_8, decide_eq_false (Nat.ne_of_gt c_16)]; rfl))
    · refine lv_iconst (v := (nI (1))) hx hb dX1_isExchangeable_19 (by decide +kernel) ?_
      refine lv_goto (tgt := 24) hx hb dX1_isExchangeable_20 (by decide) ?_
      exact hE _ _ _ dX1_isExchangeable_24 (rfl) (bI_t (by unfold exB; first | (rw [decide_eq_true c_8]; rfl) | (rw [decide_eq_true c_16, Bool.or_true])))
set_option maxHeartbeats 4000000 in
set_option maxRecDepth 100000 in
theorem k_X1_differences (l : Launch) {D : va_G} {Y : Nat → ClassId} {H : Heap} {r r2 : RV} {ad ad2 : Nat × Nat × Nat}  (hP : va_P D aCl (ruC r ad) H) (hP2 : va_P D aCl (ruC r2 ad2) H) (ho : rvOk r) (ho2 : rvOk r2) : Rd l yX1_differences wsX1_differences 1 D Y [.ref (ad.1), .ref (ad2.1)] H (nI (dfN r r2)) := by
  refine Rd.start (cc := cX1_differences) (maxL := 3) (rt := .int) (by decide) rfl (Nat.le_of_ble_eq_true rfl) ?_
  intro p e s m args below meth c ls Q S hK hl hE
  have S : CallFix p m c cX1_differences 3 s args wsX1_differences RX1 := S
  have hx := S.1
  have hb := S.2.1
  have hts := S.2.2.2.2
  have hl : lv_has ls 3 [(0, .ref (ad.1)), (1, .ref (ad2.1))] := hl
  have hv := ho
  unfold rvOk at hv
  have hv2 := ho2
  unfold rvOk at hv2
  refine lv_aload_n hx hb dX1_differences_0 rfl (lv_at hl 0 rfl) ?_
  refine nr_get (C := RX1) (T := TX1) (N := 5) (ci := 1) S (fun _ h => List.mem_cons_of_mem _ (List.mem_append_left _ (List.mem_append_right _ (h)))) hK hP 0 rfl rfl 1 (by decide) (List.mem_of_getElem? (i := 1) rfl) rfl dX1_differences_1 ?_
  refine lv_aload_n hx hb dX1_differences_4 rfl (lv_at hl 1 rfl) ?_
  refine nr_get (C := RX1) (T := TX1) (N := 5) (ci := 1) S (fun _ h => List.mem_cons_of_mem _ (List.mem_append_left _ (List.mem_append_right _ (h)))) hK hP2 0 rfl rfl 1 (by decide) (List.mem_of_getElem? (i := 1) rfl) rfl dX1_differences_5 ?_
  refine Rd.callV (r := (bI (smB (sF r) (sT r) (sF r2) (sT r2)))) (As := [.ref (ad2.2.1)]) S (k_X0_isSame l (hP.sub [1] rfl) (hP2.sub [1] rfl) (by omega)) (cwV 1 hts gX1_differences_X0_isSame rfl rfl rfl (by decide +kernel) ⟨Nat.le_of_ble_eq_true rfl, Nat.le_of_ble_eq_true rfl⟩) hK (va_recv hK.1 hP (ci := 0) (q0 := 1) rfl rfl) rfl hl.1 rfl (Nat.le_of_ble_eq_true rfl) dX1_differences_8 ⟨Nat.zero_le _, Nat.zero_le _⟩ ?_
  refine nr_join (pc' := 19) (n := 3) (L := [(0, .ref (ad.1)), (1, .ref (ad2.1))]) (st' := [.int (nI (bN (!smB (sF r) (sT r) (sF r2) (sT r2))))]) (fun ls hl => ?_) (fun J1 => ?_)
  · refine lv_istore_n (lv' := [(2, .int (nI (bN (!smB (sF r) (sT r) (sF r2) (sT r2))))), (0, .ref (ad.1)), (1, .ref (ad2.1))]) hx hb dX1_differences_19 rfl hl (by decide) rfl (fun ls hl => ?_)
    refine lv_iload_n hx hb dX1_differences_20 rfl (lv_at hl 0 rfl) ?_
    refine lv_aload_n hx hb dX1_differences_21 rfl (lv_at hl 1 rfl) ?_
    refine nr_get (C := RX1) (T := TX1) (N := 5) (ci := 1) S (fun _ h => List.mem_cons_of_mem _ (List.mem_append_left _ (List.mem_append_right _ (h)))) hK hP 0 rfl rfl 2 (by decide) (List.mem_of_getElem? (i := 2) rfl) rfl dX1_differences_22 ?_
    refine lv_aload_n hx hb dX1_differences_25 rfl (lv_at hl 2 rfl) ?_
    refine nr_get (C := RX1) (T := TX1) (N := 5) (ci := 1) S (fun _ h => List.mem_cons_of_mem _ (List.mem_append_left _ (List.mem_append_right _ (h)))) hK hP2 0 rfl rfl 2 (by decide) (List.mem_of_getElem? (i := 2) rfl) rfl dX1_differences_26 ?_
    refine Rd.callV (r := (bI (smB (dF r) (dT r) (dF r2) (dT r2)))) (As := [.ref (ad2.2.2)]) S (k_X0_isSame l (hP.sub [2] rfl) (hP2.sub [2] rfl) (by omega)) (cwV 1 hts gX1_differences_X0_isSame rfl rfl rfl (by decide +kernel) ⟨Nat.le_of_ble_eq_true rfl, Nat.le_of_ble_eq_true rfl⟩) hK (va_recv hK.1 hP (ci := 0) (q0 := 2) rfl rfl) rfl hl.1 rfl (Nat.le_of_ble_eq_true rfl) dX1_differences_29 ⟨Nat.zero_le _, Nat.zero_le _⟩ ?_
    refine nr_join (pc' := 40) (n := 3) (L := [(2, .int (nI (bN (!smB (sF r) (sT r) (sF r2) (sT r2))))), (0, .ref (ad.1)), (1, .ref (ad2.1))]) (st' := [.int (nI (bN (!smB (dF r) (dT r) (dF r2) (dT r2)))), .int (nI (bN (!smB (sF r) (sT r) (sF r2) (sT r2))))]) (fun ls hl => ?_) (fun J2 => ?_)
    · refine nr_iadd hx hb dX1_differences_40 ?_
      refine lv_istore_n (lv' := [(2, .int (nI ((bN (!smB (sF r) (sT r) (sF r2) (sT r2))) + (bN (!smB (dF r) (dT r) (dF r2) (dT r2)))))), (0, .ref (ad.1)), (1, .ref (ad2.1))]) hx hb dX1_differences_41 rfl hl (by decide) rfl (fun ls hl => ?_)
      refine lv_iload_n hx hb dX1_differences_42 rfl (lv_at hl 0 rfl) ?_
      refine lv_aload_n hx hb dX1_differences_43 rfl (lv_at hl 1 rfl) ?_
      refine nr_get (C := RX1) (T := TX1) (N := 5) (ci := 1) S (fun _ h => List.mem_cons_of_mem _ (List.mem_append_left _ (List.mem_append_right _ (h)))) hK hP 0 rfl rfl 3 (by decide) (List.mem_of_getElem? (i := 3) rfl) rfl dX1_differences_44 ?_
      refine lv_aload_n hx hb dX1_differences_47 rfl (lv_at hl 2 rfl) ?_
      refine nr_get (C := RX1) (T := TX1) (N := 5) (ci := 1) S (fun _ h => List.mem_cons_of_mem _ (List.mem_append_left _ (List.mem_append_right _ (h)))) hK hP2 0 rfl rfl 3 (by decide) (List.mem_of_getElem? (i := 3) rfl) rfl dX1_differences_48 ?_
      refine nr_join (pc' := 59) (n := 3) (L := [(2, .int (nI ((bN (!smB (sF r) (sT r) (sF r2) (sT r2))) + (bN (!smB (dF r) (dT r) (dF r2) (dT r2)))))), (0, .ref (ad.1)), (1, .ref (ad2.1))]) (st' := [.int (nI (bN (!decide (pR r = pR r2)))), .int (nI ((bN (!smB (sF r) (sT r) (sF r2) (sT r2))) + (bN (!smB (dF r) (dT r) (dF r2) (dT r2)))))]) (fun ls hl => ?_) (fun J3 => ?_)
      · refine nr_iadd hx hb dX1_differences_59 ?_
        refine lv_istore_n (lv' := [(2, .int (nI (((bN (!smB (sF r) (sT r) (sF r2) (sT r2))) + (bN (!smB (dF r) (dT r) (dF r2) (dT r2)))) + (bN (!decide (pR r = pR r2)))))), (0, .ref (ad.1)), (1, .ref (ad2.1))]) hx hb dX1_differences_60 rfl hl (by decide) rfl (fun ls hl => ?_)
        refine lv_iload_n hx hb dX1_differences_61 rfl (lv_at hl 0 rfl) ?_
        exact hE _ _ _ dX1_differences_62 (vp_nar_int _) (rfl)
      · refine nr_icmp_ne (tgt := 58) hx hb (by omega) (by omega) dX1_differences_51 (by decide) (fun c_51 => ?_) (fun c_51 => ?_)
        · refine lv_iconst (v := (nI (1))) hx hb dX1_differences_58 (by decide +kernel) ?_
          refine nr_top (y := (nI (bN (!decide (pR r = pR r2))))) (by rw [decide_eq_false c_51]; rfl) ?_
          exact J3 ls (lv_sub hl [0, 1, 2] rfl)
        · refine lv_iconst (v := (nI (0))) hx hb dX1_differences_54 (by decide +kernel) ?_
          refine lv_goto (tgt := 59) hx hb dX1_differences_55 (by decide) ?_
          refine nr_top (y := (nI (bN (!decide (pR r = pR r2))))) (by rw [decide_eq_true c_51]; rfl) ?_
          exact J3 ls (lv_sub hl [0, 1, 2] rfl)
    · refine nr_ifB_eq (tgt := 39) hx hb dX1_differences_32 (by decide) (fun c_32 => ?_) (fun c_32 => ?_)
      · refine lv_iconst (v := (nI (1))) hx hb dX1_differences_39 (by decide +kernel) ?_
        refine nr_top (y := (nI (bN (!smB (dF r) (dT r) (dF r2) (dT r2))))) (by rw [c_32]; rfl) ?_
        exact J2 ls (lv_sub hl [0, 1, 2] rfl)
      · refine lv_iconst (v := (nI (0))) hx hb dX1_differences_35 (by decide +kernel) ?_
        refine lv_goto (tgt := 40) hx hb dX1_differences_36 (by decide) ?_
        refine nr_top (y := (nI (bN (!smB (dF r) (dT r) (dF r2) (dT r2))))) (by rw [c_32]; rfl) ?_
        exact J2 ls (lv_sub hl [0, 1, 2] rfl)
  · refine nr_ifB_eq (tgt := 18) hx hb dX1_differences_11 (by decide) (fun c_11 => ?_) (fun c_11 => ?_)
    · refine lv_iconst (v := (nI (1))) hx hb dX1_differences_18 (by decide +kernel) ?_
      refine nr_top (y := (nI (bN (!smB (sF r) (sT r) (sF r2) (sT r2))))) (by rw [c_11]; rfl) ?_
      exact J1 ls (lv_sub hl [0, 1] rfl)
    · refine lv_iconst (v := (nI (0))) hx hb dX1_differences_14 (by decide +kernel) ?_
      refine lv_goto (tgt := 19) hx hb dX1_differences_15 (by decide) ?_
      refine nr_top (y := (nI (bN (!smB (sF r) (sT r) (sF r2) (sT r2))))) (by rw [c_11]; rfl) ?_
      exact J1 ls (lv_sub hl [0, 1] rfl)
theorem dfN_le (r r2 : RV) : dfN r r2 ≤ 3 := Nat.add_le_add (Nat.add_le_add (bN_le _) (bN_le _)) (bN_le _)
set_option maxHeartbeats 4000000 in
set_option maxRecDepth 100000 in
theorem k_X1_isMergeable (l : Launch) {D : va_G} {Y : Nat → ClassId} {H : Heap} {r r2 : RV} {ad ad2 : Nat × Nat × Nat}  (hP : va_P D aCl (ruC r ad) H) (hP2 : va_P D aCl (ruC r2 ad2) H) (ho : rvOk r) (ho2 : rvOk r2) : Rd l yX1_isMergeable wsX1_isMergeable 2 D Y [.ref (ad.1), .ref (ad2.1)] H (bI (mjB r r2)) := by
  refine Rd.start (cc := cX1_isMergeable) (maxL := 2) (rt := .boolean) (by decide) rfl (Nat.le_of_ble_eq_true rfl) ?_
  intro p e s m args below meth c ls Q S hK hl hE
  have S : CallFix p m c cX1_isMergeable 2 s args wsX1_isMergeable RX1 := S
  have hx := S.1
  have hb := S.2.1
  have hts := S.2.2.2.2
  have hl : lv_has ls 2 [(0, .ref (ad.1)), (1, .ref (ad2.1))] := hl
  have hv := ho
  unfold rvOk at hv
  have hv2 := ho2
  unfold rvOk at hv2
  refine lv_aload_n hx hb dX1_isMergeable_0 rfl (lv_at hl 0 rfl) ?_
  refine nr_get (C := RX1) (T := TX1) (N := 5) (ci := 1) S (fun _ h => List.mem_cons_of_mem _ (List.mem_append_left _ (List.mem_append_right _ (h)))) hK hP 0 rfl rfl 0 (by decide) (List.mem_of_getElem? (i := 1) rfl) rfl dX1_isMergeable_1 ?_
  refine lv_aload_n hx hb dX1_isMergeable_4 rfl (lv_at hl 1 rfl) ?_
  refine nr_get (C := RX1) (T := TX1) (N := 5) (ci := 1) S (fun _ h => List.mem_cons_of_mem _ (List.mem_append_left _ (List.mem_append_right _ (h)))) hK hP2 0 rfl rfl 0 (by decide) (List.mem_of_getElem? (i := 1) rfl) rfl dX1_isMergeable_5 ?_
  refine nr_icmpB_ne (tgt := 52) hx hb dX1_isMergeable_8 (by decide) (fun c_8 => ?_) (fun c_8 => ?_)
  · refine lv_iconst (v := (nI (0))) hx hb dX1_isMergeable_52 (by decide +kernel) ?_
    exact hE _ _ _ dX1_isMergeable_53 (rfl) (bI_f (by unfold mjB; first | (rw [decide_eq_false c_8]; rfl) | (rw [decide_eq_false (Nat.not_le.mpr c_17), Bool.and_false]; rfl) | (rw [c_31, Bool.false_and, Bool.and_false]) | (rw [c_45, Bool.and_false, Bool.and_false])))
  · refine lv_aload_n hx hb dX1_isMergeable_11 rfl (lv_at hl 0 rfl) ?_
    refine lv_aload_n hx hb dX1_isMergeable_12 rfl (lv_at hl 1 rfl) ?_
    refine Rd.callV (r := (nI (dfN r r2))) (As := [.ref (ad2.1)]) S (k_X1_differences l hP hP2 ho ho2) (cwV 1 hts gX1_isMergeable_X1_differences rfl rfl rfl (by decide +kernel) ⟨Nat.le_of_ble_eq_true rfl, Nat.le_of_ble_eq_true rfl⟩) hK (va_recv hK.1 hP (ci := 1) (q0 := 0) rfl rfl) rfl hl.1 rfl (Nat.le_of_ble_eq_true rfl) dX1_isMergeable_13 ⟨Nat.zero_le _, Nat.zero_le _⟩ ?_
    refine lv_iconst (v := (nI (1))) hx hb dX1_isMergeable_16 (by decide +kernel) ?_
    refine nr_icmp_gt (tgt := 52) hx hb (Nat.lt_of_le_of_lt (dfN_le _ _) (by decide)) (by decide) dX1_isMergeable_17 (by decide) (fun c_17 => ?_) (fun c_17 => ?_)
    · refine lv_iconst (v := (nI (0))) hx hb dX1_isMergeable_52 (by decide +kernel) ?_
      exact hE _ _ _ dX1_isMergeable_53 (rfl) (bI_f (by unfold mjB; first | (rw [decide_eq_false c_8]; rfl) | (rw [decide_eq_false (Nat.not_le.mpr c_17), Bool.and_false]; rfl) | (rw [c_31, Bool.false_and, Bool.and_false]) | (rw [c_45, Bool.and_false, Bool.and_false])))
    · refine lv_aload_n hx hb dX1_isMergeable_20 rfl (lv_at hl 0 rfl) ?_
      refine nr_get (C := RX1) (T := TX1) (N := 5) (ci := 1) S (fun _ h => List.mem_cons_of_mem _ (List.mem_append_left _ (List.mem_append_right _ (h)))) hK hP 0 rfl rfl 1 (by decide) (List.mem_of_getElem? (i := 2) rfl) rfl dX1_isMergeable_21 ?_
      refine lv_aload_n hx hb dX1_isMergeable_24 rfl (lv_at hl 1 rfl) ?_
      refine nr_get (C := RX1) (T := TX1) (N := 5) (ci := 1) S (fun _ h => List.mem_cons_of_mem _ (List.mem_append_left _ (List.mem_append_right _ (h)))) hK hP2 0 rfl rfl 1 (by decide) (List.mem_of_getElem? (i := 2) rfl) rfl dX1_isMergeable_25 ?_
      refine Rd.callV (r := (bI (jnB (sF r) (sT r) (sF r2) (sT r2)))) (As := [.ref (ad2.2.1)]) S (k_X0_isJoinable l (hP.sub [1] rfl) (hP2.sub [1] rfl) (by omega)) (cwV 1 hts gX1_isMergeable_X0_isJoinable rfl rfl rfl (by decide +kernel) ⟨Nat.le_of_ble_eq_true rfl, Nat.le_of_ble_eq_true rfl⟩) hK (va_recv hK.1 hP (ci := 0) (q0 := 1) rfl rfl) rfl hl.1 rfl (Nat.le_of_ble_eq_true rfl) dX1_isMergeable_28 ⟨Nat.zero_le _, Nat.zero_le _⟩ ?_
      refine nr_ifB_eq (tgt := 52) hx hb dX1_isMergeable_31 (by decide) (fun c_31 => ?_) (fun c_31 => ?_)
      · refine lv_iconst (v := (nI (0))) hx hb dX1_isMergeable_52 (by decide +kernel) ?_
        exact hE _ _ _ dX1_isMergeable_53 (rfl) (bI_f (by unfold mjB; first | (rw [decide_eq_false c_8]; rfl) | (rw [decide_eq_false (Nat.not_le.mpr c_17), Bool.and_false]; rfl) | (rw [c_31, Bool.false_and, Bool.and_false]) | (rw [c_45, Bool.and_false, Bool.and_false])))
      · refine lv_aload_n hx hb dX1_isMergeable_34 rfl (lv_at hl 0 rfl) ?_
        refine nr_get (C := RX1) (T := TX1) (N := 5) (ci := 1) S (fun _ h => List.mem_cons_of_mem _ (List.mem_append_left _ (List.mem_append_right _ (h)))) hK hP 0 rfl rfl 2 (by decide) (List.mem_of_getElem? (i := 3) rfl) rfl dX1_isMergeable_35 ?_
        refine lv_aload_n hx hb dX1_isMergeable_38 rfl (lv_at hl 1 rfl) ?_
        refine nr_get (C := RX1) (T := TX1) (N := 5) (ci := 1) S (fun _ h => List.mem_cons_of_mem _ (List.mem_append_left _ (List.mem_append_right _ (h)))) hK hP2 0 rfl rfl 2 (by decide) (List.mem_of_getElem? (i := 3) rfl) rfl dX1_isMergeable_39 ?_
        refine Rd.callV (r := (bI (jnB (dF r) (dT r) (dF r2) (dT r2)))) (As := [.ref (ad2.2.2)]) S (k_X0_isJoinable l (hP.sub [2] rfl) (hP2.sub [2] rfl) (by omega)) (cwV 1 hts gX1_isMergeable_X0_isJoinable rfl rfl rfl (by decide +kernel) ⟨Nat.le_of_ble_eq_true rfl, Nat.le_of_ble_eq_true rfl⟩) hK (va_recv hK.1 hP (ci := 0) (q0 := 2) rfl rfl) rfl hl.1 rfl (Nat.le_of_ble_eq_true rfl) dX1_isMergeable_42 ⟨Nat.zero_le _, Nat.zero_le _⟩ ?_
        refine nr_ifB_eq (tgt := 52) hx hb dX1_isMergeable_45 (by decide) (fun c_45 => ?_) (fun c_45 => ?_)
        · refine lv_iconst (v := (nI (0))) hx hb dX1_isMergeable_52 (by decide +kernel) ?_
          exact hE _ _ _ dX1_isMergeable_53 (rfl) (bI_f (by unfold mjB; first | (rw [decide_eq_false c_8]; rfl) | (rw [decide_eq_false (Nat.not_le.mpr c_17), Bool.and_false]; rfl) | (rw [c_31, Bool.false_and, Bool.and_false]) | (rw [c_45, Bool.and_false, Bool.and_false])))
        · refine lv_iconst (v := (nI (1))) hx hb dX1_isMergeable_48 (by decide +kernel) ?_
          refine lv_goto (tgt := 53) hx hb dX1_isMergeable_49 (by decide) ?_
          exact hE _ _ _ dX1_isMergeable_53 (rfl) (bI_t (by unfold mjB; rw [decide_eq_true c_8, decide_eq_true c_17, c_31, c_45]; rfl))
set_option maxHeartbeats 4000000 in
set_option maxRecDepth 100000 in
theorem k_J3_checkIndex_8e157 (l : Launch) {D : va_G} {Y : Nat → ClassId} {H : Heap} {i n : Nat} (hi : i < n) (hn : n < 2 ^ 31) : Rd l yJ3_checkIndex_8e157 wsJ3_checkIndex_8e157 0 D Y [.int (nI (i)), .int (nI (n)), .null] H (nI i) := by
  refine Rd.start (cc := cJ3_checkIndex_8e157) (maxL := 3) (rt := .int) (by decide) rfl (Nat.le_of_ble_eq_true rfl) ?_
  intro p e s m args below meth c ls Q S hK hl hE
  have S : CallFix p m c cJ3_checkIndex_8e157 3 s args wsJ3_checkIndex_8e157 RJ3 := S
  have hx := S.1
  have hb := S.2.1
  have hts := S.2.2.2.2
  have hl : lv_has ls 3 [(0, .int (nI (i))), (1, .int (nI (n))), (2, .null)] := hl
  refine lv_iload_n hx hb dJ3_checkIndex_8e157_0 rfl (lv_at hl 0 rfl) ?_
  refine lv_if_lt (tgt := 9) hx hb dJ3_checkIndex_8e157_1 (by decide) (fun c_1 => absurd c_1 (nI_pos (by omega))) (fun c_1 => ?_)
  refine lv_iload_n hx hb dJ3_checkIndex_8e157_4 rfl (lv_at hl 0 rfl) ?_
  refine lv_iload_n hx hb dJ3_checkIndex_8e157_5 rfl (lv_at hl 1 rfl) ?_
  refine nr_icmp_lt (tgt := 16) hx hb (by omega) (by omega) dJ3_checkIndex_8e157_6 (by decide) (fun c_6 => ?_) (fun c_6 => absurd c_6 (Nat.not_le.mpr hi))
  refine lv_iload_n hx hb dJ3_checkIndex_8e157_16 rfl (lv_at hl 0 rfl) ?_
  exact hE _ _ _ dJ3_checkIndex_8e157_17 (vp_nar_int _) (rfl)
set_option maxHeartbeats 4000000 in
set_option maxRecDepth 100000 in
theorem k_J15_checkIndex_7cf53 (l : Launch) {D : va_G} {Y : Nat → ClassId} {H : Heap} {i n : Nat} (hi : i < n) (hn : n < 2 ^ 31) : Rd l yJ15_checkIndex_7cf53 wsJ15_checkIndex_7cf53 1 D Y [.int (nI (i)), .int (nI (n))] H (nI i) := by
  refine Rd.start (cc := cJ15_checkIndex_7cf53) (maxL := 2) (rt := .int) (by decide) rfl (Nat.le_of_ble_eq_true rfl) ?_
  intro p e s m args below meth c ls Q S hK hl hE
  have S : CallFix p m c cJ15_checkIndex_7cf53 2 s args wsJ15_checkIndex_7cf53 RJ15 := S
  have hx := S.1
  have hb := S.2.1
  have hts := S.2.2.2.2
  have hl : lv_has ls 2 [(0, .int (nI (i))), (1, .int (nI (n)))] := hl
  refine lv_iload_n hx hb dJ15_checkIndex_7cf53_0 rfl (lv_at hl 0 rfl) ?_
  refine lv_iload_n hx hb dJ15_checkIndex_7cf53_1 rfl (lv_at hl 1 rfl) ?_
  refine lv_null hx hb dJ15_checkIndex_7cf53_2 ?_
  refine Rd.callS (r := (nI (i))) (As := [.int (nI (i)), .int (nI (n)), .null]) S (k_J3_checkIndex_8e157 l hi hn) (va_cwS 3 hts gJ15_checkIndex_7cf53_J3_checkIndex_8e157 rfl rfl rfl (by decide +kernel) ⟨Nat.le_of_ble_eq_true rfl, Nat.le_of_ble_eq_true rfl⟩) hK rfl hl.1 rfl (Nat.le_of_ble_eq_true rfl) dJ15_checkIndex_7cf53_3 ⟨Nat.zero_le _, Nat.zero_le _⟩ ?_
  exact hE _ _ _ dJ15_checkIndex_7cf53_6 (vp_nar_int _) (rfl)
set_option maxHeartbeats 4000000 in
set_option maxRecDepth 100000 in
theorem k_Jx4a65c_size_8abf5 (l : Launch) {D : va_G} {Y : Nat → ClassId} {H : Heap} {la ea n : Nat} {mod : Int32}  (hL : va_P D aCl [(la, .inr (4, [.int mod, .ref ea, .int (nI n)]))] H) : Rd l yJx4a65c_size_8abf5 wsJx4a65c_size_8abf5 0 D Y [.ref (la)] H (nI n) := by
  refine Rd.start (cc := cJx4a65c_size_8abf5) (maxL := 1) (rt := .int) (by decide) rfl (Nat.le_of_ble_eq_true rfl) ?_
  intro p e s m args below meth c ls Q S hK hl hE
  have S : CallFix p m c cJx4a65c_size_8abf5 1 s args wsJx4a65c_size_8abf5 RJx4a65c := S
  have hx := S.1
  have hb := S.2.1
  have hts := S.2.2.2.2
  have hl : lv_has ls 1 [(0, .ref (la))] := hl
  refine lv_aload_n hx hb dJx4a65c_size_8abf5_0 rfl (lv_at hl 0 rfl) ?_
  refine nr_get (C := RJx4a65c) (T := TJx4a65c) (N := 3) (ci := 4) S (fun _ h => List.mem_cons_of_mem _ (List.mem_append_right _ (h))) hK hL 0 rfl rfl 2 (by decide) (List.mem_of_getElem? (i := 1) rfl) rfl dJx4a65c_size_8abf5_1 ?_
  exact hE _ _ _ dJx4a65c_size_8abf5_4 (vp_nar_int _) (rfl)
set_option maxHeartbeats 4000000 in
set_option maxRecDepth 100000 in
theorem k_Jx4a65c_elementData_915e3 (l : Launch) {D : va_G} {Y : Nat → ClassId} {H : Heap} {la ea n : Nat} {mod : Int32} {cap : Nat} {es : Nat → Option Nat} {i a : Nat}  (hL : va_P D aCl [(la, .inr (4, [.int mod, .ref ea, .int (nI n)]))] H) (hE2 : va_P D aCl [(ea, .inl (Y 1, cap, .inr (.inr (.inr (.inr es)))))] H) (hi : i < cap) (hn : cap < 2 ^ 31) (hv : es i = some a) : RdO l yJx4a65c_elementData_915e3 wsJx4a65c_elementData_915e3 0 D Y [.ref (la), .int (nI (i))] H (some (.ref a)) := by
  refine RdA.start (cc := cJx4a65c_elementData_915e3) (maxL := 2) (rt := (.object "java/lang/Object")) (Or.inl ⟨_, rfl⟩) (by decide) rfl (Nat.le_of_ble_eq_true rfl) ?_
  intro p e s m args below meth c ls Q S hK hl hE
  have S : CallFix p m c cJx4a65c_elementData_915e3 2 s args wsJx4a65c_elementData_915e3 RJx4a65c := S
  have hx := S.1
  have hb := S.2.1
  have hts := S.2.2.2.2
  have hl : lv_has ls 2 [(0, .ref (la)), (1, .int (nI (i)))] := hl
  refine lv_aload_n hx hb dJx4a65c_elementData_915e3_0 rfl (lv_at hl 0 rfl) ?_
  refine nr_get (C := RJx4a65c) (T := TJx4a65c) (N := 3) (ci := 4) S (fun _ h => List.mem_cons_of_mem _ (List.mem_append_right _ (h))) hK hL 0 rfl rfl 1 (by decide) (List.mem_of_getElem? (i := 1) rfl) rfl dJx4a65c_elementData_915e3_1 ?_
  refine lv_iload_n hx hb dJx4a65c_elementData_915e3_4 rfl (lv_at hl 1 rfl) ?_
  refine nr_aald (n := cap) (f := es) (v := a) S hK hE2 0 rfl (by omega) (by omega) (hv) dJx4a65c_elementData_915e3_5 ?_
  exact hE _ _ _ dJx4a65c_elementData_915e3_6 (rfl)
set_option maxHeartbeats 4000000 in
set_option maxRecDepth 100000 in
theorem k_Jx4a65c_get_915e3 (l : Launch) {D : va_G} {Y : Nat → ClassId} {H : Heap} {la ea n : Nat} {mod : Int32} {cap : Nat} {es : Nat → Option Nat} {i a : Nat}  (hL : va_P D aCl [(la, .inr (4, [.int mod, .ref ea, .int (nI n)]))] H) (hE2 : va_P D aCl [(ea, .inl (Y 1, cap, .inr (.inr (.inr (.inr es)))))] H) (hi : i < n) (hc : n ≤ cap) (hn : cap < 2 ^ 31) (hv : es i = some a) : RdO l yJx4a65c_get_915e3 wsJx4a65c_get_915e3 2 D Y [.ref (la), .int (nI (i))] H (some (.ref a)) := by
  refine RdA.start (cc := cJx4a65c_get_915e3) (maxL := 2) (rt := (.object "java/lang/Object")) (Or.inl ⟨_, rfl⟩) (by decide) rfl (Nat.le_of_ble_eq_true rfl) ?_
  intro p e s m args below meth c ls Q S hK hl hE
  have S : CallFix p m c cJx4a65c_get_915e3 2 s args wsJx4a65c_get_915e3 RJx4a65c := S
  have hx := S.1
  have hb := S.2.1
  have hts := S.2.2.2.2
  have hl : lv_has ls 2 [(0, .ref (la)), (1, .int (nI (i)))] := hl
  refine lv_iload_n hx hb dJx4a65c_get_915e3_0 rfl (lv_at hl 1 rfl) ?_
  refine lv_aload_n hx hb dJx4a65c_get_915e3_1 rfl (lv_at hl 0 rfl) ?_
  refine nr_get (C := RJx4a65c) (T := TJx4a65c) (N := 3) (ci := 4) S (fun _ h => List.mem_cons_of_mem _ (List.mem_append_right _ (h))) hK hL 0 rfl rfl 2 (by decide) (List.mem_of_getElem? (i := 1) rfl) rfl dJx4a65c_get_915e3_2 ?_
  refine Rd.callS (r := (nI (i))) (As := [.int (nI (i)), .int (nI (n))]) S (k_J15_checkIndex_7cf53 l hi (by omega)) (va_cwS 2 hts gJx4a65c_get_915e3_J15_checkIndex_7cf53 rfl rfl rfl (by decide +kernel) ⟨Nat.le_of_ble_eq_true rfl, Nat.le_of_ble_eq_true rfl⟩) hK rfl hl.1 rfl (Nat.le_of_ble_eq_true rfl) dJx4a65c_get_915e3_5 ⟨Nat.zero_le _, Nat.zero_le _⟩ ?_
  refine lv_pop hx hb dJx4a65c_get_915e3_8 rfl ?_
  refine lv_aload_n hx hb dJx4a65c_get_915e3_9 rfl (lv_at hl 0 rfl) ?_
  refine lv_iload_n hx hb dJx4a65c_get_915e3_10 rfl (lv_at hl 1 rfl) ?_
  refine RdA.callV (x := a) (As := [.int (nI (i))]) S (k_Jx4a65c_elementData_915e3 l hL hE2 (by omega) hn hv) (cwV 1 hts gJx4a65c_get_915e3_Jx4a65c_elementData_915e3 rfl rfl rfl (by decide +kernel) ⟨Nat.le_of_ble_eq_true rfl, Nat.le_of_ble_eq_true rfl⟩) hK (va_recv hK.1 hL (ci := 4) (q0 := 0) rfl rfl) rfl hl.1 rfl (Nat.le_of_ble_eq_true rfl) dJx4a65c_get_915e3_11 ⟨Nat.zero_le _, Nat.zero_le _⟩ ?_
  exact hE _ _ _ dJx4a65c_get_915e3_14 (rfl)
