/-! the reference's methods that change its list -/
def kpB (D : va_G) (Y : Nat → ClassId) (A : Nat → Nat) (th mi ju lo : Int32) (f ca bg sz : Nat → Int32) (rs : List RV) : Heap → Prop := fun H => ∃ bf : Nat → Int32, (∀ k, k < 128 → bf k = pmI rs (k / 4) (k % 4) (-1)) ∧ va_P D aCl (wM Y A th (nI rs.length) mi ju lo f bf ca bg sz) H
set_option maxHeartbeats 4000000 in
set_option maxRecDepth 100000 in
theorem k_X3_keepsPermitted (l : Launch) {D : va_G} {Y : Nat → ClassId} {A : Nat → Nat} {th mi ju lo : Int32} {f bf ca bg sz : Nat → Int32} {rs : List RV}  (hf : mrep rs f) : MuV l yX3_keepsPermitted wsX3_keepsPermitted 5 D Y [.ref (A 0)] (wM Y A (th) (nI (rs.length)) (mi) (ju) (lo) f bf ca bg sz) (kpB D Y A th mi ju lo f ca bg sz rs) := by
  refine MuV.start (cc := cX3_keepsPermitted) (maxL := 2) (by decide) rfl (Nat.le_of_ble_eq_true rfl) ?_
  intro p e s m args below meth c ls AA H0 H locs Q S hK hP hD hS hl hE
  have S : CallFix p m c cX3_keepsPermitted 2 s args wsX3_keepsPermitted RX3 := S
  have hx := S.1
  have hb := S.2.1
  have hts := S.2.2.2.2
  have hl : lv_has ls 2 [(0, .ref (A 0))] := hl
  have hn := hf.1.1
  refine lv_iconst (v := (nI (0))) hx hb dX3_keepsPermitted_0 (by decide +kernel) ?_
  refine lv_istore_n (lv' := [(1, .int (nI (0))), (0, .ref (A 0))]) hx hb dX3_keepsPermitted_1 rfl hl (by decide) rfl (fun ls hl => ?_)
  have loop_2 : ∀ (fu_2 : Nat) (q : Nat) (bf1 : Nat → Int32), (q ≤ 128) → (∀ k, k < q → bf1 k = (fun k => pmI rs (k / 4) (k % 4) (-1)) k) → 128 - q < fu_2 → ∀ (H : Heap) (locs : List Loc), va_P D aCl (wM Y A (th) (nI (rs.length)) (mi) (ju) (lo) f bf1 ca bg sz) H → va_S AA H0 H locs → ∀ ls : Array Slot, lv_has ls 2 [(1, .int (nI (q))), (0, .ref (A 0))] → W p l e (rmN 5) s m args below meth c H locs 0 0 Q (F0 m 2 ls []) := by
    intro fu_2
    induction fu_2 with
    | zero => exact fun q bf1 _ _ hk => absurd hk (Nat.not_lt_zero _)
    | succ fu_2 ih_2 =>
      intro q bf1 h1 h2 hk_2 H locs hP hS ls hl
      have hD : va_D AA (wM Y A (th) (nI (rs.length)) (mi) (ju) (lo) f bf1 ca bg sz) := va_D.same hD rfl
      refine lv_iload_n hx hb dX3_keepsPermitted_2 rfl (lv_at hl 0 rfl) ?_
      refine lv_sipush (v := (nI (128))) hx hb dX3_keepsPermitted_3 (by decide +kernel) ?_
      refine nr_icmp_ge (tgt := 32) hx hb (by omega) (by omega) dX3_keepsPermitted_6 (by decide) (fun c_6 => ?_) (fun c_6 => ?_)
      · exact hE _ _ _ _ dX3_keepsPermitted_32 (⟨bf1, (fun k hk => h2 k (by omega)), hP⟩) hS
      · refine lv_aload_n hx hb dX3_keepsPermitted_9 rfl (lv_at hl 1 rfl) ?_
        refine nr_get (C := RX3) (T := TX3) (N := 10) (ci := 3) S (fun _ h => List.mem_cons_of_mem _ (List.mem_append_right _ (h))) hK hP 0 rfl rfl 6 (by decide) (List.mem_of_getElem? (i := 1) rfl) rfl dX3_keepsPermitted_10 ?_
        refine lv_iload_n hx hb dX3_keepsPermitted_13 rfl (lv_at hl 0 rfl) ?_
        refine lv_aload_n hx hb dX3_keepsPermitted_14 rfl (lv_at hl 1 rfl) ?_
        refine lv_iload_n hx hb dX3_keepsPermitted_15 rfl (lv_at hl 0 rfl) ?_
        refine lv_iconst (v := (nI (4))) hx hb dX3_keepsPermitted_16 (by decide +kernel) ?_
        refine nr_idiv hx hb (by omega) (by omega) (by omega) dX3_keepsPermitted_17 ?_
        refine lv_iload_n hx hb dX3_keepsPermitted_18 rfl (lv_at hl 0 rfl) ?_
        refine lv_iconst (v := (nI (4))) hx hb dX3_keepsPermitted_19 (by decide +kernel) ?_
        refine nr_irem hx hb (by omega) (by omega) (by omega) dX3_keepsPermitted_20 ?_
        refine lv_iconst (v := ((-1 : Int32))) hx hb dX3_keepsPermitted_21 (by decide +kernel) ?_
        refine Rd.callV (r := (pmI rs (q / 4) (q % 4) ((-1 : Int32)))) (As := [.int (nI (q / 4)), .int (nI (q % 4)), .int ((-1 : Int32))]) S (k_X3_permittedOf l hP hf (s0 := q / 4) (p0 := q % 4) (wo := ((-1 : Int32))) (by omega) (by omega)) (cwV 3 hts gX3_keepsPermitted_X3_permittedOf rfl rfl rfl (by decide +kernel) ⟨Nat.le_of_ble_eq_true rfl, Nat.le_of_ble_eq_true rfl⟩) hK (va_recv hK.1 hP (ci := 3) (q0 := 0) rfl rfl) rfl hl.1 rfl (Nat.le_of_ble_eq_true rfl) dX3_keepsPermitted_22 ⟨Nat.zero_le _, Nat.zero_le _⟩ ?_
        refine nr_iast (n := 128) (f := bf1) (x := (pmI rs (q / 4) (q % 4) ((-1 : Int32)))) S hK hP hD hS 2 rfl (by omega) (by decide) dX3_keepsPermitted_25 (fun H locs hP hD hS => ?_)
        have hP : va_P D aCl (wM Y A (th) (nI (rs.length)) (mi) (ju) (lo) f (upd bf1 (q) (pmI rs (q / 4) (q % 4) ((-1 : Int32)))) ca bg sz) H := hP
        have hD : va_D AA (wM Y A (th) (nI (rs.length)) (mi) (ju) (lo) f (upd bf1 (q) (pmI rs (q / 4) (q % 4) ((-1 : Int32)))) ca bg sz) := hD
        refine lv_iinc (v := (nI (q + 1))) (lv' := [(1, .int (nI (q + 1))), (0, .ref (A 0))]) hx hb dX3_keepsPermitted_26 hl (k := 0) rfl (nI_add _ _) (by decide) rfl (fun ls hl => ?_)
        refine lv_goto (tgt := 2) hx hb dX3_keepsPermitted_29 (by decide) ?_
        exact ih_2 (q + 1) ((upd bf1 (q) (pmI rs (q / 4) (q % 4) ((-1 : Int32))))) (by omega) (crep_s h2) (by omega) _ _ hP hS ls (lv_sub hl [0, 1] rfl)
  exact loop_2 _ (0) (bf) (by decide) (fun _ hj => absurd hj (Nat.not_lt_zero _)) (Nat.lt_succ_self _) _ _ hP hS ls (lv_sub hl [0, 1] rfl)
set_option maxHeartbeats 4000000 in
set_option maxRecDepth 100000 in
theorem k_X3_changed (l : Launch) {D : va_G} {Y : Nat → ClassId} {H : Heap} {A : Nat → Nat} {th mi ju lo : Int32} {f bf ca bg sz : Nat → Int32} {rs : List RV} {gg : Nat → Int32}  (hP : va_P D aCl (wM Y A (th) (nI (rs.length)) (mi) (ju) (lo) f bf ca bg sz) H) (hf : mrep rs f) (hbf : ∀ k, k < 128 → bf k = gg k) : Rd l yX3_changed wsX3_changed 5 D Y [.ref (A 0)] H (nI (sumN (fun k => popI (gg k ^^^ pmI rs (k / 4) (k % 4) (-1))) 128)) := by
  refine Rd.start (cc := cX3_changed) (maxL := 3) (rt := .int) (by decide) rfl (Nat.le_of_ble_eq_true rfl) ?_
  intro p e s m args below meth c ls Q S hK hl hE
  have S : CallFix p m c cX3_changed 3 s args wsX3_changed RX3 := S
  have hx := S.1
  have hb := S.2.1
  have hts := S.2.2.2.2
  have hl : lv_has ls 3 [(0, .ref (A 0))] := hl
  have hn := hf.1.1
  refine lv_iconst (v := (nI (0))) hx hb dX3_changed_0 (by decide +kernel) ?_
  refine lv_istore_n (lv' := [(1, .int (nI (0))), (0, .ref (A 0))]) hx hb dX3_changed_1 rfl hl (by decide) rfl (fun ls hl => ?_)
  refine lv_iconst (v := (nI (0))) hx hb dX3_changed_2 (by decide +kernel) ?_
  refine lv_istore_n (lv' := [(2, .int (nI (0))), (1, .int (nI (0))), (0, .ref (A 0))]) hx hb dX3_changed_3 rfl hl (by decide) rfl (fun ls hl => ?_)
  have loop_4 : ∀ (fu_4 : Nat) (n : Nat) (q : Nat), (q ≤ 128) → (n = sumN (fun k => popI (gg k ^^^ pmI rs (k / 4) (k % 4) (-1))) q) → 128 - q < fu_4 → ∀ ls : Array Slot, lv_has ls 3 [(2, .int (nI (q))), (1, .int (nI (n))), (0, .ref (A 0))] → W p l e (rmN 5) s m args below meth c H [] 0 0 Q (F0 m 4 ls []) := by
    intro fu_4
    induction fu_4 with
    | zero => exact fun n q _ _ hk => absurd hk (Nat.not_lt_zero _)
    | succ fu_4 ih_4 =>
      intro n q h1 h2 hk_4 ls hl
      refine lv_iload_n hx hb dX3_changed_4 rfl (lv_at hl 0 rfl) ?_
      refine lv_sipush (v := (nI (128))) hx hb dX3_changed_5 (by decide +kernel) ?_
      refine nr_icmp_ge (tgt := 41) hx hb (by omega) (by omega) dX3_changed_8 (by decide) (fun c_8 => ?_) (fun c_8 => ?_)
      · refine lv_iload_n hx hb dX3_changed_41 rfl (lv_at hl 1 rfl) ?_
        exact hE _ _ _ dX3_changed_42 (vp_nar_int _) (sumN_end h1 c_8 h2)
      · refine lv_iload_n hx hb dX3_changed_11 rfl (lv_at hl 1 rfl) ?_
        refine lv_aload_n hx hb dX3_changed_12 rfl (lv_at hl 2 rfl) ?_
        refine nr_get (C := RX3) (T := TX3) (N := 10) (ci := 3) S (fun _ h => List.mem_cons_of_mem _ (List.mem_append_right _ (h))) hK hP 0 rfl rfl 6 (by decide) (List.mem_of_getElem? (i := 1) rfl) rfl dX3_changed_13 ?_
        refine lv_iload_n hx hb dX3_changed_16 rfl (lv_at hl 0 rfl) ?_
        refine nr_iald (n := 128) (f := bf) S hK hP 2 rfl (by omega) (by decide) dX3_changed_17 ?_
        refine nr_top (y := (gg (q))) (hbf q c_8) ?_
        refine lv_aload_n hx hb dX3_changed_18 rfl (lv_at hl 2 rfl) ?_
        refine lv_iload_n hx hb dX3_changed_19 rfl (lv_at hl 0 rfl) ?_
        refine lv_iconst (v := (nI (4))) hx hb dX3_changed_20 (by decide +kernel) ?_
        refine nr_idiv hx hb (by omega) (by omega) (by omega) dX3_changed_21 ?_
        refine lv_iload_n hx hb dX3_changed_22 rfl (lv_at hl 0 rfl) ?_
        refine lv_iconst (v := (nI (4))) hx hb dX3_changed_23 (by decide +kernel) ?_
        refine nr_irem hx hb (by omega) (by omega) (by omega) dX3_changed_24 ?_
        refine lv_iconst (v := ((-1 : Int32))) hx hb dX3_changed_25 (by decide +kernel) ?_
        refine Rd.callV (r := (pmI rs (q / 4) (q % 4) ((-1 : Int32)))) (As := [.int (nI (q / 4)), .int (nI (q % 4)), .int ((-1 : Int32))]) S (k_X3_permittedOf l hP hf (s0 := q / 4) (p0 := q % 4) (wo := ((-1 : Int32))) (by omega) (by omega)) (cwV 3 hts gX3_changed_X3_permittedOf rfl rfl rfl (by decide +kernel) ⟨Nat.le_of_ble_eq_true rfl, Nat.le_of_ble_eq_true rfl⟩) hK (va_recv hK.1 hP (ci := 3) (q0 := 0) rfl rfl) rfl hl.1 rfl (Nat.le_of_ble_eq_true rfl) dX3_changed_26 ⟨Nat.zero_le _, Nat.zero_le _⟩ ?_
        refine lv_ixor hx hb dX3_changed_29 ?_
        refine Rd.callS (r := (nI (popI (((gg (q)) ^^^ (pmI rs (q / 4) (q % 4) ((-1 : Int32)))))))) (As := [.int (((gg (q)) ^^^ (pmI rs (q / 4) (q % 4) ((-1 : Int32)))))]) S (k_X3_many l (((gg (q)) ^^^ (pmI rs (q / 4) (q % 4) ((-1 : Int32)))))) (va_cwS 1 hts gX3_changed_X3_many rfl rfl rfl (by decide +kernel) ⟨Nat.le_of_ble_eq_true rfl, Nat.le_of_ble_eq_true rfl⟩) hK rfl hl.1 rfl (Nat.le_of_ble_eq_true rfl) dX3_changed_30 ⟨Nat.zero_le _, Nat.zero_le _⟩ ?_
        refine nr_iadd hx hb dX3_changed_33 ?_
        refine lv_istore_n (lv' := [(1, .int (nI (n + (popI (((gg (q)) ^^^ (pmI rs (q / 4) (q % 4) ((-1 : Int32))))))))), (2, .int (nI (q))), (0, .ref (A 0))]) hx hb dX3_changed_34 rfl hl (by decide) rfl (fun ls hl => ?_)
        refine lv_iinc (v := (nI (q + 1))) (lv' := [(2, .int (nI (q + 1))), (1, .int (nI (n + (popI (((gg (q)) ^^^ (pmI rs (q / 4) (q % 4) ((-1 : Int32))))))))), (0, .ref (A 0))]) hx hb dX3_changed_35 hl (k := 1) rfl (nI_add _ _) (by decide) rfl (fun ls hl => ?_)
        refine lv_goto (tgt := 4) hx hb dX3_changed_38 (by decide) ?_
        exact ih_4 (n + (popI (((gg (q)) ^^^ (pmI rs (q / 4) (q % 4) ((-1 : Int32))))))) (q + 1) (by omega) (by rw [h2]; rfl) (by omega) ls (lv_sub hl [0, 1, 2] rfl)
  exact loop_4 _ (0) (0) (by decide) (rfl) (Nat.lt_succ_self _) ls (lv_sub hl [0, 1, 2] rfl)
set_option maxHeartbeats 4000000 in
set_option maxRecDepth 100000 in
theorem k_X3_remove (l : Launch) {D : va_G} {Y : Nat → ClassId} {A : Nat → Nat} {th mi ju lo : Int32} {f bf ca bg sz : Nat → Int32} {rs : List RV}  (hf : mrep rs f) {i : Nat} (hi : i < rs.length) : MuI l yX3_remove wsX3_remove 6 D Y [.ref (A 0), .int (nI (i))] (wM Y A (th) (nI (rs.length)) (mi) (ju) (lo) f bf ca bg sz) (mdB D Y A (nI 0) (mi) (ju) (lo) (rs.eraseIdx i)) (nI (chN rs (rs.eraseIdx i))) := by
  refine MuI.start (cc := cX3_remove) (maxL := 2) (rt := .int) (by decide) rfl (Nat.le_of_ble_eq_true rfl) ?_
  intro p e s m args below meth c ls AA H0 H locs Q S hK hP hD hS hl hE
  have S : CallFix p m c cX3_remove 2 s args wsX3_remove RX3 := S
  have hx := S.1
  have hb := S.2.1
  have hts := S.2.2.2.2
  have hl : lv_has ls 2 [(0, .ref (A 0)), (1, .int (nI (i)))] := hl
  have hn := hf.1.1
  refine lv_aload_n hx hb dX3_remove_0 rfl (lv_at hl 0 rfl) ?_
  refine lv_aload_n hx hb dX3_remove_1 rfl (lv_at hl 0 rfl) ?_
  refine lv_iload_n hx hb dX3_remove_2 rfl (lv_at hl 1 rfl) ?_
  refine Rd.callV (r := (nI (1))) (As := [.int (nI (i))]) S (k_isPl1 l hP hn (i := i) (by omega)) (cwV 1 hts gX3_remove_X3_isPlace rfl rfl rfl (by decide +kernel) ⟨Nat.le_of_ble_eq_true rfl, Nat.le_of_ble_eq_true rfl⟩) hK (va_recv hK.1 hP (ci := 3) (q0 := 0) rfl rfl) rfl hl.1 rfl (Nat.le_of_ble_eq_true rfl) dX3_remove_3 ⟨Nat.zero_le _, Nat.zero_le _⟩ ?_
  refine nr_if_eq (tgt := 13) hx hb (by omega) dX3_remove_6 (by decide) (fun c_6 => absurd c_6 (by decide)) (fun c_6 => ?_)
  refine lv_iconst (v := (nI (0))) hx hb dX3_remove_9 (by decide +kernel) ?_
  refine lv_goto (tgt := 14) hx hb dX3_remove_10 (by decide) ?_
  refine MuI.callV (r := (nI (1))) (As := [.int (nI (0))]) S (k_holds0 l) (cwV 1 hts gX3_remove_X3_holds rfl rfl rfl (by decide +kernel) ⟨Nat.le_of_ble_eq_true rfl, Nat.le_of_ble_eq_true rfl⟩) hK hP hD hS (va_recv hK.1 hP (ci := 3) (q0 := 0) rfl rfl) rfl hl.1 rfl (Nat.le_of_ble_eq_true rfl) dX3_remove_14 ⟨Nat.zero_le _, Nat.zero_le _⟩ (fun H locs hB hS _ hkp => ?_)
  have hP : va_P D aCl (wM Y A (nI (0)) (nI (rs.length)) (mi) (ju) (lo) f bf ca bg sz) H := hB
  have hD : va_D AA (wM Y A (nI (0)) (nI (rs.length)) (mi) (ju) (lo) f bf ca bg sz) := va_D.same hD rfl
  refine nr_if_ne (tgt := 22) hx hb (by omega) dX3_remove_17 (by decide) (fun c_17 => ?_) (fun c_17 => absurd c_17 (by decide))
  refine lv_aload_n hx hb dX3_remove_22 rfl (lv_at hl 0 rfl) ?_
  refine MuV.callV (As := []) S (k_X3_keepsPermitted l hf) (cwV 0 hts gX3_remove_X3_keepsPermitted rfl rfl rfl (by decide +kernel) ⟨Nat.le_of_ble_eq_true rfl, Nat.le_of_ble_eq_true rfl⟩) hK hP hD hS (va_recv hK.1 hP (ci := 3) (q0 := 0) rfl rfl) rfl hl.1 rfl (Nat.le_of_ble_eq_true rfl) dX3_remove_23 ⟨Nat.zero_le _, Nat.zero_le _⟩ (fun H locs hB hS _ hkp => ?_)
  obtain ⟨bf, hbf, hP⟩ := hB
  have hD : va_D AA (wM Y A (nI (0)) (nI (rs.length)) (mi) (ju) (lo) f bf ca bg sz) := va_D.same hD rfl
  refine lv_aload_n hx hb dX3_remove_26 rfl (lv_at hl 0 rfl) ?_
  refine lv_iload_n hx hb dX3_remove_27 rfl (lv_at hl 1 rfl) ?_
  refine MuV.callV (As := [.int (nI (i))]) S (k_X3_takesOut l hf (pl := i) (by omega)) (cwV 1 hts gX3_remove_X3_takesOut rfl rfl rfl (by decide +kernel) ⟨Nat.le_of_ble_eq_true rfl, Nat.le_of_ble_eq_true rfl⟩) hK hP hD hS (va_recv hK.1 hP (ci := 3) (q0 := 0) rfl rfl) rfl hl.1 rfl (Nat.le_of_ble_eq_true rfl) dX3_remove_28 ⟨Nat.zero_le _, Nat.zero_le _⟩ (fun H locs hB hS _ hkp => ?_)
  obtain ⟨f, ca, hf, hca, hP⟩ := hB
  have hD : va_D AA (wM Y A (nI (0)) (nI ((rs.eraseIdx (i)).length)) (mi) (ju) (lo) f bf ca bg sz) := va_D.same hD rfl
  refine lv_aload_n hx hb dX3_remove_31 rfl (lv_at hl 0 rfl) ?_
  refine Rd.callV (r := (nI (chN rs (rs.eraseIdx i)))) (As := []) S (k_X3_changed l (rs := rs.eraseIdx i) (gg := fun k => pmI rs (k / 4) (k % 4) (-1)) hP hf hbf) (cwV 0 hts gX3_remove_X3_changed rfl rfl rfl (by decide +kernel) ⟨Nat.le_of_ble_eq_true rfl, Nat.le_of_ble_eq_true rfl⟩) hK (va_recv hK.1 hP (ci := 3) (q0 := 0) rfl rfl) rfl hl.1 rfl (Nat.le_of_ble_eq_true rfl) dX3_remove_32 ⟨Nat.zero_le _, Nat.zero_le _⟩ ?_
  exact hE _ _ _ _ _ dX3_remove_35 (vp_nar_int _) (rfl) (⟨f, bf, ca, bg, sz, hf, hP⟩) hS
set_option maxHeartbeats 4000000 in
set_option maxRecDepth 100000 in
theorem k_X3_remove_x (l : Launch) {D : va_G} {Y : Nat → ClassId} {A : Nat → Nat} {th mi ju lo : Int32} {f bf ca bg sz : Nat → Int32} {rs : List RV}  (hf : mrep rs f) {pl : Int32} (hpl : plI pl rs.length = false) : MuI l yX3_remove wsX3_remove 6 D Y [.ref (A 0), .int (pl)] (wM Y A (th) (nI (rs.length)) (mi) (ju) (lo) f bf ca bg sz) (mdB D Y A (nI 1) (mi) (ju) (lo) (rs)) (nI 0) := by
  refine MuI.start (cc := cX3_remove) (maxL := 2) (rt := .int) (by decide) rfl (Nat.le_of_ble_eq_true rfl) ?_
  intro p e s m args below meth c ls AA H0 H locs Q S hK hP hD hS hl hE
  have S : CallFix p m c cX3_remove 2 s args wsX3_remove RX3 := S
  have hx := S.1
  have hb := S.2.1
  have hts := S.2.2.2.2
  have hl : lv_has ls 2 [(0, .ref (A 0)), (1, .int (pl))] := hl
  refine lv_aload_n hx hb dX3_remove_0 rfl (lv_at hl 0 rfl) ?_
  refine lv_aload_n hx hb dX3_remove_1 rfl (lv_at hl 0 rfl) ?_
  refine lv_iload_n hx hb dX3_remove_2 rfl (lv_at hl 1 rfl) ?_
  refine Rd.callV (r := (bI (plI (pl) rs.length))) (As := [.int (pl)]) S (k_X3_isPlace l hP (pl := (pl))) (cwV 1 hts gX3_remove_X3_isPlace rfl rfl rfl (by decide +kernel) ⟨Nat.le_of_ble_eq_true rfl, Nat.le_of_ble_eq_true rfl⟩) hK (va_recv hK.1 hP (ci := 3) (q0 := 0) rfl rfl) rfl hl.1 rfl (Nat.le_of_ble_eq_true rfl) dX3_remove_3 ⟨Nat.zero_le _, Nat.zero_le _⟩ ?_
  refine nr_ifB_eq (tgt := 13) hx hb dX3_remove_6 (by decide) (fun c_6 => ?_) (fun c_6 => absurd c_6 (by rw [hpl]; decide))
  refine lv_iconst (v := (nI (1))) hx hb dX3_remove_13 (by decide +kernel) ?_
  refine MuI.callV (r := (nI (0))) (As := [.int (nI (1))]) S (k_holdsN l (by decide)) (cwV 1 hts gX3_remove_X3_holds rfl rfl rfl (by decide +kernel) ⟨Nat.le_of_ble_eq_true rfl, Nat.le_of_ble_eq_true rfl⟩) hK hP hD hS (va_recv hK.1 hP (ci := 3) (q0 := 0) rfl rfl) rfl hl.1 rfl (Nat.le_of_ble_eq_true rfl) dX3_remove_14 ⟨Nat.zero_le _, Nat.zero_le _⟩ (fun H locs hB hS _ hkp => ?_)
  have hP : va_P D aCl (wM Y A (nI (1)) (nI (rs.length)) (mi) (ju) (lo) f bf ca bg sz) H := hB
  have hD : va_D AA (wM Y A (nI (1)) (nI (rs.length)) (mi) (ju) (lo) f bf ca bg sz) := va_D.same hD rfl
  refine nr_if_ne (tgt := 22) hx hb (by omega) dX3_remove_17 (by decide) (fun c_17 => absurd c_17 (by decide)) (fun c_17 => ?_)
  refine lv_iconst (v := (nI (0))) hx hb dX3_remove_20 (by decide +kernel) ?_
  exact hE _ _ _ _ _ dX3_remove_21 (vp_nar_int _) (rfl) (⟨f, bf, ca, bg, sz, hf, hP⟩) hS
set_option maxHeartbeats 4000000 in
set_option maxRecDepth 100000 in
theorem k_X3_move (l : Launch) {D : va_G} {Y : Nat → ClassId} {A : Nat → Nat} {th mi ju lo : Int32} {f bf ca bg sz : Nat → Int32} {rs : List RV}  (hf : mrep rs f) {i j : Nat} (hi : i < rs.length) (hj : j < rs.length) : MuI l yX3_move wsX3_move 6 D Y [.ref (A 0), .int (nI (i)), .int (nI (j))] (wM Y A (th) (nI (rs.length)) (mi) (ju) (lo) f bf ca bg sz) (mdB D Y A (nI 0) (mi) (ju) (lo) ((rs.eraseIdx i).insertIdx j (gt rs i))) (nI (chN rs ((rs.eraseIdx i).insertIdx j (gt rs i)))) := by
  refine MuI.start (cc := cX3_move) (maxL := 3) (rt := .int) (by decide) rfl (Nat.le_of_ble_eq_true rfl) ?_
  intro p e s m args below meth c ls AA H0 H locs Q S hK hP hD hS hl hE
  have S : CallFix p m c cX3_move 3 s args wsX3_move RX3 := S
  have hx := S.1
  have hb := S.2.1
  have hts := S.2.2.2.2
  have hl : lv_has ls 3 [(0, .ref (A 0)), (1, .int (nI (i))), (2, .int (nI (j)))] := hl
  have ho := hf.1.2
  have hn := hf.1.1
  refine lv_aload_n hx hb dX3_move_0 rfl (lv_at hl 0 rfl) ?_
  refine lv_aload_n hx hb dX3_move_1 rfl (lv_at hl 0 rfl) ?_
  refine lv_iload_n hx hb dX3_move_2 rfl (lv_at hl 1 rfl) ?_
  refine Rd.callV (r := (nI (1))) (As := [.int (nI (i))]) S (k_isPl1 l hP hn (i := i) (by omega)) (cwV 1 hts gX3_move_X3_isPlace rfl rfl rfl (by decide +kernel) ⟨Nat.le_of_ble_eq_true rfl, Nat.le_of_ble_eq_true rfl⟩) hK (va_recv hK.1 hP (ci := 3) (q0 := 0) rfl rfl) rfl hl.1 rfl (Nat.le_of_ble_eq_true rfl) dX3_move_3 ⟨Nat.zero_le _, Nat.zero_le _⟩ ?_
  refine nr_if_eq (tgt := 21) hx hb (by omega) dX3_move_6 (by decide) (fun c_6 => absurd c_6 (by decide)) (fun c_6 => ?_)
  refine lv_aload_n hx hb dX3_move_9 rfl (lv_at hl 0 rfl) ?_
  refine lv_iload_n hx hb dX3_move_10 rfl (lv_at hl 2 rfl) ?_
  refine Rd.callV (r := (nI (1))) (As := [.int (nI (j))]) S (k_isPl1 l hP hn (i := j) (by omega)) (cwV 1 hts gX3_move_X3_isPlace rfl rfl rfl (by decide +kernel) ⟨Nat.le_of_ble_eq_true rfl, Nat.le_of_ble_eq_true rfl⟩) hK (va_recv hK.1 hP (ci := 3) (q0 := 0) rfl rfl) rfl hl.1 rfl (Nat.le_of_ble_eq_true rfl) dX3_move_11 ⟨Nat.zero_le _, Nat.zero_le _⟩ ?_
  refine nr_if_eq (tgt := 21) hx hb (by omega) dX3_move_14 (by decide) (fun c_14 => absurd c_14 (by decide)) (fun c_14 => ?_)
  refine lv_iconst (v := (nI (0))) hx hb dX3_move_17 (by decide +kernel) ?_
  refine lv_goto (tgt := 22) hx hb dX3_move_18 (by decide) ?_
  refine MuI.callV (r := (nI (1))) (As := [.int (nI (0))]) S (k_holds0 l) (cwV 1 hts gX3_move_X3_holds rfl rfl rfl (by decide +kernel) ⟨Nat.le_of_ble_eq_true rfl, Nat.le_of_ble_eq_true rfl⟩) hK hP hD hS (va_recv hK.1 hP (ci := 3) (q0 := 0) rfl rfl) rfl hl.1 rfl (Nat.le_of_ble_eq_true rfl) dX3_move_22 ⟨Nat.zero_le _, Nat.zero_le _⟩ (fun H locs hB hS _ hkp => ?_)
  have hP : va_P D aCl (wM Y A (nI (0)) (nI (rs.length)) (mi) (ju) (lo) f bf ca bg sz) H := hB
  have hD : va_D AA (wM Y A (nI (0)) (nI (rs.length)) (mi) (ju) (lo) f bf ca bg sz) := va_D.same hD rfl
  refine nr_if_ne (tgt := 30) hx hb (by omega) dX3_move_25 (by decide) (fun c_25 => ?_) (fun c_25 => absurd c_25 (by decide))
  refine lv_aload_n hx hb dX3_move_30 rfl (lv_at hl 0 rfl) ?_
  refine MuV.callV (As := []) S (k_X3_keepsPermitted l hf) (cwV 0 hts gX3_move_X3_keepsPermitted rfl rfl rfl (by decide +kernel) ⟨Nat.le_of_ble_eq_true rfl, Nat.le_of_ble_eq_true rfl⟩) hK hP hD hS (va_recv hK.1 hP (ci := 3) (q0 := 0) rfl rfl) rfl hl.1 rfl (Nat.le_of_ble_eq_true rfl) dX3_move_31 ⟨Nat.zero_le _, Nat.zero_le _⟩ (fun H locs hB hS _ hkp => ?_)
  obtain ⟨bf, hbf, hP⟩ := hB
  have hD : va_D AA (wM Y A (nI (0)) (nI (rs.length)) (mi) (ju) (lo) f bf ca bg sz) := va_D.same hD rfl
  refine lv_aload_n hx hb dX3_move_34 rfl (lv_at hl 0 rfl) ?_
  refine lv_iload_n hx hb dX3_move_35 rfl (lv_at hl 1 rfl) ?_
  refine MuV.callV (As := [.int (nI (i))]) S (k_X3_takesOut l hf (pl := i) (by omega)) (cwV 1 hts gX3_move_X3_takesOut rfl rfl rfl (by decide +kernel) ⟨Nat.le_of_ble_eq_true rfl, Nat.le_of_ble_eq_true rfl⟩) hK hP hD hS (va_recv hK.1 hP (ci := 3) (q0 := 0) rfl rfl) rfl hl.1 rfl (Nat.le_of_ble_eq_true rfl) dX3_move_36 ⟨Nat.zero_le _, Nat.zero_le _⟩ (fun H locs hB hS _ hkp => ?_)
  obtain ⟨f, ca, hf, hca, hP⟩ := hB
  have hD : va_D AA (wM Y A (nI (0)) (nI ((rs.eraseIdx (i)).length)) (mi) (ju) (lo) f bf ca bg sz) := va_D.same hD rfl
  refine lv_aload_n hx hb dX3_move_39 rfl (lv_at hl 0 rfl) ?_
  refine lv_iload_n hx hb dX3_move_40 rfl (lv_at hl 2 rfl) ?_
  refine MuV.callV (As := [.int (nI (j))]) S (k_X3_putsIn l (rs := rs.eraseIdx i) (r := gt rs i) hf (pl := j) (by rw [len_erase hi]; omega) (ho i hi) (by rw [len_erase hi]; omega) hca) (cwV 1 hts gX3_move_X3_putsIn rfl rfl rfl (by decide +kernel) ⟨Nat.le_of_ble_eq_true rfl, Nat.le_of_ble_eq_true rfl⟩) hK hP hD hS (va_recv hK.1 hP (ci := 3) (q0 := 0) rfl rfl) rfl hl.1 rfl (Nat.le_of_ble_eq_true rfl) dX3_move_41 ⟨Nat.zero_le _, Nat.zero_le _⟩ (fun H locs hB hS _ hkp => ?_)
  obtain ⟨f, ca, hf, hca, hP⟩ := hB
  have hD : va_D AA (wM Y A (nI (0)) (nI (((rs.eraseIdx i).insertIdx (j) (gt rs i)).length)) (mi) (ju) (lo) f bf ca bg sz) := va_D.same hD rfl
  refine lv_aload_n hx hb dX3_move_44 rfl (lv_at hl 0 rfl) ?_
  refine Rd.callV (r := (nI (chN rs ((rs.eraseIdx i).insertIdx j (gt rs i))))) (As := []) S (k_X3_changed l (rs := (rs.eraseIdx i).insertIdx j (gt rs i)) (gg := fun k => pmI rs (k / 4) (k % 4) (-1)) hP hf hbf) (cwV 0 hts gX3_move_X3_changed rfl rfl rfl (by decide +kernel) ⟨Nat.le_of_ble_eq_true rfl, Nat.le_of_ble_eq_true rfl⟩) hK (va_recv hK.1 hP (ci := 3) (q0 := 0) rfl rfl) rfl hl.1 rfl (Nat.le_of_ble_eq_true rfl) dX3_move_45 ⟨Nat.zero_le _, Nat.zero_le _⟩ ?_
  exact hE _ _ _ _ _ dX3_move_48 (vp_nar_int _) (rfl) (⟨f, bf, ca, bg, sz, hf, hP⟩) hS
set_option maxHeartbeats 4000000 in
set_option maxRecDepth 100000 in
theorem k_X3_move_x (l : Launch) {D : va_G} {Y : Nat → ClassId} {A : Nat → Nat} {th mi ju lo : Int32} {f bf ca bg sz : Nat → Int32} {rs : List RV}  (hf : mrep rs f) {pl p2 : Int32} (hpl : (plI pl rs.length && plI p2 rs.length) = false) : MuI l yX3_move wsX3_move 6 D Y [.ref (A 0), .int (pl), .int (p2)] (wM Y A (th) (nI (rs.length)) (mi) (ju) (lo) f bf ca bg sz) (mdB D Y A (nI 1) (mi) (ju) (lo) (rs)) (nI 0) := by
  refine MuI.start (cc := cX3_move) (maxL := 3) (rt := .int) (by decide) rfl (Nat.le_of_ble_eq_true rfl) ?_
  intro p e s m args below meth c ls AA H0 H locs Q S hK hP hD hS hl hE
  have S : CallFix p m c cX3_move 3 s args wsX3_move RX3 := S
  have hx := S.1
  have hb := S.2.1
  have hts := S.2.2.2.2
  have hl : lv_has ls 3 [(0, .ref (A 0)), (1, .int (pl)), (2, .int (p2))] := hl
  refine lv_aload_n hx hb dX3_move_0 rfl (lv_at hl 0 rfl) ?_
  refine lv_aload_n hx hb dX3_move_1 rfl (lv_at hl 0 rfl) ?_
  refine lv_iload_n hx hb dX3_move_2 rfl (lv_at hl 1 rfl) ?_
  refine Rd.callV (r := (bI (plI (pl) rs.length))) (As := [.int (pl)]) S (k_X3_isPlace l hP (pl := (pl))) (cwV 1 hts gX3_move_X3_isPlace rfl rfl rfl (by decide +kernel) ⟨Nat.le_of_ble_eq_true rfl, Nat.le_of_ble_eq_true rfl⟩) hK (va_recv hK.1 hP (ci := 3) (q0 := 0) rfl rfl) rfl hl.1 rfl (Nat.le_of_ble_eq_true rfl) dX3_move_3 ⟨Nat.zero_le _, Nat.zero_le _⟩ ?_
  refine nr_ifB_eq (tgt := 21) hx hb dX3_move_6 (by decide) (fun c_6 => ?_) (fun c_6 => ?_)
  · refine lv_iconst (v := (nI (1))) hx hb dX3_move_21 (by decide +kernel) ?_
    refine MuI.callV (r := (nI (0))) (As := [.int (nI (1))]) S (k_holdsN l (by decide)) (cwV 1 hts gX3_move_X3_holds rfl rfl rfl (by decide +kernel) ⟨Nat.le_of_ble_eq_true rfl, Nat.le_of_ble_eq_true rfl⟩) hK hP hD hS (va_recv hK.1 hP (ci := 3) (q0 := 0) rfl rfl) rfl hl.1 rfl (Nat.le_of_ble_eq_true rfl) dX3_move_22 ⟨Nat.zero_le _, Nat.zero_le _⟩ (fun H locs hB hS _ hkp => ?_)
    have hP : va_P D aCl (wM Y A (nI (1)) (nI (rs.length)) (mi) (ju) (lo) f bf ca bg sz) H := hB
    have hD : va_D AA (wM Y A (nI (1)) (nI (rs.length)) (mi) (ju) (lo) f bf ca bg sz) := va_D.same hD rfl
    refine nr_if_ne (tgt := 30) hx hb (by omega) dX3_move_25 (by decide) (fun c_25 => absurd c_25 (by decide)) (fun c_25 => ?_)
    refine lv_iconst (v := (nI (0))) hx hb dX3_move_28 (by decide +kernel) ?_
    exact hE _ _ _ _ _ dX3_move_29 (vp_nar_int _) (rfl) (⟨f, bf, ca, bg, sz, hf, hP⟩) hS
  · refine lv_aload_n hx hb dX3_move_9 rfl (lv_at hl 0 rfl) ?_
    refine lv_iload_n hx hb dX3_move_10 rfl (lv_at hl 2 rfl) ?_
    refine Rd.callV (r := (bI (plI (p2) rs.length))) (As := [.int (p2)]) S (k_X3_isPlace l hP (pl := (p2))) (cwV 1 hts gX3_move_X3_isPlace rfl rfl rfl (by decide +kernel) ⟨Nat.le_of_ble_eq_true rfl, Nat.le_of_ble_eq_true rfl⟩) hK (va_recv hK.1 hP (ci := 3) (q0 := 0) rfl rfl) rfl hl.1 rfl (Nat.le_of_ble_eq_true rfl) dX3_move_11 ⟨Nat.zero_le _, Nat.zero_le _⟩ ?_
    refine nr_ifB_eq (tgt := 21) hx hb dX3_move_14 (by decide) (fun c_14 => ?_) (fun c_14 => absurd c_14 (by rw [c_6, Bool.true_and] at hpl; rw [hpl]; decide))
    refine lv_iconst (v := (nI (1))) hx hb dX3_move_21 (by decide +kernel) ?_
    refine MuI.callV (r := (nI (0))) (As := [.int (nI (1))]) S (k_holdsN l (by decide)) (cwV 1 hts gX3_move_X3_holds rfl rfl rfl (by decide +kernel) ⟨Nat.le_of_ble_eq_true rfl, Nat.le_of_ble_eq_true rfl⟩) hK hP hD hS (va_recv hK.1 hP (ci := 3) (q0 := 0) rfl rfl) rfl hl.1 rfl (Nat.le_of_ble_eq_true rfl) dX3_move_22 ⟨Nat.zero_le _, Nat.zero_le _⟩ (fun H locs hB hS _ hkp => ?_)
    have hP : va_P D aCl (wM Y A (nI (1)) (nI (rs.length)) (mi) (ju) (lo) f bf ca bg sz) H := hB
    have hD : va_D AA (wM Y A (nI (1)) (nI (rs.length)) (mi) (ju) (lo) f bf ca bg sz) := va_D.same hD rfl
    refine nr_if_ne (tgt := 30) hx hb (by omega) dX3_move_25 (by decide) (fun c_25 => absurd c_25 (by decide)) (fun c_25 => ?_)
    refine lv_iconst (v := (nI (0))) hx hb dX3_move_28 (by decide +kernel) ?_
    exact hE _ _ _ _ _ dX3_move_29 (vp_nar_int _) (rfl) (⟨f, bf, ca, bg, sz, hf, hP⟩) hS
theorem k_in1 (l : Launch) {D : va_G} {Y : Nat → ClassId} {H : Heap} {v a b : Nat} (h1 : a ≤ v) (h2 : v ≤ b) (hb : b < 2 ^ 31) : Rd l yX3_in wsX3_in 0 D Y [.int (nI v), .int (nI a), .int (nI b)] H (nI 1) := by
  have h := k_inN l (D := D) (Y := Y) (H := H) (v := v) (a := a) (b := b) (by omega) (by omega) hb
  rw [inN_t h1 h2] at h
  exact h
theorem k_isRg1 (l : Launch) {D : va_G} {Y : Nat → ClassId} {H : Heap} {a b : Nat} (h1 : a ≤ b) (h2 : b ≤ 31) : Rd l yX3_isRange wsX3_isRange 1 D Y [.int (nI a), .int (nI b)] H (nI 1) := by
  have h := k_X3_isRange l (D := D) (Y := Y) (H := H) (nI a) (nI b)
  unfold rgB at h
  rw [inI_nI (by omega) (by decide) (by decide), inI_nI (by omega) (by omega) (by decide), inN_t (Nat.zero_le _) (by omega), inN_t h1 h2] at h
  exact h
theorem ins_end (rs : List RV) (r : RV) : rs.insertIdx rs.length r = rs ++ [r] := List.insertIdx_length_self
set_option maxHeartbeats 4000000 in
set_option maxRecDepth 100000 in
theorem k_X3_add (l : Launch) {D : va_G} {Y : Nat → ClassId} {A : Nat → Nat} {th mi ju lo : Int32} {f bf ca bg sz : Nat → Int32} {rs : List RV}  (hf : mrep rs f) {a b c0 d0 q0 : Nat} {pm : Bool} (hr : rvOk (a, b, c0, d0, q0, pm, 0)) (hl15 : rs.length ≤ 15) : MuI l yX3_add wsX3_add 3 D Y [.ref (A 0), .int (nI (a)), .int (nI (b)), .int (nI (c0)), .int (nI (d0)), .int (nI (q0)), .int (bI (pm))] (wM Y A (th) (nI (rs.length)) (mi) (ju) (lo) f bf ca bg sz) (mdB D Y A (nI 0) (mi) (ju) (lo) (rs ++ [(a, b, c0, d0, q0, pm, 0)])) (nI rs.length) := by
  refine MuI.start (cc := cX3_add) (maxL := 8) (rt := .int) (by decide) rfl (Nat.le_of_ble_eq_true rfl) ?_
  intro p e s m args below meth c ls AA H0 H locs Q S hK hP hD hS hl hE
  have S : CallFix p m c cX3_add 8 s args wsX3_add RX3 := S
  have hx := S.1
  have hb := S.2.1
  have hts := S.2.2.2.2
  have hl : lv_has ls 8 [(0, .ref (A 0)), (1, .int (nI (a))), (2, .int (nI (b))), (3, .int (nI (c0))), (4, .int (nI (d0))), (5, .int (nI (q0))), (6, .int (bI (pm)))] := hl
  have hn := hf.1.1
  have hr2 := hr
  unfold rvOk at hr2
  simp only [sF, sT, dF, dT, pR] at hr2
  refine lv_iload_n hx hb dX3_add_0 rfl (lv_at hl 1 rfl) ?_
  refine lv_iload_n hx hb dX3_add_1 rfl (lv_at hl 2 rfl) ?_
  refine Rd.callS (r := (nI (1))) (As := [.int (nI (a)), .int (nI (b))]) S (k_isRg1 l (a := a) (b := b) (by omega) (by omega)) (va_cwS 2 hts gX3_add_X3_isRange rfl rfl rfl (by decide +kernel) ⟨Nat.le_of_ble_eq_true rfl, Nat.le_of_ble_eq_true rfl⟩) hK rfl hl.1 rfl (Nat.le_of_ble_eq_true rfl) dX3_add_2 ⟨Nat.zero_le _, Nat.zero_le _⟩ ?_
  refine nr_if_eq (tgt := 32) hx hb (by omega) dX3_add_5 (by decide) (fun c_5 => absurd c_5 (by decide)) (fun c_5 => ?_)
  refine lv_iload_n hx hb dX3_add_8 rfl (lv_at hl 3 rfl) ?_
  refine lv_iload hx hb dX3_add_9 (lv_at hl 4 rfl) ?_
  refine Rd.callS (r := (nI (1))) (As := [.int (nI (c0)), .int (nI (d0))]) S (k_isRg1 l (a := c0) (b := d0) (by omega) (by omega)) (va_cwS 2 hts gX3_add_X3_isRange rfl rfl rfl (by decide +kernel) ⟨Nat.le_of_ble_eq_true rfl, Nat.le_of_ble_eq_true rfl⟩) hK rfl hl.1 rfl (Nat.le_of_ble_eq_true rfl) dX3_add_11 ⟨Nat.zero_le _, Nat.zero_le _⟩ ?_
  refine nr_if_eq (tgt := 32) hx hb (by omega) dX3_add_14 (by decide) (fun c_14 => absurd c_14 (by decide)) (fun c_14 => ?_)
  refine lv_iload hx hb dX3_add_17 (lv_at hl 5 rfl) ?_
  refine lv_iconst (v := (nI (1))) hx hb dX3_add_19 (by decide +kernel) ?_
  refine lv_bipush (v := (nI (15))) hx hb dX3_add_20 (by decide +kernel) ?_
  refine Rd.callS (r := (nI (1))) (As := [.int (nI (q0)), .int (nI (1)), .int (nI (15))]) S (k_in1 l (v := q0) (a := 1) (b := 15) (by omega) (by omega) (by omega)) (va_cwS 3 hts gX3_add_X3_in rfl rfl rfl (by decide +kernel) ⟨Nat.le_of_ble_eq_true rfl, Nat.le_of_ble_eq_true rfl⟩) hK rfl hl.1 rfl (Nat.le_of_ble_eq_true rfl) dX3_add_22 ⟨Nat.zero_le _, Nat.zero_le _⟩ ?_
  refine nr_if_eq (tgt := 32) hx hb (by omega) dX3_add_25 (by decide) (fun c_25 => absurd c_25 (by decide)) (fun c_25 => ?_)
  refine lv_iconst (v := (nI (1))) hx hb dX3_add_28 (by decide +kernel) ?_
  refine lv_goto (tgt := 33) hx hb dX3_add_29 (by decide) ?_
  refine lv_istore (lv' := [(7, .int (nI (1))), (0, .ref (A 0)), (1, .int (nI (a))), (2, .int (nI (b))), (3, .int (nI (c0))), (4, .int (nI (d0))), (5, .int (nI (q0))), (6, .int (bI (pm)))]) hx hb dX3_add_33 hl (by decide) rfl (fun ls hl => ?_)
  refine lv_aload_n hx hb dX3_add_35 rfl (lv_at hl 1 rfl) ?_
  refine lv_iload hx hb dX3_add_36 (lv_at hl 0 rfl) ?_
  refine nr_if_ne (tgt := 45) hx hb (by omega) dX3_add_38 (by decide) (fun c_38 => ?_) (fun c_38 => absurd c_38 (by decide))
  refine lv_aload_n hx hb dX3_add_45 rfl (lv_at hl 1 rfl) ?_
  refine nr_get (C := RX3) (T := TX3) (N := 10) (ci := 3) S (fun _ h => List.mem_cons_of_mem _ (List.mem_append_right _ (h))) hK hP 0 rfl rfl 1 (by decide) (List.mem_of_getElem? (i := 1) rfl) rfl dX3_add_46 ?_
  refine lv_bipush (v := (nI (16))) hx hb dX3_add_49 (by decide +kernel) ?_
  refine nr_icmp_ne (tgt := 58) hx hb (by omega) (by omega) dX3_add_51 (by decide) (fun c_51 => ?_) (fun c_51 => absurd c_51 (by omega))
  refine lv_iconst (v := (nI (0))) hx hb dX3_add_58 (by decide +kernel) ?_
  refine MuI.callV (r := (nI (1))) (As := [.int (nI (0))]) S (k_holds0 l) (cwV 1 hts gX3_add_X3_holds rfl rfl rfl (by decide +kernel) ⟨Nat.le_of_ble_eq_true rfl, Nat.le_of_ble_eq_true rfl⟩) hK hP hD hS (va_recv hK.1 hP (ci := 3) (q0 := 0) rfl rfl) rfl hl.1 rfl (Nat.le_of_ble_eq_true rfl) dX3_add_59 ⟨Nat.zero_le _, Nat.zero_le _⟩ (fun H locs hB hS _ hkp => ?_)
  have hP : va_P D aCl (wM Y A (nI (0)) (nI (rs.length)) (mi) (ju) (lo) f bf ca bg sz) H := hB
  have hD : va_D AA (wM Y A (nI (0)) (nI (rs.length)) (mi) (ju) (lo) f bf ca bg sz) := va_D.same hD rfl
  refine nr_if_ne (tgt := 67) hx hb (by omega) dX3_add_62 (by decide) (fun c_62 => ?_) (fun c_62 => absurd c_62 (by decide))
  refine lv_aload_n hx hb dX3_add_67 rfl (lv_at hl 1 rfl) ?_
  refine nr_get (C := RX3) (T := TX3) (N := 10) (ci := 3) S (fun _ h => List.mem_cons_of_mem _ (List.mem_append_right _ (h))) hK hP 0 rfl rfl 7 (by decide) (List.mem_of_getElem? (i := 2) rfl) rfl dX3_add_68 ?_
  refine lv_iconst (v := (nI (0))) hx hb dX3_add_71 (by decide +kernel) ?_
  refine lv_iload_n hx hb dX3_add_72 rfl (lv_at hl 2 rfl) ?_
  refine nr_iast (n := 7) (f := ca) (x := (nI (a))) S hK hP hD hS 3 rfl (by omega) (by decide) dX3_add_73 (fun H locs hP hD hS => ?_)
  have hP : va_P D aCl (wM Y A (nI (0)) (nI (rs.length)) (mi) (ju) (lo) f bf (upd ca (0) (nI (a))) bg sz) H := hP
  have hD : va_D AA (wM Y A (nI (0)) (nI (rs.length)) (mi) (ju) (lo) f bf (upd ca (0) (nI (a))) bg sz) := hD
  refine lv_aload_n hx hb dX3_add_74 rfl (lv_at hl 1 rfl) ?_
  refine nr_get (C := RX3) (T := TX3) (N := 10) (ci := 3) S (fun _ h => List.mem_cons_of_mem _ (List.mem_append_right _ (h))) hK hP 0 rfl rfl 7 (by decide) (List.mem_of_getElem? (i := 2) rfl) rfl dX3_add_75 ?_
  refine lv_iconst (v := (nI (1))) hx hb dX3_add_78 (by decide +kernel) ?_
  refine lv_iload_n hx hb dX3_add_79 rfl (lv_at hl 3 rfl) ?_
  refine nr_iast (n := 7) (f := (upd ca (0) (nI (a)))) (x := (nI (b))) S hK hP hD hS 3 rfl (by omega) (by decide) dX3_add_80 (fun H locs hP hD hS => ?_)
  have hP : va_P D aCl (wM Y A (nI (0)) (nI (rs.length)) (mi) (ju) (lo) f bf (upd (upd ca (0) (nI (a))) (1) (nI (b))) bg sz) H := hP
  have hD : va_D AA (wM Y A (nI (0)) (nI (rs.length)) (mi) (ju) (lo) f bf (upd (upd ca (0) (nI (a))) (1) (nI (b))) bg sz) := hD
  refine lv_aload_n hx hb dX3_add_81 rfl (lv_at hl 1 rfl) ?_
  refine nr_get (C := RX3) (T := TX3) (N := 10) (ci := 3) S (fun _ h => List.mem_cons_of_mem _ (List.mem_append_right _ (h))) hK hP 0 rfl rfl 7 (by decide) (List.mem_of_getElem? (i := 2) rfl) rfl dX3_add_82 ?_
  refine lv_iconst (v := (nI (2))) hx hb dX3_add_85 (by decide +kernel) ?_
  refine lv_iload_n hx hb dX3_add_86 rfl (lv_at hl 4 rfl) ?_
  refine nr_iast (n := 7) (f := (upd (upd ca (0) (nI (a))) (1) (nI (b)))) (x := (nI (c0))) S hK hP hD hS 3 rfl (by omega) (by decide) dX3_add_87 (fun H locs hP hD hS => ?_)
  have hP : va_P D aCl (wM Y A (nI (0)) (nI (rs.length)) (mi) (ju) (lo) f bf (upd (upd (upd ca (0) (nI (a))) (1) (nI (b))) (2) (nI (c0))) bg sz) H := hP
  have hD : va_D AA (wM Y A (nI (0)) (nI (rs.length)) (mi) (ju) (lo) f bf (upd (upd (upd ca (0) (nI (a))) (1) (nI (b))) (2) (nI (c0))) bg sz) := hD
  refine lv_aload_n hx hb dX3_add_88 rfl (lv_at hl 1 rfl) ?_
  refine nr_get (C := RX3) (T := TX3) (N := 10) (ci := 3) S (fun _ h => List.mem_cons_of_mem _ (List.mem_append_right _ (h))) hK hP 0 rfl rfl 7 (by decide) (List.mem_of_getElem? (i := 2) rfl) rfl dX3_add_89 ?_
  refine lv_iconst (v := (nI (3))) hx hb dX3_add_92 (by decide +kernel) ?_
  refine lv_iload hx hb dX3_add_93 (lv_at hl 5 rfl) ?_
  refine nr_iast (n := 7) (f := (upd (upd (upd ca (0) (nI (a))) (1) (nI (b))) (2) (nI (c0)))) (x := (nI (d0))) S hK hP hD hS 3 rfl (by omega) (by decide) dX3_add_95 (fun H locs hP hD hS => ?_)
  have hP : va_P D aCl (wM Y A (nI (0)) (nI (rs.length)) (mi) (ju) (lo) f bf (upd (upd (upd (upd ca (0) (nI (a))) (1) (nI (b))) (2) (nI (c0))) (3) (nI (d0))) bg sz) H := hP
  have hD : va_D AA (wM Y A (nI (0)) (nI (rs.length)) (mi) (ju) (lo) f bf (upd (upd (upd (upd ca (0) (nI (a))) (1) (nI (b))) (2) (nI (c0))) (3) (nI (d0))) bg sz) := hD
  refine lv_aload_n hx hb dX3_add_96 rfl (lv_at hl 1 rfl) ?_
  refine nr_get (C := RX3) (T := TX3) (N := 10) (ci := 3) S (fun _ h => List.mem_cons_of_mem _ (List.mem_append_right _ (h))) hK hP 0 rfl rfl 7 (by decide) (List.mem_of_getElem? (i := 2) rfl) rfl dX3_add_97 ?_
  refine lv_iconst (v := (nI (4))) hx hb dX3_add_100 (by decide +kernel) ?_
  refine lv_iload hx hb dX3_add_101 (lv_at hl 6 rfl) ?_
  refine nr_iast (n := 7) (f := (upd (upd (upd (upd ca (0) (nI (a))) (1) (nI (b))) (2) (nI (c0))) (3) (nI (d0)))) (x := (nI (q0))) S hK hP hD hS 3 rfl (by omega) (by decide) dX3_add_103 (fun H locs hP hD hS => ?_)
  have hP : va_P D aCl (wM Y A (nI (0)) (nI (rs.length)) (mi) (ju) (lo) f bf (upd (upd (upd (upd (upd ca (0) (nI (a))) (1) (nI (b))) (2) (nI (c0))) (3) (nI (d0))) (4) (nI (q0))) bg sz) H := hP
  have hD : va_D AA (wM Y A (nI (0)) (nI (rs.length)) (mi) (ju) (lo) f bf (upd (upd (upd (upd (upd ca (0) (nI (a))) (1) (nI (b))) (2) (nI (c0))) (3) (nI (d0))) (4) (nI (q0))) bg sz) := hD
  refine lv_aload_n hx hb dX3_add_104 rfl (lv_at hl 1 rfl) ?_
  refine nr_get (C := RX3) (T := TX3) (N := 10) (ci := 3) S (fun _ h => List.mem_cons_of_mem _ (List.mem_append_right _ (h))) hK hP 0 rfl rfl 7 (by decide) (List.mem_of_getElem? (i := 2) rfl) rfl dX3_add_105 ?_
  refine lv_iconst (v := (nI (5))) hx hb dX3_add_108 (by decide +kernel) ?_
  refine lv_iload hx hb dX3_add_109 (lv_at hl 7 rfl) ?_
  refine nr_ifB_eq (tgt := 118) hx hb dX3_add_111 (by decide) (fun c_111 => ?_) (fun c_111 => ?_)
  · refine lv_iconst (v := (nI (0))) hx hb dX3_add_118 (by decide +kernel) ?_
    refine nr_iast (n := 7) (f := (upd (upd (upd (upd (upd ca (0) (nI (a))) (1) (nI (b))) (2) (nI (c0))) (3) (nI (d0))) (4) (nI (q0)))) (x := (nI (0))) S hK hP hD hS 3 rfl (by omega) (by decide) dX3_add_119 (fun H locs hP hD hS => ?_)
    have hP : va_P D aCl (wM Y A (nI (0)) (nI (rs.length)) (mi) (ju) (lo) f bf (upd (upd (upd (upd (upd (upd ca (0) (nI (a))) (1) (nI (b))) (2) (nI (c0))) (3) (nI (d0))) (4) (nI (q0))) (5) (nI (0))) bg sz) H := hP
    have hD : va_D AA (wM Y A (nI (0)) (nI (rs.length)) (mi) (ju) (lo) f bf (upd (upd (upd (upd (upd (upd ca (0) (nI (a))) (1) (nI (b))) (2) (nI (c0))) (3) (nI (d0))) (4) (nI (q0))) (5) (nI (0))) bg sz) := hD
    refine lv_aload_n hx hb dX3_add_120 rfl (lv_at hl 1 rfl) ?_
    refine nr_get (C := RX3) (T := TX3) (N := 10) (ci := 3) S (fun _ h => List.mem_cons_of_mem _ (List.mem_append_right _ (h))) hK hP 0 rfl rfl 7 (by decide) (List.mem_of_getElem? (i := 2) rfl) rfl dX3_add_121 ?_
    refine lv_bipush (v := (nI (6))) hx hb dX3_add_124 (by decide +kernel) ?_
    refine lv_iconst (v := (nI (0))) hx hb dX3_add_126 (by decide +kernel) ?_
    refine nr_iast (n := 7) (f := (upd (upd (upd (upd (upd (upd ca (0) (nI (a))) (1) (nI (b))) (2) (nI (c0))) (3) (nI (d0))) (4) (nI (q0))) (5) (nI (0)))) (x := (nI (0))) S hK hP hD hS 3 rfl (by omega) (by decide) dX3_add_127 (fun H locs hP hD hS => ?_)
    have hP : va_P D aCl (wM Y A (nI (0)) (nI (rs.length)) (mi) (ju) (lo) f bf (upd (upd (upd (upd (upd (upd (upd ca (0) (nI (a))) (1) (nI (b))) (2) (nI (c0))) (3) (nI (d0))) (4) (nI (q0))) (5) (nI (0))) (6) (nI (0))) bg sz) H := hP
    have hD : va_D AA (wM Y A (nI (0)) (nI (rs.length)) (mi) (ju) (lo) f bf (upd (upd (upd (upd (upd (upd (upd ca (0) (nI (a))) (1) (nI (b))) (2) (nI (c0))) (3) (nI (d0))) (4) (nI (q0))) (5) (nI (0))) (6) (nI (0))) bg sz) := hD
    have hca : crep (a, b, c0, d0, q0, pm, 0) ((upd (upd (upd (upd (upd (upd (upd ca (0) (nI (a))) (1) (nI (b))) (2) (nI (c0))) (3) (nI (d0))) (4) (nI (q0))) (5) (nI (0))) (6) (nI (0)))) := fun w hw => by
      rcases (show w = 0 ∨ w = 1 ∨ w = 2 ∨ w = 3 ∨ w = 4 ∨ w = 5 ∨ w = 6 by omega) with rfl | rfl | rfl | rfl | rfl | rfl | rfl
      all_goals first | rfl | (show _ = nI (bN pm); rw [c_111]; rfl)
    refine lv_aload_n hx hb dX3_add_128 rfl (lv_at hl 1 rfl) ?_
    refine lv_aload_n hx hb dX3_add_129 rfl (lv_at hl 1 rfl) ?_
    refine nr_get (C := RX3) (T := TX3) (N := 10) (ci := 3) S (fun _ h => List.mem_cons_of_mem _ (List.mem_append_right _ (h))) hK hP 0 rfl rfl 1 (by decide) (List.mem_of_getElem? (i := 1) rfl) rfl dX3_add_130 ?_
    refine MuV.callV (As := [.int (nI (rs.length))]) S (k_X3_putsIn l (rs := rs) (r := (a, b, c0, d0, q0, pm, 0)) hf (pl := rs.length) (Nat.le_refl _) hr hl15 hca) (cwV 1 hts gX3_add_X3_putsIn rfl rfl rfl (by decide +kernel) ⟨Nat.le_of_ble_eq_true rfl, Nat.le_of_ble_eq_true rfl⟩) hK hP hD hS (va_recv hK.1 hP (ci := 3) (q0 := 0) rfl rfl) rfl hl.1 rfl (Nat.le_of_ble_eq_true rfl) dX3_add_133 ⟨Nat.zero_le _, Nat.zero_le _⟩ (fun H locs hB hS _ hkp => ?_)
    obtain ⟨f, ca, hf, hca, hP⟩ := hB
    have hD : va_D AA (wM Y A (nI (0)) (nI ((rs.insertIdx rs.length (a, b, c0, d0, q0, pm, 0)).length)) (mi) (ju) (lo) f bf ca bg sz) := va_D.same hD rfl
    refine lv_aload_n hx hb dX3_add_136 rfl (lv_at hl 1 rfl) ?_
    refine nr_get (C := RX3) (T := TX3) (N := 10) (ci := 3) S (fun _ h => List.mem_cons_of_mem _ (List.mem_append_right _ (h))) hK hP 0 rfl rfl 1 (by decide) (List.mem_of_getElem? (i := 1) rfl) rfl dX3_add_137 ?_
    refine lv_iconst (v := (nI (1))) hx hb dX3_add_140 (by decide +kernel) ?_
    refine nr_isub hx hb (by rw [len_insert (Nat.le_refl _)]; omega) dX3_add_141 ?_
    exact hE _ _ _ _ _ dX3_add_142 (vp_nar_int _) (congrArg nI (by rw [len_insert (Nat.le_refl _)]; rfl)) (⟨f, bf, ca, bg, sz, by rw [← ins_end]; exact hf, by rw [← ins_end]; exact hP⟩) hS
  · refine lv_iconst (v := (nI (1))) hx hb dX3_add_114 (by decide +kernel) ?_
    refine lv_goto (tgt := 119) hx hb dX3_add_115 (by decide) ?_
    refine nr_iast (n := 7) (f := (upd (upd (upd (upd (upd ca (0) (nI (a))) (1) (nI (b))) (2) (nI (c0))) (3) (nI (d0))) (4) (nI (q0)))) (x := (nI (1))) S hK hP hD hS 3 rfl (by omega) (by decide) dX3_add_119 (fun H locs hP hD hS => ?_)
    have hP : va_P D aCl (wM Y A (nI (0)) (nI (rs.length)) (mi) (ju) (lo) f bf (upd (upd (upd (upd (upd (upd ca (0) (nI (a))) (1) (nI (b))) (2) (nI (c0))) (3) (nI (d0))) (4) (nI (q0))) (5) (nI (1))) bg sz) H := hP
    have hD : va_D AA (wM Y A (nI (0)) (nI (rs.length)) (mi) (ju) (lo) f bf (upd (upd (upd (upd (upd (upd ca (0) (nI (a))) (1) (nI (b))) (2) (nI (c0))) (3) (nI (d0))) (4) (nI (q0))) (5) (nI (1))) bg sz) := hD
    refine lv_aload_n hx hb dX3_add_120 rfl (lv_at hl 1 rfl) ?_
    refine nr_get (C := RX3) (T := TX3) (N := 10) (ci := 3) S (fun _ h => List.mem_cons_of_mem _ (List.mem_append_right _ (h))) hK hP 0 rfl rfl 7 (by decide) (List.mem_of_getElem? (i := 2) rfl) rfl dX3_add_121 ?_
    refine lv_bipush (v := (nI (6))) hx hb dX3_add_124 (by decide +kernel) ?_
    refine lv_iconst (v := (nI (0))) hx hb dX3_add_126 (by decide +kernel) ?_
    refine nr_iast (n := 7) (f := (upd (upd (upd (upd (upd (upd ca (0) (nI (a))) (1) (nI (b))) (2) (nI (c0))) (3) (nI (d0))) (4) (nI (q0))) (5) (nI (1)))) (x := (nI (0))) S hK hP hD hS 3 rfl (by omega) (by decide) dX3_add_127 (fun H locs hP hD hS => ?_)
    have hP : va_P D aCl (wM Y A (nI (0)) (nI (rs.length)) (mi) (ju) (lo) f bf (upd (upd (upd (upd (upd (upd (upd ca (0) (nI (a))) (1) (nI (b))) (2) (nI (c0))) (3) (nI (d0))) (4) (nI (q0))) (5) (nI (1))) (6) (nI (0))) bg sz) H := hP
    have hD : va_D AA (wM Y A (nI (0)) (nI (rs.length)) (mi) (ju) (lo) f bf (upd (upd (upd (upd (upd (upd (upd ca (0) (nI (a))) (1) (nI (b))) (2) (nI (c0))) (3) (nI (d0))) (4) (nI (q0))) (5) (nI (1))) (6) (nI (0))) bg sz) := hD
    have hca : crep (a, b, c0, d0, q0, pm, 0) ((upd (upd (upd (upd (upd (upd (upd ca (0) (nI (a))) (1) (nI (b))) (2) (nI (c0))) (3) (nI (d0))) (4) (nI (q0))) (5) (nI (1))) (6) (nI (0)))) := fun w hw => by
      rcases (show w = 0 ∨ w = 1 ∨ w = 2 ∨ w = 3 ∨ w = 4 ∨ w = 5 ∨ w = 6 by omega) with rfl | rfl | rfl | rfl | rfl | rfl | rfl
      all_goals first | rfl | (show _ = nI (bN pm); rw [c_111]; rfl)
    refine lv_aload_n hx hb dX3_add_128 rfl (lv_at hl 1 rfl) ?_
    refine lv_aload_n hx hb dX3_add_129 rfl (lv_at hl 1 rfl) ?_
    refine nr_get (C := RX3) (T := TX3) (N := 10) (ci := 3) S (fun _ h => List.mem_cons_of_mem _ (List.mem_append_right _ (h))) hK hP 0 rfl rfl 1 (by decide) (List.mem_of_getElem? (i := 1) rfl) rfl dX3_add_130 ?_
    refine MuV.callV (As := [.int (nI (rs.length))]) S (k_X3_putsIn l (rs := rs) (r := (a, b, c0, d0, q0, pm, 0)) hf (pl := rs.length) (Nat.le_refl _) hr hl15 hca) (cwV 1 hts gX3_add_X3_putsIn rfl rfl rfl (by decide +kernel) ⟨Nat.le_of_ble_eq_true rfl, Nat.le_of_ble_eq_true rfl⟩) hK hP hD hS (va_recv hK.1 hP (ci := 3) (q0 := 0) rfl rfl) rfl hl.1 rfl (Nat.le_of_ble_eq_true rfl) dX3_add_133 ⟨Nat.zero_le _, Nat.zero_le _⟩ (fun H locs hB hS _ hkp => ?_)
    obtain ⟨f, ca, hf, hca, hP⟩ := hB
    have hD : va_D AA (wM Y A (nI (0)) (nI ((rs.insertIdx rs.length (a, b, c0, d0, q0, pm, 0)).length)) (mi) (ju) (lo) f bf ca bg sz) := va_D.same hD rfl
    refine lv_aload_n hx hb dX3_add_136 rfl (lv_at hl 1 rfl) ?_
    refine nr_get (C := RX3) (T := TX3) (N := 10) (ci := 3) S (fun _ h => List.mem_cons_of_mem _ (List.mem_append_right _ (h))) hK hP 0 rfl rfl 1 (by decide) (List.mem_of_getElem? (i := 1) rfl) rfl dX3_add_137 ?_
    refine lv_iconst (v := (nI (1))) hx hb dX3_add_140 (by decide +kernel) ?_
    refine nr_isub hx hb (by rw [len_insert (Nat.le_refl _)]; omega) dX3_add_141 ?_
    exact hE _ _ _ _ _ dX3_add_142 (vp_nar_int _) (congrArg nI (by rw [len_insert (Nat.le_refl _)]; rfl)) (⟨f, bf, ca, bg, sz, by rw [← ins_end]; exact hf, by rw [← ins_end]; exact hP⟩) hS
set_option maxHeartbeats 4000000 in
set_option maxRecDepth 100000 in
theorem k_X3_add_x2 (l : Launch) {D : va_G} {Y : Nat → ClassId} {A : Nat → Nat} {th mi ju lo : Int32} {f bf ca bg sz : Nat → Int32} {rs : List RV}  (hf : mrep rs f) {a b c0 d0 q0 : Nat} {pm : Bool} (hr : rvOk (a, b, c0, d0, q0, pm, 0)) (hl16 : rs.length = 16) : MuI l yX3_add wsX3_add 3 D Y [.ref (A 0), .int (nI (a)), .int (nI (b)), .int (nI (c0)), .int (nI (d0)), .int (nI (q0)), .int (bI (pm))] (wM Y A (th) (nI (rs.length)) (mi) (ju) (lo) f bf ca bg sz) (mdB D Y A (nI 2) (mi) (ju) (lo) (rs)) (nI 0) := by
  refine MuI.start (cc := cX3_add) (maxL := 8) (rt := .int) (by decide) rfl (Nat.le_of_ble_eq_true rfl) ?_
  intro p e s m args below meth c ls AA H0 H locs Q S hK hP hD hS hl hE
  have S : CallFix p m c cX3_add 8 s args wsX3_add RX3 := S
  have hx := S.1
  have hb := S.2.1
  have hts := S.2.2.2.2
  have hl : lv_has ls 8 [(0, .ref (A 0)), (1, .int (nI (a))), (2, .int (nI (b))), (3, .int (nI (c0))), (4, .int (nI (d0))), (5, .int (nI (q0))), (6, .int (bI (pm)))] := hl
  have hn := hf.1.1
  have hr2 := hr
  unfold rvOk at hr2
  simp only [sF, sT, dF, dT, pR] at hr2
  refine lv_iload_n hx hb dX3_add_0 rfl (lv_at hl 1 rfl) ?_
  refine lv_iload_n hx hb dX3_add_1 rfl (lv_at hl 2 rfl) ?_
  refine Rd.callS (r := (nI (1))) (As := [.int (nI (a)), .int (nI (b))]) S (k_isRg1 l (a := a) (b := b) (by omega) (by omega)) (va_cwS 2 hts gX3_add_X3_isRange rfl rfl rfl (by decide +kernel) ⟨Nat.le_of_ble_eq_true rfl, Nat.le_of_ble_eq_true rfl⟩) hK rfl hl.1 rfl (Nat.le_of_ble_eq_true rfl) dX3_add_2 ⟨Nat.zero_le _, Nat.zero_le _⟩ ?_
  refine nr_if_eq (tgt := 32) hx hb (by omega) dX3_add_5 (by decide) (fun c_5 => absurd c_5 (by decide)) (fun c_5 => ?_)
  refine lv_iload_n hx hb dX3_add_8 rfl (lv_at hl 3 rfl) ?_
  refine lv_iload hx hb dX3_add_9 (lv_at hl 4 rfl) ?_
  refine Rd.callS (r := (nI (1))) (As := [.int (nI (c0)), .int (nI (d0))]) S (k_isRg1 l (a := c0) (b := d0) (by omega) (by omega)) (va_cwS 2 hts gX3_add_X3_isRange rfl rfl rfl (by decide +kernel) ⟨Nat.le_of_ble_eq_true rfl, Nat.le_of_ble_eq_true rfl⟩) hK rfl hl.1 rfl (Nat.le_of_ble_eq_true rfl) dX3_add_11 ⟨Nat.zero_le _, Nat.zero_le _⟩ ?_
  refine nr_if_eq (tgt := 32) hx hb (by omega) dX3_add_14 (by decide) (fun c_14 => absurd c_14 (by decide)) (fun c_14 => ?_)
  refine lv_iload hx hb dX3_add_17 (lv_at hl 5 rfl) ?_
  refine lv_iconst (v := (nI (1))) hx hb dX3_add_19 (by decide +kernel) ?_
  refine lv_bipush (v := (nI (15))) hx hb dX3_add_20 (by decide +kernel) ?_
  refine Rd.callS (r := (nI (1))) (As := [.int (nI (q0)), .int (nI (1)), .int (nI (15))]) S (k_in1 l (v := q0) (a := 1) (b := 15) (by omega) (by omega) (by omega)) (va_cwS 3 hts gX3_add_X3_in rfl rfl rfl (by decide +kernel) ⟨Nat.le_of_ble_eq_true rfl, Nat.le_of_ble_eq_true rfl⟩) hK rfl hl.1 rfl (Nat.le_of_ble_eq_true rfl) dX3_add_22 ⟨Nat.zero_le _, Nat.zero_le _⟩ ?_
  refine nr_if_eq (tgt := 32) hx hb (by omega) dX3_add_25 (by decide) (fun c_25 => absurd c_25 (by decide)) (fun c_25 => ?_)
  refine lv_iconst (v := (nI (1))) hx hb dX3_add_28 (by decide +kernel) ?_
  refine lv_goto (tgt := 33) hx hb dX3_add_29 (by decide) ?_
  refine lv_istore (lv' := [(7, .int (nI (1))), (0, .ref (A 0)), (1, .int (nI (a))), (2, .int (nI (b))), (3, .int (nI (c0))), (4, .int (nI (d0))), (5, .int (nI (q0))), (6, .int (bI (pm)))]) hx hb dX3_add_33 hl (by decide) rfl (fun ls hl => ?_)
  refine lv_aload_n hx hb dX3_add_35 rfl (lv_at hl 1 rfl) ?_
  refine lv_iload hx hb dX3_add_36 (lv_at hl 0 rfl) ?_
  refine nr_if_ne (tgt := 45) hx hb (by omega) dX3_add_38 (by decide) (fun c_38 => ?_) (fun c_38 => absurd c_38 (by decide))
  refine lv_aload_n hx hb dX3_add_45 rfl (lv_at hl 1 rfl) ?_
  refine nr_get (C := RX3) (T := TX3) (N := 10) (ci := 3) S (fun _ h => List.mem_cons_of_mem _ (List.mem_append_right _ (h))) hK hP 0 rfl rfl 1 (by decide) (List.mem_of_getElem? (i := 1) rfl) rfl dX3_add_46 ?_
  refine lv_bipush (v := (nI (16))) hx hb dX3_add_49 (by decide +kernel) ?_
  refine nr_icmp_ne (tgt := 58) hx hb (by omega) (by omega) dX3_add_51 (by decide) (fun c_51 => absurd c_51 (fun q => q hl16)) (fun c_51 => ?_)
  refine lv_iconst (v := (nI (2))) hx hb dX3_add_54 (by decide +kernel) ?_
  refine lv_goto (tgt := 59) hx hb dX3_add_55 (by decide) ?_
  refine MuI.callV (r := (nI (0))) (As := [.int (nI (2))]) S (k_holdsN l (by decide)) (cwV 1 hts gX3_add_X3_holds rfl rfl rfl (by decide +kernel) ⟨Nat.le_of_ble_eq_true rfl, Nat.le_of_ble_eq_true rfl⟩) hK hP hD hS (va_recv hK.1 hP (ci := 3) (q0 := 0) rfl rfl) rfl hl.1 rfl (Nat.le_of_ble_eq_true rfl) dX3_add_59 ⟨Nat.zero_le _, Nat.zero_le _⟩ (fun H locs hB hS _ hkp => ?_)
  have hP : va_P D aCl (wM Y A (nI (2)) (nI (rs.length)) (mi) (ju) (lo) f bf ca bg sz) H := hB
  have hD : va_D AA (wM Y A (nI (2)) (nI (rs.length)) (mi) (ju) (lo) f bf ca bg sz) := va_D.same hD rfl
  refine nr_if_ne (tgt := 67) hx hb (by omega) dX3_add_62 (by decide) (fun c_62 => absurd c_62 (by decide)) (fun c_62 => ?_)
  refine lv_iconst (v := (nI (0))) hx hb dX3_add_65 (by decide +kernel) ?_
  exact hE _ _ _ _ _ dX3_add_66 (vp_nar_int _) (rfl) (⟨f, bf, ca, bg, sz, hf, hP⟩) hS
set_option maxHeartbeats 4000000 in
set_option maxRecDepth 100000 in
theorem k_X3_add_x1 (l : Launch) {D : va_G} {Y : Nat → ClassId} {A : Nat → Nat} {th mi ju lo : Int32} {f bf ca bg sz : Nat → Int32} {rs : List RV}  (hf : mrep rs f) {a b c0 d0 q0 : Int32} {pm : Bool} (hr : (rgB a b && rgB c0 d0 && inI q0 (nI 1) (nI 15)) = false) : MuI l yX3_add wsX3_add 3 D Y [.ref (A 0), .int (a), .int (b), .int (c0), .int (d0), .int (q0), .int (bI (pm))] (wM Y A (th) (nI (rs.length)) (mi) (ju) (lo) f bf ca bg sz) (mdB D Y A (nI 1) (mi) (ju) (lo) (rs)) (nI 0) := by
  refine MuI.start (cc := cX3_add) (maxL := 8) (rt := .int) (by decide) rfl (Nat.le_of_ble_eq_true rfl) ?_
  intro p e s m args below meth c ls AA H0 H locs Q S hK hP hD hS hl hE
  have S : CallFix p m c cX3_add 8 s args wsX3_add RX3 := S
  have hx := S.1
  have hb := S.2.1
  have hts := S.2.2.2.2
  have hl : lv_has ls 8 [(0, .ref (A 0)), (1, .int (a)), (2, .int (b)), (3, .int (c0)), (4, .int (d0)), (5, .int (q0)), (6, .int (bI (pm)))] := hl
  refine lv_iload_n hx hb dX3_add_0 rfl (lv_at hl 1 rfl) ?_
  refine lv_iload_n hx hb dX3_add_1 rfl (lv_at hl 2 rfl) ?_
  refine Rd.callS (r := (bI (rgB (a) (b)))) (As := [.int (a), .int (b)]) S (k_X3_isRange l (a) (b)) (va_cwS 2 hts gX3_add_X3_isRange rfl rfl rfl (by decide +kernel) ⟨Nat.le_of_ble_eq_true rfl, Nat.le_of_ble_eq_true rfl⟩) hK rfl hl.1 rfl (Nat.le_of_ble_eq_true rfl) dX3_add_2 ⟨Nat.zero_le _, Nat.zero_le _⟩ ?_
  refine nr_ifB_eq (tgt := 32) hx hb dX3_add_5 (by decide) (fun c_5 => ?_) (fun c_5 => ?_)
  · refine lv_iconst (v := (nI (0))) hx hb dX3_add_32 (by decide +kernel) ?_
    refine lv_istore (lv' := [(7, .int (nI (0))), (0, .ref (A 0)), (1, .int (a)), (2, .int (b)), (3, .int (c0)), (4, .int (d0)), (5, .int (q0)), (6, .int (bI (pm)))]) hx hb dX3_add_33 hl (by decide) rfl (fun ls hl => ?_)
    refine lv_aload_n hx hb dX3_add_35 rfl (lv_at hl 1 rfl) ?_
    refine lv_iload hx hb dX3_add_36 (lv_at hl 0 rfl) ?_
    refine nr_if_ne (tgt := 45) hx hb (by omega) dX3_add_38 (by decide) (fun c_38 => absurd c_38 (by decide)) (fun c_38 => ?_)
    refine lv_iconst (v := (nI (1))) hx hb dX3_add_41 (by decide +kernel) ?_
    refine lv_goto (tgt := 59) hx hb dX3_add_42 (by decide) ?_
    refine MuI.callV (r := (nI (0))) (As := [.int (nI (1))]) S (k_holdsN l (by decide)) (cwV 1 hts gX3_add_X3_holds rfl rfl rfl (by decide +kernel) ⟨Nat.le_of_ble_eq_true rfl, Nat.le_of_ble_eq_true rfl⟩) hK hP hD hS (va_recv hK.1 hP (ci := 3) (q0 := 0) rfl rfl) rfl hl.1 rfl (Nat.le_of_ble_eq_true rfl) dX3_add_59 ⟨Nat.zero_le _, Nat.zero_le _⟩ (fun H locs hB hS _ hkp => ?_)
    have hP : va_P D aCl (wM Y A (nI (1)) (nI (rs.length)) (mi) (ju) (lo) f bf ca bg sz) H := hB
    have hD : va_D AA (wM Y A (nI (1)) (nI (rs.length)) (mi) (ju) (lo) f bf ca bg sz) := va_D.same hD rfl
    refine nr_if_ne (tgt := 67) hx hb (by omega) dX3_add_62 (by decide) (fun c_62 => absurd c_62 (by decide)) (fun c_62 => ?_)
    refine lv_iconst (v := (nI (0))) hx hb dX3_add_65 (by decide +kernel) ?_
    exact hE _ _ _ _ _ dX3_add_66 (vp_nar_int _) (rfl) (⟨f, bf, ca, bg, sz, hf, hP⟩) hS
  · refine lv_iload_n hx hb dX3_add_8 rfl (lv_at hl 3 rfl) ?_
    refine lv_iload hx hb dX3_add_9 (lv_at hl 4 rfl) ?_
    refine Rd.callS (r := (bI (rgB (c0) (d0)))) (As := [.int (c0), .int (d0)]) S (k_X3_isRange l (c0) (d0)) (va_cwS 2 hts gX3_add_X3_isRange rfl rfl rfl (by decide +kernel) ⟨Nat.le_of_ble_eq_true rfl, Nat.le_of_ble_eq_true rfl⟩) hK rfl hl.1 rfl (Nat.le_of_ble_eq_true rfl) dX3_add_11 ⟨Nat.zero_le _, Nat.zero_le _⟩ ?_
    refine nr_ifB_eq (tgt := 32) hx hb dX3_add_14 (by decide) (fun c_14 => ?_) (fun c_14 => ?_)
    · refine lv_iconst (v := (nI (0))) hx hb dX3_add_32 (by decide +kernel) ?_
      refine lv_istore (lv' := [(7, .int (nI (0))), (0, .ref (A 0)), (1, .int (a)), (2, .int (b)), (3, .int (c0)), (4, .int (d0)), (5, .int (q0)), (6, .int (bI (pm)))]) hx hb dX3_add_33 hl (by decide) rfl (fun ls hl => ?_)
      refine lv_aload_n hx hb dX3_add_35 rfl (lv_at hl 1 rfl) ?_
      refine lv_iload hx hb dX3_add_36 (lv_at hl 0 rfl) ?_
      refine nr_if_ne (tgt := 45) hx hb (by omega) dX3_add_38 (by decide) (fun c_38 => absurd c_38 (by decide)) (fun c_38 => ?_)
      refine lv_iconst (v := (nI (1))) hx hb dX3_add_41 (by decide +kernel) ?_
      refine lv_goto (tgt := 59) hx hb dX3_add_42 (by decide) ?_
      refine MuI.callV (r := (nI (0))) (As := [.int (nI (1))]) S (k_holdsN l (by decide)) (cwV 1 hts gX3_add_X3_holds rfl rfl rfl (by decide +kernel) ⟨Nat.le_of_ble_eq_true rfl, Nat.le_of_ble_eq_true rfl⟩) hK hP hD hS (va_recv hK.1 hP (ci := 3) (q0 := 0) rfl rfl) rfl hl.1 rfl (Nat.le_of_ble_eq_true rfl) dX3_add_59 ⟨Nat.zero_le _, Nat.zero_le _⟩ (fun H locs hB hS _ hkp => ?_)
      have hP : va_P D aCl (wM Y A (nI (1)) (nI (rs.length)) (mi) (ju) (lo) f bf ca bg sz) H := hB
      have hD : va_D AA (wM Y A (nI (1)) (nI (rs.length)) (mi) (ju) (lo) f bf ca bg sz) := va_D.same hD rfl
      refine nr_if_ne (tgt := 67) hx hb (by omega) dX3_add_62 (by decide) (fun c_62 => absurd c_62 (by decide)) (fun c_62 => ?_)
      refine lv_iconst (v := (nI (0))) hx hb dX3_add_65 (by decide +kernel) ?_
      exact hE _ _ _ _ _ dX3_add_66 (vp_nar_int _) (rfl) (⟨f, bf, ca, bg, sz, hf, hP⟩) hS
    · refine lv_iload hx hb dX3_add_17 (lv_at hl 5 rfl) ?_
      refine lv_iconst (v := (nI (1))) hx hb dX3_add_19 (by decide +kernel) ?_
      refine lv_bipush (v := (nI (15))) hx hb dX3_add_20 (by decide +kernel) ?_
      refine Rd.callS (r := (bI (inI (q0) (nI (1)) (nI (15))))) (As := [.int (q0), .int (nI (1)), .int (nI (15))]) S (k_X3_in l (q0) (nI (1)) (nI (15))) (va_cwS 3 hts gX3_add_X3_in rfl rfl rfl (by decide +kernel) ⟨Nat.le_of_ble_eq_true rfl, Nat.le_of_ble_eq_true rfl⟩) hK rfl hl.1 rfl (Nat.le_of_ble_eq_true rfl) dX3_add_22 ⟨Nat.zero_le _, Nat.zero_le _⟩ ?_
      refine nr_ifB_eq (tgt := 32) hx hb dX3_add_25 (by decide) (fun c_25 => ?_) (fun c_25 => absurd c_25 (by rw [c_5, c_14, Bool.true_and, Bool.true_and] at hr; rw [hr]; decide))
      refine lv_iconst (v := (nI (0))) hx hb dX3_add_32 (by decide +kernel) ?_
      refine lv_istore (lv' := [(7, .int (nI (0))), (0, .ref (A 0)), (1, .int (a)), (2, .int (b)), (3, .int (c0)), (4, .int (d0)), (5, .int (q0)), (6, .int (bI (pm)))]) hx hb dX3_add_33 hl (by decide) rfl (fun ls hl => ?_)
      refine lv_aload_n hx hb dX3_add_35 rfl (lv_at hl 1 rfl) ?_
      refine lv_iload hx hb dX3_add_36 (lv_at hl 0 rfl) ?_
      refine nr_if_ne (tgt := 45) hx hb (by omega) dX3_add_38 (by decide) (fun c_38 => absurd c_38 (by decide)) (fun c_38 => ?_)
      refine lv_iconst (v := (nI (1))) hx hb dX3_add_41 (by decide +kernel) ?_
      refine lv_goto (tgt := 59) hx hb dX3_add_42 (by decide) ?_
      refine MuI.callV (r := (nI (0))) (As := [.int (nI (1))]) S (k_holdsN l (by decide)) (cwV 1 hts gX3_add_X3_holds rfl rfl rfl (by decide +kernel) ⟨Nat.le_of_ble_eq_true rfl, Nat.le_of_ble_eq_true rfl⟩) hK hP hD hS (va_recv hK.1 hP (ci := 3) (q0 := 0) rfl rfl) rfl hl.1 rfl (Nat.le_of_ble_eq_true rfl) dX3_add_59 ⟨Nat.zero_le _, Nat.zero_le _⟩ (fun H locs hB hS _ hkp => ?_)
      have hP : va_P D aCl (wM Y A (nI (1)) (nI (rs.length)) (mi) (ju) (lo) f bf ca bg sz) H := hB
      have hD : va_D AA (wM Y A (nI (1)) (nI (rs.length)) (mi) (ju) (lo) f bf ca bg sz) := va_D.same hD rfl
      refine nr_if_ne (tgt := 67) hx hb (by omega) dX3_add_62 (by decide) (fun c_62 => absurd c_62 (by decide)) (fun c_62 => ?_)
      refine lv_iconst (v := (nI (0))) hx hb dX3_add_65 (by decide +kernel) ?_
      exact hE _ _ _ _ _ dX3_add_66 (vp_nar_int _) (rfl) (⟨f, bf, ca, bg, sz, hf, hP⟩) hS
