/-! the reference's methods that change its cells -/
/-- the reference behind a method: its rows hold these rules, and carry r -/
def tkB (D : va_G) (Y : Nat → ClassId) (A : Nat → Nat) (th mi ju lo : Int32) (bf bg sz : Nat → Int32) (rs : List RV) (r : RV) : Heap → Prop := fun H => ∃ f ca : Nat → Int32, mrep rs f ∧ crep r ca ∧ va_P D aCl (wM Y A th (nI rs.length) mi ju lo f bf ca bg sz) H
set_option maxHeartbeats 4000000 in
set_option maxRecDepth 100000 in
theorem k_X3_holds (l : Launch) {D : va_G} {Y : Nat → ClassId} {A : Nat → Nat} {th mi ju lo : Int32} {f bf ca bg sz : Nat → Int32} {rs : List RV}  {v : Int32} : MuI l yX3_holds wsX3_holds 1 D Y [.ref (A 0), .int (v)] (wM Y A (th) (nI (rs.length)) (mi) (ju) (lo) f bf ca bg sz) (va_P D aCl (wM Y A (v) (nI (rs.length)) (mi) (ju) (lo) f bf ca bg sz)) (bI (decide (v = 0))) := by
  refine MuI.start (cc := cX3_holds) (maxL := 2) (rt := .boolean) (by decide) rfl (Nat.le_of_ble_eq_true rfl) ?_
  intro p e s m args below meth c ls AA H0 H locs Q S hK hP hD hS hl hE
  have S : CallFix p m c cX3_holds 2 s args wsX3_holds RX3 := S
  have hx := S.1
  have hb := S.2.1
  have hts := S.2.2.2.2
  have hl : lv_has ls 2 [(0, .ref (A 0)), (1, .int (v))] := hl
  refine lv_aload_n hx hb dX3_holds_0 rfl (lv_at hl 0 rfl) ?_
  refine lv_iload_n hx hb dX3_holds_1 rfl (lv_at hl 1 rfl) ?_
  refine nr_put (C := RX3) (T := TX3) (N := 10) (ci := 3) (v := .int (v)) S (fun _ h => List.mem_cons_of_mem _ (List.mem_append_right _ (h))) tyX3 tyX3_ok nmX3 hK hP hD hS 0 rfl rfl 0 (by decide) (List.mem_of_getElem? (i := 1) rfl) rfl rfl rfl (Nat.le_of_ble_eq_true rfl) dX3_holds_2 (fun H locs hP hD hS => ?_)
  have hP : va_P D aCl (wM Y A (v) (nI (rs.length)) (mi) (ju) (lo) f bf ca bg sz) H := hP
  have hD : va_D AA (wM Y A (v) (nI (rs.length)) (mi) (ju) (lo) f bf ca bg sz) := hD
  refine lv_iload_n hx hb dX3_holds_5 rfl (lv_at hl 1 rfl) ?_
  refine lv_if_ne (tgt := 13) hx hb dX3_holds_6 (by decide) (fun c_6 => ?_) (fun c_6 => ?_)
  · refine lv_iconst (v := (nI (0))) hx hb dX3_holds_13 (by decide +kernel) ?_
    exact hE _ _ _ _ _ dX3_holds_14 (rfl) (bI_f (decide_eq_false c_6)) (hP) hS
  · refine lv_iconst (v := (nI (1))) hx hb dX3_holds_9 (by decide +kernel) ?_
    refine lv_goto (tgt := 14) hx hb dX3_holds_10 (by decide) ?_
    exact hE _ _ _ _ _ dX3_holds_14 (rfl) (bI_t (decide_eq_true (by first | exact c_6 | exact Decidable.byContradiction c_6))) (hP) hS
set_option maxHeartbeats 4000000 in
set_option maxRecDepth 100000 in
theorem k_X3_takesOut (l : Launch) {D : va_G} {Y : Nat → ClassId} {A : Nat → Nat} {th mi ju lo : Int32} {f bf ca bg sz : Nat → Int32} {rs : List RV}  (hf : mrep rs f) {pl : Nat} (hpl : pl < rs.length) : MuV l yX3_takesOut wsX3_takesOut 2 D Y [.ref (A 0), .int (nI (pl))] (wM Y A (th) (nI (rs.length)) (mi) (ju) (lo) f bf ca bg sz) (tkB D Y A th mi ju lo bf bg sz (rs.eraseIdx pl) (gt rs pl)) := by
  refine MuV.start (cc := cX3_takesOut) (maxL := 3) (by decide) rfl (Nat.le_of_ble_eq_true rfl) ?_
  intro p e s m args below meth c ls AA H0 H locs Q S hK hP hD hS hl hE
  have S : CallFix p m c cX3_takesOut 3 s args wsX3_takesOut RX3 := S
  have hx := S.1
  have hb := S.2.1
  have hts := S.2.2.2.2
  have hl : lv_has ls 3 [(0, .ref (A 0)), (1, .int (nI (pl)))] := hl
  have hn := hf.1.1
  refine lv_iconst (v := (nI (0))) hx hb dX3_takesOut_0 (by decide +kernel) ?_
  refine lv_istore_n (lv' := [(2, .int (nI (0))), (0, .ref (A 0)), (1, .int (nI (pl)))]) hx hb dX3_takesOut_1 rfl hl (by decide) rfl (fun ls hl => ?_)
  have loop_2 : ∀ (fu_2 : Nat) (w : Nat) (ca1 : Nat → Int32), (w ≤ 7) → (∀ a, a < w → ca1 a = rvI (gt rs pl) a) → 7 - w < fu_2 → ∀ (H : Heap) (locs : List Loc), va_P D aCl (wM Y A (th) (nI (rs.length)) (mi) (ju) (lo) f bf ca1 bg sz) H → va_S AA H0 H locs → ∀ ls : Array Slot, lv_has ls 3 [(2, .int (nI (w))), (0, .ref (A 0)), (1, .int (nI (pl)))] → W p l e (rmN 2) s m args below meth c H locs 0 0 Q (F0 m 2 ls []) := by
    intro fu_2
    induction fu_2 with
    | zero => exact fun w ca1 _ _ hk => absurd hk (Nat.not_lt_zero _)
    | succ fu_2 ih_2 =>
      intro w ca1 h1 h2 hk_2 H locs hP hS ls hl
      have hD : va_D AA (wM Y A (th) (nI (rs.length)) (mi) (ju) (lo) f bf ca1 bg sz) := va_D.same hD rfl
      refine lv_iload_n hx hb dX3_takesOut_2 rfl (lv_at hl 0 rfl) ?_
      refine lv_bipush (v := (nI (7))) hx hb dX3_takesOut_3 (by decide +kernel) ?_
      refine nr_icmp_ge (tgt := 26) hx hb (by omega) (by omega) dX3_takesOut_5 (by decide) (fun c_5 => ?_) (fun c_5 => ?_)
      · refine lv_aload_n hx hb dX3_takesOut_26 rfl (lv_at hl 1 rfl) ?_
        refine lv_dup hx hb dX3_takesOut_27 rfl ?_
        refine nr_get (C := RX3) (T := TX3) (N := 10) (ci := 3) S (fun _ h => List.mem_cons_of_mem _ (List.mem_append_right _ (h))) hK hP 0 rfl rfl 1 (by decide) (List.mem_of_getElem? (i := 2) rfl) rfl dX3_takesOut_28 ?_
        refine lv_iconst (v := (nI (1))) hx hb dX3_takesOut_31 (by decide +kernel) ?_
        refine nr_isub hx hb (by omega) dX3_takesOut_32 ?_
        refine nr_put (C := RX3) (T := TX3) (N := 10) (ci := 3) (v := .int (nI ((rs.length) - 1))) S (fun _ h => List.mem_cons_of_mem _ (List.mem_append_right _ (h))) tyX3 tyX3_ok nmX3 hK hP hD hS 0 rfl rfl 1 (by decide) (List.mem_of_getElem? (i := 2) rfl) rfl rfl rfl (Nat.le_of_ble_eq_true rfl) dX3_takesOut_33 (fun H locs hP hD hS => ?_)
        have hP : va_P D aCl (wM Y A (th) (nI ((rs.length) - 1)) (mi) (ju) (lo) f bf ca1 bg sz) H := hP
        have hD : va_D AA (wM Y A (th) (nI ((rs.length) - 1)) (mi) (ju) (lo) f bf ca1 bg sz) := hD
        refine lv_bipush (v := (nI (7))) hx hb dX3_takesOut_36 (by decide +kernel) ?_
        refine lv_iload_n hx hb dX3_takesOut_38 rfl (lv_at hl 2 rfl) ?_
        refine nr_imul hx hb dX3_takesOut_39 ?_
        refine lv_istore_n (lv' := [(2, .int (nI (7 * pl))), (0, .ref (A 0)), (1, .int (nI (pl)))]) hx hb dX3_takesOut_40 rfl hl (by decide) rfl (fun ls hl => ?_)
        have loop_41 : ∀ (fu_41 : Nat) (t : Nat) (f1 : Nat → Int32), (7 * pl ≤ t ∧ t ≤ 7 * (rs.length - 1)) → (f1 = shF f (7 * pl) t) → 7 * (rs.length - 1) - t < fu_41 → ∀ (H : Heap) (locs : List Loc), va_P D aCl (wM Y A (th) (nI ((rs.length) - 1)) (mi) (ju) (lo) f1 bf ca1 bg sz) H → va_S AA H0 H locs → ∀ ls : Array Slot, lv_has ls 3 [(2, .int (nI (t))), (0, .ref (A 0)), (1, .int (nI (pl)))] → W p l e (rmN 2) s m args below meth c H locs 0 0 Q (F0 m 41 ls []) := by
          intro fu_41
          induction fu_41 with
          | zero => exact fun t f1 _ _ hk => absurd hk (Nat.not_lt_zero _)
          | succ fu_41 ih_41 =>
            intro t f1 g1 g2 hk_41 H locs hP hS ls hl
            have hD : va_D AA (wM Y A (th) (nI ((rs.length) - 1)) (mi) (ju) (lo) f1 bf ca1 bg sz) := va_D.same hD rfl
            refine lv_iload_n hx hb dX3_takesOut_41 rfl (lv_at hl 0 rfl) ?_
            refine lv_bipush (v := (nI (7))) hx hb dX3_takesOut_42 (by decide +kernel) ?_
            refine lv_aload_n hx hb dX3_takesOut_44 rfl (lv_at hl 1 rfl) ?_
            refine nr_get (C := RX3) (T := TX3) (N := 10) (ci := 3) S (fun _ h => List.mem_cons_of_mem _ (List.mem_append_right _ (h))) hK hP 0 rfl rfl 1 (by decide) (List.mem_of_getElem? (i := 2) rfl) rfl dX3_takesOut_45 ?_
            refine nr_imul hx hb dX3_takesOut_48 ?_
            refine nr_icmp_ge (tgt := 73) hx hb (by omega) (by omega) dX3_takesOut_49 (by decide) (fun c_49 => ?_) (fun c_49 => ?_)
            · exact hE _ _ _ _ dX3_takesOut_73 (⟨f1, ca1, (by rw [g2, show t = 7 * (rs.length - 1) from by omega]; exact mrep_erase hf hpl), (fun a ha => h2 a (by omega)), (by rw [len_erase hpl]; exact hP)⟩) hS
            · refine lv_aload_n hx hb dX3_takesOut_52 rfl (lv_at hl 1 rfl) ?_
              refine nr_get (C := RX3) (T := TX3) (N := 10) (ci := 3) S (fun _ h => List.mem_cons_of_mem _ (List.mem_append_right _ (h))) hK hP 0 rfl rfl 2 (by decide) (List.mem_of_getElem? (i := 3) rfl) rfl dX3_takesOut_53 ?_
              refine lv_iload_n hx hb dX3_takesOut_56 rfl (lv_at hl 0 rfl) ?_
              refine lv_aload_n hx hb dX3_takesOut_57 rfl (lv_at hl 1 rfl) ?_
              refine nr_get (C := RX3) (T := TX3) (N := 10) (ci := 3) S (fun _ h => List.mem_cons_of_mem _ (List.mem_append_right _ (h))) hK hP 0 rfl rfl 2 (by decide) (List.mem_of_getElem? (i := 3) rfl) rfl dX3_takesOut_58 ?_
              refine lv_iload_n hx hb dX3_takesOut_61 rfl (lv_at hl 0 rfl) ?_
              refine lv_bipush (v := (nI (7))) hx hb dX3_takesOut_62 (by decide +kernel) ?_
              refine nr_iadd hx hb dX3_takesOut_64 ?_
              refine nr_iald (n := 112) (f := f1) S hK hP 1 rfl (by omega) (by decide) dX3_takesOut_65 ?_
              refine nr_iast (n := 112) (f := f1) (x := (f1 (t + 7))) S hK hP hD hS 1 rfl (by omega) (by decide) dX3_takesOut_66 (fun H locs hP hD hS => ?_)
              have hP : va_P D aCl (wM Y A (th) (nI ((rs.length) - 1)) (mi) (ju) (lo) (upd f1 (t) (f1 (t + 7))) bf ca1 bg sz) H := hP
              have hD : va_D AA (wM Y A (th) (nI ((rs.length) - 1)) (mi) (ju) (lo) (upd f1 (t) (f1 (t + 7))) bf ca1 bg sz) := hD
              refine lv_iinc (v := (nI (t + 1))) (lv' := [(2, .int (nI (t + 1))), (0, .ref (A 0)), (1, .int (nI (pl)))]) hx hb dX3_takesOut_67 hl (k := 0) rfl (nI_add _ _) (by decide) rfl (fun ls hl => ?_)
              refine lv_goto (tgt := 41) hx hb dX3_takesOut_70 (by decide) ?_
              exact ih_41 (t + 1) ((upd f1 (t) (f1 (t + 7)))) (by omega) (by rw [g2]; exact shF_s g1.1) (by omega) _ _ hP hS ls (lv_sub hl [0, 1, 2] rfl)
        exact loop_41 _ (7 * pl) (f) (by omega) ((shF_0 _ _).symm) (Nat.lt_succ_self _) _ _ hP hS ls (lv_sub hl [0, 1, 2] rfl)
      · refine lv_aload_n hx hb dX3_takesOut_8 rfl (lv_at hl 1 rfl) ?_
        refine nr_get (C := RX3) (T := TX3) (N := 10) (ci := 3) S (fun _ h => List.mem_cons_of_mem _ (List.mem_append_right _ (h))) hK hP 0 rfl rfl 7 (by decide) (List.mem_of_getElem? (i := 1) rfl) rfl dX3_takesOut_9 ?_
        refine lv_iload_n hx hb dX3_takesOut_12 rfl (lv_at hl 0 rfl) ?_
        refine lv_aload_n hx hb dX3_takesOut_13 rfl (lv_at hl 1 rfl) ?_
        refine lv_iload_n hx hb dX3_takesOut_14 rfl (lv_at hl 2 rfl) ?_
        refine lv_iload_n hx hb dX3_takesOut_15 rfl (lv_at hl 0 rfl) ?_
        refine Rd.callV (r := (rvI (gt rs (pl)) (w))) (As := [.int (nI (pl)), .int (nI (w))]) S (k_ofR l hP hf (i := pl) (w := w) (by omega) (by omega)) (cwV 2 hts gX3_takesOut_X3_of rfl rfl rfl (by decide +kernel) ⟨Nat.le_of_ble_eq_true rfl, Nat.le_of_ble_eq_true rfl⟩) hK (va_recv hK.1 hP (ci := 3) (q0 := 0) rfl rfl) rfl hl.1 rfl (Nat.le_of_ble_eq_true rfl) dX3_takesOut_16 ⟨Nat.zero_le _, Nat.zero_le _⟩ ?_
        refine nr_iast (n := 7) (f := ca1) (x := (rvI (gt rs (pl)) (w))) S hK hP hD hS 3 rfl (by omega) (by decide) dX3_takesOut_19 (fun H locs hP hD hS => ?_)
        have hP : va_P D aCl (wM Y A (th) (nI (rs.length)) (mi) (ju) (lo) f bf (upd ca1 (w) (rvI (gt rs (pl)) (w))) bg sz) H := hP
        have hD : va_D AA (wM Y A (th) (nI (rs.length)) (mi) (ju) (lo) f bf (upd ca1 (w) (rvI (gt rs (pl)) (w))) bg sz) := hD
        refine lv_iinc (v := (nI (w + 1))) (lv' := [(2, .int (nI (w + 1))), (0, .ref (A 0)), (1, .int (nI (pl)))]) hx hb dX3_takesOut_20 hl (k := 0) rfl (nI_add _ _) (by decide) rfl (fun ls hl => ?_)
        refine lv_goto (tgt := 2) hx hb dX3_takesOut_23 (by decide) ?_
        exact ih_2 (w + 1) ((upd ca1 (w) (rvI (gt rs (pl)) (w)))) (by omega) (crep_s h2) (by omega) _ _ hP hS ls (lv_sub hl [0, 1, 2] rfl)
  exact loop_2 _ (0) (ca) (Nat.zero_le _) (fun _ hj => absurd hj (Nat.not_lt_zero _)) (Nat.lt_succ_self _) _ _ hP hS ls (lv_sub hl [0, 1, 2] rfl)
set_option maxHeartbeats 4000000 in
set_option maxRecDepth 100000 in
theorem k_X3_putsIn (l : Launch) {D : va_G} {Y : Nat → ClassId} {A : Nat → Nat} {th mi ju lo : Int32} {f bf ca bg sz : Nat → Int32} {rs : List RV}  (hf : mrep rs f) {pl : Nat} {r : RV} (hpl : pl ≤ rs.length) (hr : rvOk r) (hl15 : rs.length ≤ 15) (hc : crep r ca) : MuV l yX3_putsIn wsX3_putsIn 2 D Y [.ref (A 0), .int (nI (pl))] (wM Y A (th) (nI (rs.length)) (mi) (ju) (lo) f bf ca bg sz) (tkB D Y A th mi ju lo bf bg sz (rs.insertIdx pl r) r) := by
  refine MuV.start (cc := cX3_putsIn) (maxL := 3) (by decide) rfl (Nat.le_of_ble_eq_true rfl) ?_
  intro p e s m args below meth c ls AA H0 H locs Q S hK hP hD hS hl hE
  have S : CallFix p m c cX3_putsIn 3 s args wsX3_putsIn RX3 := S
  have hx := S.1
  have hb := S.2.1
  have hts := S.2.2.2.2
  have hl : lv_has ls 3 [(0, .ref (A 0)), (1, .int (nI (pl)))] := hl
  have hn := hf.1.1
  refine lv_bipush (v := (nI (7))) hx hb dX3_putsIn_0 (by decide +kernel) ?_
  refine lv_aload_n hx hb dX3_putsIn_2 rfl (lv_at hl 0 rfl) ?_
  refine nr_get (C := RX3) (T := TX3) (N := 10) (ci := 3) S (fun _ h => List.mem_cons_of_mem _ (List.mem_append_right _ (h))) hK hP 0 rfl rfl 1 (by decide) (List.mem_of_getElem? (i := 1) rfl) rfl dX3_putsIn_3 ?_
  refine nr_imul hx hb dX3_putsIn_6 ?_
  refine lv_iconst (v := (nI (1))) hx hb dX3_putsIn_7 (by decide +kernel) ?_
  refine lv_isub hx hb dX3_putsIn_8 ?_
  refine lv_istore_n (lv' := [(2, .int (((nI (7 * (rs.length))) - (nI (1))))), (0, .ref (A 0)), (1, .int (nI (pl)))]) hx hb dX3_putsIn_9 rfl hl (by decide) rfl (fun ls hl => ?_)
  have loop_10 : ∀ (fu_10 : Nat) (x : Int32) (z : Nat) (f1 : Nat → Int32), (7 * pl ≤ z ∧ z ≤ 7 * rs.length) → (x = nI z - nI 1) → (f1 = suF f z (7 * rs.length)) → z < fu_10 → ∀ (H : Heap) (locs : List Loc), va_P D aCl (wM Y A (th) (nI (rs.length)) (mi) (ju) (lo) f1 bf ca bg sz) H → va_S AA H0 H locs → ∀ ls : Array Slot, lv_has ls 3 [(2, .int (x)), (0, .ref (A 0)), (1, .int (nI (pl)))] → W p l e (rmN 2) s m args below meth c H locs 0 0 Q (F0 m 10 ls []) := by
    intro fu_10
    induction fu_10 with
    | zero => exact fun x z f1 _ _ _ hk => absurd hk (Nat.not_lt_zero _)
    | succ fu_10 ih_10 =>
      intro x z f1 g1 g2 g3 hk_10 H locs hP hS ls hl
      have hD : va_D AA (wM Y A (th) (nI (rs.length)) (mi) (ju) (lo) f1 bf ca bg sz) := va_D.same hD rfl
      refine lv_iload_n hx hb dX3_putsIn_10 rfl (lv_at hl 0 rfl) ?_
      refine lv_bipush (v := (nI (7))) hx hb dX3_putsIn_11 (by decide +kernel) ?_
      refine lv_iload_n hx hb dX3_putsIn_13 rfl (lv_at hl 2 rfl) ?_
      refine nr_imul hx hb dX3_putsIn_14 ?_
      refine lv_icmp_lt (tgt := 39) hx hb dX3_putsIn_15 (by decide) (fun c_15 => ?_) (fun c_15 => ?_)
      · have c_15 : z ≤ 7 * pl := (nI_lts (by omega) (by omega)).mp (by rw [← g2]; exact c_15)
        refine lv_aload_n hx hb dX3_putsIn_39 rfl (lv_at hl 1 rfl) ?_
        refine lv_dup hx hb dX3_putsIn_40 rfl ?_
        refine nr_get (C := RX3) (T := TX3) (N := 10) (ci := 3) S (fun _ h => List.mem_cons_of_mem _ (List.mem_append_right _ (h))) hK hP 0 rfl rfl 1 (by decide) (List.mem_of_getElem? (i := 1) rfl) rfl dX3_putsIn_41 ?_
        refine lv_iconst (v := (nI (1))) hx hb dX3_putsIn_44 (by decide +kernel) ?_
        refine nr_iadd hx hb dX3_putsIn_45 ?_
        refine nr_put (C := RX3) (T := TX3) (N := 10) (ci := 3) (v := .int (nI ((rs.length) + 1))) S (fun _ h => List.mem_cons_of_mem _ (List.mem_append_right _ (h))) tyX3 tyX3_ok nmX3 hK hP hD hS 0 rfl rfl 1 (by decide) (List.mem_of_getElem? (i := 1) rfl) rfl rfl rfl (Nat.le_of_ble_eq_true rfl) dX3_putsIn_46 (fun H locs hP hD hS => ?_)
        have hP : va_P D aCl (wM Y A (th) (nI ((rs.length) + 1)) (mi) (ju) (lo) f1 bf ca bg sz) H := hP
        have hD : va_D AA (wM Y A (th) (nI ((rs.length) + 1)) (mi) (ju) (lo) f1 bf ca bg sz) := hD
        refine lv_iconst (v := (nI (0))) hx hb dX3_putsIn_49 (by decide +kernel) ?_
        refine lv_istore_n (lv' := [(2, .int (nI (0))), (0, .ref (A 0)), (1, .int (nI (pl)))]) hx hb dX3_putsIn_50 rfl hl (by decide) rfl (fun ls hl => ?_)
        have loop_51 : ∀ (fu_51 : Nat) (w : Nat) (f2 : Nat → Int32), (w ≤ 7) → (f2 = inF f1 ca (7 * pl) w) → 7 - w < fu_51 → ∀ (H : Heap) (locs : List Loc), va_P D aCl (wM Y A (th) (nI ((rs.length) + 1)) (mi) (ju) (lo) f2 bf ca bg sz) H → va_S AA H0 H locs → ∀ ls : Array Slot, lv_has ls 3 [(2, .int (nI (w))), (0, .ref (A 0)), (1, .int (nI (pl)))] → W p l e (rmN 2) s m args below meth c H locs 0 0 Q (F0 m 51 ls []) := by
          intro fu_51
          induction fu_51 with
          | zero => exact fun w f2 _ _ hk => absurd hk (Nat.not_lt_zero _)
          | succ fu_51 ih_51 =>
            intro w f2 e1 e2 hk_51 H locs hP hS ls hl
            have hD : va_D AA (wM Y A (th) (nI ((rs.length) + 1)) (mi) (ju) (lo) f2 bf ca bg sz) := va_D.same hD rfl
            refine lv_iload_n hx hb dX3_putsIn_51 rfl (lv_at hl 0 rfl) ?_
            refine lv_bipush (v := (nI (7))) hx hb dX3_putsIn_52 (by decide +kernel) ?_
            refine nr_icmp_ge (tgt := 80) hx hb (by omega) (by omega) dX3_putsIn_54 (by decide) (fun c_54 => ?_) (fun c_54 => ?_)
            · exact hE _ _ _ _ dX3_putsIn_80 (⟨f2, ca, (by rw [e2, show w = 7 from by omega, g3, show z = 7 * pl from by omega]; exact mrep_insert hf hpl hr hl15 hc), hc, (by rw [len_insert hpl]; exact hP)⟩) hS
            · refine lv_aload_n hx hb dX3_putsIn_57 rfl (lv_at hl 1 rfl) ?_
              refine nr_get (C := RX3) (T := TX3) (N := 10) (ci := 3) S (fun _ h => List.mem_cons_of_mem _ (List.mem_append_right _ (h))) hK hP 0 rfl rfl 2 (by decide) (List.mem_of_getElem? (i := 2) rfl) rfl dX3_putsIn_58 ?_
              refine lv_bipush (v := (nI (7))) hx hb dX3_putsIn_61 (by decide +kernel) ?_
              refine lv_iload_n hx hb dX3_putsIn_63 rfl (lv_at hl 2 rfl) ?_
              refine nr_imul hx hb dX3_putsIn_64 ?_
              refine lv_iload_n hx hb dX3_putsIn_65 rfl (lv_at hl 0 rfl) ?_
              refine nr_iadd hx hb dX3_putsIn_66 ?_
              refine lv_aload_n hx hb dX3_putsIn_67 rfl (lv_at hl 1 rfl) ?_
              refine nr_get (C := RX3) (T := TX3) (N := 10) (ci := 3) S (fun _ h => List.mem_cons_of_mem _ (List.mem_append_right _ (h))) hK hP 0 rfl rfl 7 (by decide) (List.mem_of_getElem? (i := 3) rfl) rfl dX3_putsIn_68 ?_
              refine lv_iload_n hx hb dX3_putsIn_71 rfl (lv_at hl 0 rfl) ?_
              refine nr_iald (n := 7) (f := ca) S hK hP 3 rfl (by omega) (by decide) dX3_putsIn_72 ?_
              refine nr_iast (n := 112) (f := f2) (x := (ca (w))) S hK hP hD hS 1 rfl (by omega) (by decide) dX3_putsIn_73 (fun H locs hP hD hS => ?_)
              have hP : va_P D aCl (wM Y A (th) (nI ((rs.length) + 1)) (mi) (ju) (lo) (upd f2 ((7 * pl) + w) (ca (w))) bf ca bg sz) H := hP
              have hD : va_D AA (wM Y A (th) (nI ((rs.length) + 1)) (mi) (ju) (lo) (upd f2 ((7 * pl) + w) (ca (w))) bf ca bg sz) := hD
              refine lv_iinc (v := (nI (w + 1))) (lv' := [(2, .int (nI (w + 1))), (0, .ref (A 0)), (1, .int (nI (pl)))]) hx hb dX3_putsIn_74 hl (k := 0) rfl (nI_add _ _) (by decide) rfl (fun ls hl => ?_)
              refine lv_goto (tgt := 51) hx hb dX3_putsIn_77 (by decide) ?_
              exact ih_51 (w + 1) ((upd f2 ((7 * pl) + w) (ca (w)))) (by omega) (by rw [e2]; exact inF_s) (by omega) _ _ hP hS ls (lv_sub hl [0, 1, 2] rfl)
        exact loop_51 _ (0) (f1) (Nat.zero_le _) ((inF_0 _ _ _).symm) (Nat.lt_succ_self _) _ _ hP hS ls (lv_sub hl [0, 1, 2] rfl)
      · have c_15 : 7 * pl < z := Nat.lt_of_not_le (fun q => c_15 (by rw [g2]; exact (nI_lts (by omega) (by omega)).mpr q))
        obtain ⟨k0, rfl⟩ : ∃ k0, z = k0 + 1 := ⟨z - 1, by omega⟩
        have g2 : x = nI k0 := by rw [g2, pk_sub (by omega), Nat.add_sub_cancel]
        subst g2
        refine lv_aload_n hx hb dX3_putsIn_18 rfl (lv_at hl 1 rfl) ?_
        refine nr_get (C := RX3) (T := TX3) (N := 10) (ci := 3) S (fun _ h => List.mem_cons_of_mem _ (List.mem_append_right _ (h))) hK hP 0 rfl rfl 2 (by decide) (List.mem_of_getElem? (i := 2) rfl) rfl dX3_putsIn_19 ?_
        refine lv_iload_n hx hb dX3_putsIn_22 rfl (lv_at hl 0 rfl) ?_
        refine lv_bipush (v := (nI (7))) hx hb dX3_putsIn_23 (by decide +kernel) ?_
        refine nr_iadd hx hb dX3_putsIn_25 ?_
        refine lv_aload_n hx hb dX3_putsIn_26 rfl (lv_at hl 1 rfl) ?_
        refine nr_get (C := RX3) (T := TX3) (N := 10) (ci := 3) S (fun _ h => List.mem_cons_of_mem _ (List.mem_append_right _ (h))) hK hP 0 rfl rfl 2 (by decide) (List.mem_of_getElem? (i := 2) rfl) rfl dX3_putsIn_27 ?_
        refine lv_iload_n hx hb dX3_putsIn_30 rfl (lv_at hl 0 rfl) ?_
        refine nr_iald (n := 112) (f := f1) S hK hP 1 rfl (by omega) (by decide) dX3_putsIn_31 ?_
        refine nr_iast (n := 112) (f := f1) (x := (f1 (k0))) S hK hP hD hS 1 rfl (by omega) (by decide) dX3_putsIn_32 (fun H locs hP hD hS => ?_)
        have hP : va_P D aCl (wM Y A (th) (nI (rs.length)) (mi) (ju) (lo) (upd f1 (k0 + 7) (f1 (k0))) bf ca bg sz) H := hP
        have hD : va_D AA (wM Y A (th) (nI (rs.length)) (mi) (ju) (lo) (upd f1 (k0 + 7) (f1 (k0))) bf ca bg sz) := hD
        refine lv_iinc (v := (nI k0 - nI 1)) (lv' := [(2, .int (nI k0 - nI 1)), (0, .ref (A 0)), (1, .int (nI (pl)))]) hx hb dX3_putsIn_33 hl (k := 0) rfl (m1_sub _) (by decide) rfl (fun ls hl => ?_)
        refine lv_goto (tgt := 10) hx hb dX3_putsIn_36 (by decide) ?_
        exact ih_10 ((nI k0 - nI 1)) (k0) ((upd f1 (k0 + 7) (f1 (k0)))) (by omega) (rfl) (by rw [g3]; exact suF_s (by omega)) (by omega) _ _ hP hS ls (lv_sub hl [0, 1, 2] rfl)
  exact loop_10 _ ((((nI (7 * (rs.length))) - (nI (1))))) (7 * rs.length) (f) (by omega) (rfl) ((suF_0 _ _).symm) (Nat.lt_succ_self _) _ _ hP hS ls (lv_sub hl [0, 1, 2] rfl)
