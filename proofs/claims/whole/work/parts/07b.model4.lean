/-! the reference's blocks -/
set_option maxHeartbeats 4000000 in
set_option maxRecDepth 100000 in
theorem k_X3_splits (l : Launch) {D : va_G} {Y : Nat → ClassId} {A : Nat → Nat} {th mi ju lo : Int32} {f bf ca bg sz : Nat → Int32} {rs : List RV}  {fr t1 row : Nat} (hfr : fr ≤ t1) (ht : t1 ≤ 32) (hrow : row + (Bk fr t1).length ≤ 24) : MuI l yX3_splits wsX3_splits 0 D Y [.ref (A 0), .int (nI (fr)), .int (nI t1 - nI 1), .int (nI (row))] (wM Y A (th) (nI (rs.length)) (mi) (ju) (lo) f bf ca bg sz) (va_P D aCl (wM Y A (th) (nI (rs.length)) (mi) (ju) (lo) f bf ca (inF bg (gB (Bk fr t1)) row (Bk fr t1).length) (inF sz (gS (Bk fr t1)) row (Bk fr t1).length))) (nI (Bk fr t1).length) := by
  refine MuI.start (cc := cX3_splits) (maxL := 7) (rt := .int) (by decide) rfl (Nat.le_of_ble_eq_true rfl) ?_
  intro p e s m args below meth c ls AA H0 H locs Q S hK hP hD hS hl hE
  have S : CallFix p m c cX3_splits 7 s args wsX3_splits RX3 := S
  have hx := S.1
  have hb := S.2.1
  have hts := S.2.2.2.2
  have hl : lv_has ls 7 [(0, .ref (A 0)), (1, .int (nI (fr))), (2, .int (nI t1 - nI 1)), (3, .int (nI (row)))] := hl
  refine lv_iconst (v := (nI (0))) hx hb dX3_splits_0 (by decide +kernel) ?_
  refine lv_istore (lv' := [(4, .int (nI (0))), (0, .ref (A 0)), (1, .int (nI (fr))), (2, .int (nI t1 - nI 1)), (3, .int (nI (row)))]) hx hb dX3_splits_1 hl (by decide) rfl (fun ls hl => ?_)
  refine lv_iload_n hx hb dX3_splits_3 rfl (lv_at hl 2 rfl) ?_
  refine lv_istore (lv' := [(5, .int (nI (fr))), (4, .int (nI (0))), (0, .ref (A 0)), (1, .int (nI (fr))), (2, .int (nI t1 - nI 1)), (3, .int (nI (row)))]) hx hb dX3_splits_4 hl (by decide) rfl (fun ls hl => ?_)
  have loop_6 : ∀ (fu_6 : Nat) (n : Nat) (a : Nat) (bg1 : Nat → Int32) (sz1 : Nat → Int32), (a ≤ 32 ∧ n + (Bk a t1).length = (Bk fr t1).length) → ((Bk fr t1).drop n = Bk a t1) → (bg1 = inF bg (gB (Bk fr t1)) row n) → (sz1 = inF sz (gS (Bk fr t1)) row n) → t1 - a < fu_6 → ∀ (H : Heap) (locs : List Loc), va_P D aCl (wM Y A (th) (nI (rs.length)) (mi) (ju) (lo) f bf ca bg1 sz1) H → va_S AA H0 H locs → ∀ ls : Array Slot, lv_has ls 7 [(5, .int (nI (a))), (4, .int (nI (n))), (0, .ref (A 0)), (1, .int (nI (fr))), (2, .int (nI t1 - nI 1)), (3, .int (nI (row)))] → W p l e (rmN 0) s m args below meth c H locs 0 0 Q (F0 m 6 ls []) := by
    intro fu_6
    induction fu_6 with
    | zero => exact fun n a bg1 sz1 _ _ _ _ hk => absurd hk (Nat.not_lt_zero _)
    | succ fu_6 ih_6 =>
      intro n a bg1 sz1 g1 g2 g3 g4 hk_6 H locs hP hS ls hl
      have hD : va_D AA (wM Y A (th) (nI (rs.length)) (mi) (ju) (lo) f bf ca bg1 sz1) := va_D.same hD rfl
      refine lv_iload hx hb dX3_splits_6 (lv_at hl 0 rfl) ?_
      refine lv_iload_n hx hb dX3_splits_8 rfl (lv_at hl 4 rfl) ?_
      refine lv_icmp_gt (tgt := 82) hx hb dX3_splits_9 (by decide) (fun c_9 => ?_) (fun c_9 => ?_)
      · have hta : t1 ≤ a := (nI_lts (by omega) (by omega)).mp c_9
        have hnl : n = (Bk fr t1).length := by have hz := Bk_nil hta; rw [hz] at g1; exact g1.2
        rw [hnl] at g3 g4
        subst g3 g4
        refine lv_iload hx hb dX3_splits_82 (lv_at hl 1 rfl) ?_
        exact hE _ _ _ _ _ dX3_splits_84 (vp_nar_int _) (congrArg nI hnl) (hP) hS
      · have hat : a < t1 := Nat.lt_of_not_le (fun z => c_9 ((nI_lts (by omega) (by omega)).mpr z))
        have hcons := Bk_cons hat
        have hbeg : nI a = gB (Bk fr t1) n := by unfold gB; rw [show bkB (Bk fr t1) n = bkB ((Bk fr t1).drop n) 0 from (bkB_drop (Bk fr t1) n 0).symm, g2, hcons]; rfl
        have hsiz : nI (szN a t1) = gS (Bk fr t1) n := by unfold gS; rw [show bkS (Bk fr t1) n = bkS ((Bk fr t1).drop n) 0 from (bkS_drop (Bk fr t1) n 0).symm, g2, hcons]; rfl
        have hlen1 : 1 ≤ (Bk a t1).length := by rw [hcons]; exact Nat.succ_le_succ (Nat.zero_le _)
        have hale := szN_le hat
        refine lv_iconst (v := (nI (1))) hx hb dX3_splits_12 (by decide +kernel) ?_
        refine lv_istore (lv' := [(6, .int (nI (1))), (5, .int (nI (a))), (4, .int (nI (n))), (0, .ref (A 0)), (1, .int (nI (fr))), (2, .int (nI t1 - nI 1)), (3, .int (nI (row)))]) hx hb dX3_splits_13 hl (by decide) rfl (fun ls hl => ?_)
        have loop_15 : ∀ (fu_15 : Nat) (s0 : Nat) (k0 : Nat), ((s0 = 1 ∧ k0 = 6) ∨ (s0 = 2 ∧ k0 = 5) ∨ (s0 = 4 ∧ k0 = 4) ∨ (s0 = 8 ∧ k0 = 3) ∨ (s0 = 16 ∧ k0 = 2) ∨ (s0 = 32 ∧ k0 = 1)) → (szF k0 a t1 s0 = szN a t1) → 64 - s0 < fu_15 → ∀ (H : Heap) (locs : List Loc), va_P D aCl (wM Y A (th) (nI (rs.length)) (mi) (ju) (lo) f bf ca bg1 sz1) H → va_S AA H0 H locs → ∀ ls : Array Slot, lv_has ls 7 [(6, .int (nI (s0))), (5, .int (nI (a))), (4, .int (nI (n))), (0, .ref (A 0)), (1, .int (nI (fr))), (2, .int (nI t1 - nI 1)), (3, .int (nI (row)))] → W p l e (rmN 0) s m args below meth c H locs 0 0 Q (F0 m 15 ls []) := by
          intro fu_15
          induction fu_15 with
          | zero => exact fun s0 k0 _ _ hk => absurd hk (Nat.not_lt_zero _)
          | succ fu_15 ih_15 =>
            intro s0 k0 k1 k2 hk_15 H locs hP hS ls hl
            have hD : va_D AA (wM Y A (th) (nI (rs.length)) (mi) (ju) (lo) f bf ca bg1 sz1) := va_D.same hD rfl
            refine lv_iload hx hb dX3_splits_15 (lv_at hl 1 rfl) ?_
            refine lv_iconst (v := (nI (2))) hx hb dX3_splits_17 (by decide +kernel) ?_
            refine lv_iload hx hb dX3_splits_18 (lv_at hl 0 rfl) ?_
            refine nr_imul hx hb dX3_splits_20 ?_
            refine nr_irem hx hb (by omega) (by omega) (by omega) dX3_splits_21 ?_
            refine nr_if_ne (tgt := 47) hx hb (Nat.lt_of_le_of_lt (Nat.mod_le _ _) (by omega)) dX3_splits_22 (by decide) (fun c_22 => ?_) (fun c_22 => ?_)
            · have k2 : s0 = szN a t1 := by
                rw [← k2]
                have hk0 : k0 = (k0 - 1) + 1 := by omega
                rw [hk0, szF, if_neg]
                first
                | exact fun z => absurd z.1 (Nat.ne_of_gt c_22)
                | exact fun z => absurd ((nI_lts (k := t1) (b := (a + (2 * s0)) - 1) (by omega) (by omega)).mp c_35) (by omega)
              refine lv_aload_n hx hb dX3_splits_47 rfl (lv_at hl 3 rfl) ?_
              refine nr_get (C := RX3) (T := TX3) (N := 10) (ci := 3) S (fun _ h => List.mem_cons_of_mem _ (List.mem_append_right _ (h))) hK hP 0 rfl rfl 8 (by decide) (List.mem_of_getElem? (i := 1) rfl) rfl dX3_splits_48 ?_
              refine lv_iload_n hx hb dX3_splits_51 rfl (lv_at hl 6 rfl) ?_
              refine lv_iload hx hb dX3_splits_52 (lv_at hl 2 rfl) ?_
              refine nr_iadd hx hb dX3_splits_54 ?_
              refine lv_iload hx hb dX3_splits_55 (lv_at hl 1 rfl) ?_
              refine nr_iast (n := 24) (f := bg1) (x := (nI (a))) S hK hP hD hS 4 rfl (by omega) (by decide) dX3_splits_57 (fun H locs hP hD hS => ?_)
              have hP : va_P D aCl (wM Y A (th) (nI (rs.length)) (mi) (ju) (lo) f bf ca (upd bg1 (row + n) (nI (a))) sz1) H := hP
              have hD : va_D AA (wM Y A (th) (nI (rs.length)) (mi) (ju) (lo) f bf ca (upd bg1 (row + n) (nI (a))) sz1) := hD
              refine lv_aload_n hx hb dX3_splits_58 rfl (lv_at hl 3 rfl) ?_
              refine nr_get (C := RX3) (T := TX3) (N := 10) (ci := 3) S (fun _ h => List.mem_cons_of_mem _ (List.mem_append_right _ (h))) hK hP 0 rfl rfl 9 (by decide) (List.mem_of_getElem? (i := 2) rfl) rfl dX3_splits_59 ?_
              refine lv_iload_n hx hb dX3_splits_62 rfl (lv_at hl 6 rfl) ?_
              refine lv_iload hx hb dX3_splits_63 (lv_at hl 2 rfl) ?_
              refine nr_iadd hx hb dX3_splits_65 ?_
              refine lv_iload hx hb dX3_splits_66 (lv_at hl 0 rfl) ?_
              refine nr_iast (n := 24) (f := sz1) (x := (nI (s0))) S hK hP hD hS 5 rfl (by omega) (by decide) dX3_splits_68 (fun H locs hP hD hS => ?_)
              have hP : va_P D aCl (wM Y A (th) (nI (rs.length)) (mi) (ju) (lo) f bf ca (upd bg1 (row + n) (nI (a))) (upd sz1 (row + n) (nI (s0)))) H := hP
              have hD : va_D AA (wM Y A (th) (nI (rs.length)) (mi) (ju) (lo) f bf ca (upd bg1 (row + n) (nI (a))) (upd sz1 (row + n) (nI (s0)))) := hD
              refine lv_iinc (v := (nI (n + 1))) (lv' := [(4, .int (nI (n + 1))), (6, .int (nI (s0))), (5, .int (nI (a))), (0, .ref (A 0)), (1, .int (nI (fr))), (2, .int (nI t1 - nI 1)), (3, .int (nI (row)))]) hx hb dX3_splits_69 hl (k := 2) rfl (nI_add _ _) (by decide) rfl (fun ls hl => ?_)
              refine lv_iload hx hb dX3_splits_72 (lv_at hl 2 rfl) ?_
              refine lv_iload hx hb dX3_splits_74 (lv_at hl 1 rfl) ?_
              refine nr_iadd hx hb dX3_splits_76 ?_
              refine lv_istore (lv' := [(5, .int (nI (a + s0))), (4, .int (nI (n + 1))), (6, .int (nI (s0))), (0, .ref (A 0)), (1, .int (nI (fr))), (2, .int (nI t1 - nI 1)), (3, .int (nI (row)))]) hx hb dX3_splits_77 hl (by decide) rfl (fun ls hl => ?_)
              refine lv_goto (tgt := 6) hx hb dX3_splits_79 (by decide) ?_
              exact ih_6 (n + 1) (a + s0) ((upd bg1 (row + n) (nI (a)))) ((upd sz1 (row + n) (nI (s0)))) (by rw [k2]; exact ⟨by omega, by rw [hcons, List.length_cons] at g1; omega⟩) (by rw [← List.drop_drop, g2, hcons, k2]; rfl) (by rw [g3, hbeg]; exact inF_s) (by rw [g4, k2, hsiz]; exact inF_s) (by have := szN_pos a t1; omega) _ _ hP hS ls (lv_sub hl [0, 1, 3, 4, 5, 6] rfl)
            · refine lv_iload hx hb dX3_splits_25 (lv_at hl 1 rfl) ?_
              refine lv_iconst (v := (nI (2))) hx hb dX3_splits_27 (by decide +kernel) ?_
              refine lv_iload hx hb dX3_splits_28 (lv_at hl 0 rfl) ?_
              refine nr_imul hx hb dX3_splits_30 ?_
              refine nr_iadd hx hb dX3_splits_31 ?_
              refine lv_iconst (v := (nI (1))) hx hb dX3_splits_32 (by decide +kernel) ?_
              refine nr_isub hx hb (by omega) dX3_splits_33 ?_
              refine lv_iload_n hx hb dX3_splits_34 rfl (lv_at hl 5 rfl) ?_
              refine lv_icmp_gt (tgt := 47) hx hb dX3_splits_35 (by decide) (fun c_35 => ?_) (fun c_35 => ?_)
              · have k2 : s0 = szN a t1 := by
                  rw [← k2]
                  have hk0 : k0 = (k0 - 1) + 1 := by omega
                  rw [hk0, szF, if_neg]
                  first
                  | exact fun z => absurd z.1 (Nat.ne_of_gt c_22)
                  | exact fun z => absurd ((nI_lts (k := t1) (b := (a + (2 * s0)) - 1) (by omega) (by omega)).mp c_35) (by omega)
                refine lv_aload_n hx hb dX3_splits_47 rfl (lv_at hl 3 rfl) ?_
                refine nr_get (C := RX3) (T := TX3) (N := 10) (ci := 3) S (fun _ h => List.mem_cons_of_mem _ (List.mem_append_right _ (h))) hK hP 0 rfl rfl 8 (by decide) (List.mem_of_getElem? (i := 1) rfl) rfl dX3_splits_48 ?_
                refine lv_iload_n hx hb dX3_splits_51 rfl (lv_at hl 6 rfl) ?_
                refine lv_iload hx hb dX3_splits_52 (lv_at hl 2 rfl) ?_
                refine nr_iadd hx hb dX3_splits_54 ?_
                refine lv_iload hx hb dX3_splits_55 (lv_at hl 1 rfl) ?_
                refine nr_iast (n := 24) (f := bg1) (x := (nI (a))) S hK hP hD hS 4 rfl (by omega) (by decide) dX3_splits_57 (fun H locs hP hD hS => ?_)
                have hP : va_P D aCl (wM Y A (th) (nI (rs.length)) (mi) (ju) (lo) f bf ca (upd bg1 (row + n) (nI (a))) sz1) H := hP
                have hD : va_D AA (wM Y A (th) (nI (rs.length)) (mi) (ju) (lo) f bf ca (upd bg1 (row + n) (nI (a))) sz1) := hD
                refine lv_aload_n hx hb dX3_splits_58 rfl (lv_at hl 3 rfl) ?_
                refine nr_get (C := RX3) (T := TX3) (N := 10) (ci := 3) S (fun _ h => List.mem_cons_of_mem _ (List.mem_append_right _ (h))) hK hP 0 rfl rfl 9 (by decide) (List.mem_of_getElem? (i := 2) rfl) rfl dX3_splits_59 ?_
                refine lv_iload_n hx hb dX3_splits_62 rfl (lv_at hl 6 rfl) ?_
                refine lv_iload hx hb dX3_splits_63 (lv_at hl 2 rfl) ?_
                refine nr_iadd hx hb dX3_splits_65 ?_
                refine lv_iload hx hb dX3_splits_66 (lv_at hl 0 rfl) ?_
                refine nr_iast (n := 24) (f := sz1) (x := (nI (s0))) S hK hP hD hS 5 rfl (by omega) (by decide) dX3_splits_68 (fun H locs hP hD hS => ?_)
                have hP : va_P D aCl (wM Y A (th) (nI (rs.length)) (mi) (ju) (lo) f bf ca (upd bg1 (row + n) (nI (a))) (upd sz1 (row + n) (nI (s0)))) H := hP
                have hD : va_D AA (wM Y A (th) (nI (rs.length)) (mi) (ju) (lo) f bf ca (upd bg1 (row + n) (nI (a))) (upd sz1 (row + n) (nI (s0)))) := hD
                refine lv_iinc (v := (nI (n + 1))) (lv' := [(4, .int (nI (n + 1))), (6, .int (nI (s0))), (5, .int (nI (a))), (0, .ref (A 0)), (1, .int (nI (fr))), (2, .int (nI t1 - nI 1)), (3, .int (nI (row)))]) hx hb dX3_splits_69 hl (k := 2) rfl (nI_add _ _) (by decide) rfl (fun ls hl => ?_)
                refine lv_iload hx hb dX3_splits_72 (lv_at hl 2 rfl) ?_
                refine lv_iload hx hb dX3_splits_74 (lv_at hl 1 rfl) ?_
                refine nr_iadd hx hb dX3_splits_76 ?_
                refine lv_istore (lv' := [(5, .int (nI (a + s0))), (4, .int (nI (n + 1))), (6, .int (nI (s0))), (0, .ref (A 0)), (1, .int (nI (fr))), (2, .int (nI t1 - nI 1)), (3, .int (nI (row)))]) hx hb dX3_splits_77 hl (by decide) rfl (fun ls hl => ?_)
                refine lv_goto (tgt := 6) hx hb dX3_splits_79 (by decide) ?_
                exact ih_6 (n + 1) (a + s0) ((upd bg1 (row + n) (nI (a)))) ((upd sz1 (row + n) (nI (s0)))) (by rw [k2]; exact ⟨by omega, by rw [hcons, List.length_cons] at g1; omega⟩) (by rw [← List.drop_drop, g2, hcons, k2]; rfl) (by rw [g3, hbeg]; exact inF_s) (by rw [g4, k2, hsiz]; exact inF_s) (by have := szN_pos a t1; omega) _ _ hP hS ls (lv_sub hl [0, 1, 3, 4, 5, 6] rfl)
              · have c_35 : a + (2 * s0) ≤ t1 := Nat.le_of_not_lt (fun z => c_35 ((nI_lts (by omega) (by omega)).mpr (by omega)))
                obtain ⟨k9, rfl⟩ : ∃ k9, k0 = k9 + 1 := ⟨k0 - 1, by omega⟩
                refine lv_iload hx hb dX3_splits_38 (lv_at hl 0 rfl) ?_
                refine lv_iconst (v := (nI (2))) hx hb dX3_splits_40 (by decide +kernel) ?_
                refine nr_imul hx hb dX3_splits_41 ?_
                refine lv_istore (lv' := [(6, .int (nI (s0 * 2))), (5, .int (nI (a))), (4, .int (nI (n))), (0, .ref (A 0)), (1, .int (nI (fr))), (2, .int (nI t1 - nI 1)), (3, .int (nI (row)))]) hx hb dX3_splits_42 hl (by decide) rfl (fun ls hl => ?_)
                refine lv_goto (tgt := 15) hx hb dX3_splits_44 (by decide) ?_
                exact ih_15 (s0 * 2) (k9) (by omega) ((szF_step c_22 c_35).symm.trans k2) (by omega) _ _ hP hS ls (lv_sub hl [0, 1, 2, 3, 4, 5, 6] rfl)
        exact loop_15 _ (1) (6) (by omega) (rfl) (Nat.lt_succ_self _) _ _ hP hS ls (lv_sub hl [0, 1, 2, 3, 4, 5, 6] rfl)
  exact loop_6 _ (0) (fr) (bg) (sz) (⟨by omega, Nat.zero_add _⟩) (rfl) ((inF_0 _ _ _).symm) ((inF_0 _ _ _).symm) (Nat.lt_succ_self _) _ _ hP hS ls (lv_sub hl [0, 1, 2, 3, 4, 5] rfl)
theorem k_splitsN (l : Launch) {D : va_G} {Y : Nat → ClassId} {A : Nat → Nat} {th mi ju lo : Int32} {f bf ca bg sz : Nat → Int32} {rs : List RV} {fr t row : Nat} (hfr : fr ≤ t + 1) (ht : t + 1 ≤ 32) (hrow : row + (Bk fr (t + 1)).length ≤ 24) : MuI l yX3_splits wsX3_splits 0 D Y [.ref (A 0), .int (nI fr), .int (nI t), .int (nI row)] (wM Y A (th) (nI (rs.length)) (mi) (ju) (lo) f bf ca bg sz) (va_P D aCl (wM Y A (th) (nI (rs.length)) (mi) (ju) (lo) f bf ca (inF bg (gB (Bk fr (t + 1))) row (Bk fr (t + 1)).length) (inF sz (gS (Bk fr (t + 1))) row (Bk fr (t + 1)).length))) (nI (Bk fr (t + 1)).length) := by
  have h := k_X3_splits l (D := D) (Y := Y) (A := A) (th := th) (mi := mi) (ju := ju) (lo := lo) (f := f) (bf := bf) (ca := ca) (bg := bg) (sz := sz) (rs := rs) hfr ht hrow
  rw [pk_sub (by omega), Nat.add_sub_cancel] at h
  exact h
set_option maxHeartbeats 4000000 in
set_option maxRecDepth 100000 in
theorem k_X3_sourceBlocks (l : Launch) {D : va_G} {Y : Nat → ClassId} {A : Nat → Nat} {th mi ju lo : Int32} {f bf ca bg sz : Nat → Int32} {rs : List RV}  (hf : mrep rs f) {i : Nat} (hi : i < rs.length) : MuI l yX3_sourceBlocks wsX3_sourceBlocks 2 D Y [.ref (A 0), .int (nI (i))] (wM Y A (th) (nI (rs.length)) (mi) (ju) (lo) f bf ca bg sz) (va_P D aCl (wM Y A (th) (nI (rs.length)) (mi) (ju) (lo) f bf ca (inF bg (gB (bS (gt rs i))) 0 (bS (gt rs i)).length) (inF sz (gS (bS (gt rs i))) 0 (bS (gt rs i)).length))) (nI (bS (gt rs i)).length) := by
  refine MuI.start (cc := cX3_sourceBlocks) (maxL := 2) (rt := .int) (by decide) rfl (Nat.le_of_ble_eq_true rfl) ?_
  intro p e s m args below meth c ls AA H0 H locs Q S hK hP hD hS hl hE
  have S : CallFix p m c cX3_sourceBlocks 2 s args wsX3_sourceBlocks RX3 := S
  have hx := S.1
  have hb := S.2.1
  have hts := S.2.2.2.2
  have hl : lv_has ls 2 [(0, .ref (A 0)), (1, .int (nI (i)))] := hl
  have ho := hf.1.2 i hi
  have hn := hf.1.1
  refine lv_aload_n hx hb dX3_sourceBlocks_0 rfl (lv_at hl 0 rfl) ?_
  refine lv_aload_n hx hb dX3_sourceBlocks_1 rfl (lv_at hl 0 rfl) ?_
  refine lv_iload_n hx hb dX3_sourceBlocks_2 rfl (lv_at hl 1 rfl) ?_
  refine lv_iconst (v := (nI (0))) hx hb dX3_sourceBlocks_3 (by decide +kernel) ?_
  refine Rd.callV (r := (nI (sF (gt rs (i))))) (As := [.int (nI (i)), .int (nI (0))]) S (k_ofR l hP hf (i := i) (w := 0) (by omega) (by omega)) (cwV 2 hts gX3_sourceBlocks_X3_of rfl rfl rfl (by decide +kernel) ⟨Nat.le_of_ble_eq_true rfl, Nat.le_of_ble_eq_true rfl⟩) hK (va_recv hK.1 hP (ci := 3) (q0 := 0) rfl rfl) rfl hl.1 rfl (Nat.le_of_ble_eq_true rfl) dX3_sourceBlocks_4 ⟨Nat.zero_le _, Nat.zero_le _⟩ ?_
  refine lv_aload_n hx hb dX3_sourceBlocks_7 rfl (lv_at hl 0 rfl) ?_
  refine lv_iload_n hx hb dX3_sourceBlocks_8 rfl (lv_at hl 1 rfl) ?_
  refine lv_iconst (v := (nI (1))) hx hb dX3_sourceBlocks_9 (by decide +kernel) ?_
  refine Rd.callV (r := (nI (sT (gt rs (i))))) (As := [.int (nI (i)), .int (nI (1))]) S (k_ofR l hP hf (i := i) (w := 1) (by omega) (by omega)) (cwV 2 hts gX3_sourceBlocks_X3_of rfl rfl rfl (by decide +kernel) ⟨Nat.le_of_ble_eq_true rfl, Nat.le_of_ble_eq_true rfl⟩) hK (va_recv hK.1 hP (ci := 3) (q0 := 0) rfl rfl) rfl hl.1 rfl (Nat.le_of_ble_eq_true rfl) dX3_sourceBlocks_10 ⟨Nat.zero_le _, Nat.zero_le _⟩ ?_
  refine lv_iconst (v := (nI (0))) hx hb dX3_sourceBlocks_13 (by decide +kernel) ?_
  refine MuI.callV (r := (nI ((bS (gt rs i)).length))) (As := [.int (nI (sF (gt rs (i)))), .int (nI (sT (gt rs (i)))), .int (nI (0))]) S (k_splitsN l (fr := _) (t := _) (row := 0) (by unfold rvOk at ho; omega) (by unfold rvOk at ho; omega) (by have := bS_len ho; unfold bS at this; omega)) (cwV 3 hts gX3_sourceBlocks_X3_splits rfl rfl rfl (by decide +kernel) ⟨Nat.le_of_ble_eq_true rfl, Nat.le_of_ble_eq_true rfl⟩) hK hP hD hS (va_recv hK.1 hP (ci := 3) (q0 := 0) rfl rfl) rfl hl.1 rfl (Nat.le_of_ble_eq_true rfl) dX3_sourceBlocks_14 ⟨Nat.zero_le _, Nat.zero_le _⟩ (fun H locs hB hS _ hkp => ?_)
  have hP : va_P D aCl (wM Y A (th) (nI (rs.length)) (mi) (ju) (lo) f bf ca (inF bg (gB (bS (gt rs i))) 0 (bS (gt rs i)).length) (inF sz (gS (bS (gt rs i))) 0 (bS (gt rs i)).length)) H := hB
  have hD : va_D AA (wM Y A (th) (nI (rs.length)) (mi) (ju) (lo) f bf ca (inF bg (gB (bS (gt rs i))) 0 (bS (gt rs i)).length) (inF sz (gS (bS (gt rs i))) 0 (bS (gt rs i)).length)) := va_D.same hD rfl
  exact hE _ _ _ _ _ dX3_sourceBlocks_17 (vp_nar_int _) (rfl) (hP) hS
set_option maxHeartbeats 4000000 in
set_option maxRecDepth 100000 in
theorem k_X3_destinationBlocks (l : Launch) {D : va_G} {Y : Nat → ClassId} {A : Nat → Nat} {th mi ju lo : Int32} {f bf ca bg sz : Nat → Int32} {rs : List RV}  (hf : mrep rs f) {i : Nat} (hi : i < rs.length) : MuI l yX3_destinationBlocks wsX3_destinationBlocks 2 D Y [.ref (A 0), .int (nI (i))] (wM Y A (th) (nI (rs.length)) (mi) (ju) (lo) f bf ca bg sz) (va_P D aCl (wM Y A (th) (nI (rs.length)) (mi) (ju) (lo) f bf ca (inF bg (gB (bD (gt rs i))) 8 (bD (gt rs i)).length) (inF sz (gS (bD (gt rs i))) 8 (bD (gt rs i)).length))) (nI (bD (gt rs i)).length) := by
  refine MuI.start (cc := cX3_destinationBlocks) (maxL := 2) (rt := .int) (by decide) rfl (Nat.le_of_ble_eq_true rfl) ?_
  intro p e s m args below meth c ls AA H0 H locs Q S hK hP hD hS hl hE
  have S : CallFix p m c cX3_destinationBlocks 2 s args wsX3_destinationBlocks RX3 := S
  have hx := S.1
  have hb := S.2.1
  have hts := S.2.2.2.2
  have hl : lv_has ls 2 [(0, .ref (A 0)), (1, .int (nI (i)))] := hl
  have ho := hf.1.2 i hi
  have hn := hf.1.1
  refine lv_aload_n hx hb dX3_destinationBlocks_0 rfl (lv_at hl 0 rfl) ?_
  refine lv_aload_n hx hb dX3_destinationBlocks_1 rfl (lv_at hl 0 rfl) ?_
  refine lv_iload_n hx hb dX3_destinationBlocks_2 rfl (lv_at hl 1 rfl) ?_
  refine lv_iconst (v := (nI (2))) hx hb dX3_destinationBlocks_3 (by decide +kernel) ?_
  refine Rd.callV (r := (nI (dF (gt rs (i))))) (As := [.int (nI (i)), .int (nI (2))]) S (k_ofR l hP hf (i := i) (w := 2) (by omega) (by omega)) (cwV 2 hts gX3_destinationBlocks_X3_of rfl rfl rfl (by decide +kernel) ⟨Nat.le_of_ble_eq_true rfl, Nat.le_of_ble_eq_true rfl⟩) hK (va_recv hK.1 hP (ci := 3) (q0 := 0) rfl rfl) rfl hl.1 rfl (Nat.le_of_ble_eq_true rfl) dX3_destinationBlocks_4 ⟨Nat.zero_le _, Nat.zero_le _⟩ ?_
  refine lv_aload_n hx hb dX3_destinationBlocks_7 rfl (lv_at hl 0 rfl) ?_
  refine lv_iload_n hx hb dX3_destinationBlocks_8 rfl (lv_at hl 1 rfl) ?_
  refine lv_iconst (v := (nI (3))) hx hb dX3_destinationBlocks_9 (by decide +kernel) ?_
  refine Rd.callV (r := (nI (dT (gt rs (i))))) (As := [.int (nI (i)), .int (nI (3))]) S (k_ofR l hP hf (i := i) (w := 3) (by omega) (by omega)) (cwV 2 hts gX3_destinationBlocks_X3_of rfl rfl rfl (by decide +kernel) ⟨Nat.le_of_ble_eq_true rfl, Nat.le_of_ble_eq_true rfl⟩) hK (va_recv hK.1 hP (ci := 3) (q0 := 0) rfl rfl) rfl hl.1 rfl (Nat.le_of_ble_eq_true rfl) dX3_destinationBlocks_10 ⟨Nat.zero_le _, Nat.zero_le _⟩ ?_
  refine lv_bipush (v := (nI (8))) hx hb dX3_destinationBlocks_13 (by decide +kernel) ?_
  refine MuI.callV (r := (nI ((bD (gt rs i)).length))) (As := [.int (nI (dF (gt rs (i)))), .int (nI (dT (gt rs (i)))), .int (nI (8))]) S (k_splitsN l (fr := _) (t := _) (row := 8) (by unfold rvOk at ho; omega) (by unfold rvOk at ho; omega) (by have := bD_len ho; unfold bD at this; omega)) (cwV 3 hts gX3_destinationBlocks_X3_splits rfl rfl rfl (by decide +kernel) ⟨Nat.le_of_ble_eq_true rfl, Nat.le_of_ble_eq_true rfl⟩) hK hP hD hS (va_recv hK.1 hP (ci := 3) (q0 := 0) rfl rfl) rfl hl.1 rfl (Nat.le_of_ble_eq_true rfl) dX3_destinationBlocks_15 ⟨Nat.zero_le _, Nat.zero_le _⟩ (fun H locs hB hS _ hkp => ?_)
  have hP : va_P D aCl (wM Y A (th) (nI (rs.length)) (mi) (ju) (lo) f bf ca (inF bg (gB (bD (gt rs i))) 8 (bD (gt rs i)).length) (inF sz (gS (bD (gt rs i))) 8 (bD (gt rs i)).length)) H := hB
  have hD : va_D AA (wM Y A (th) (nI (rs.length)) (mi) (ju) (lo) f bf ca (inF bg (gB (bD (gt rs i))) 8 (bD (gt rs i)).length) (inF sz (gS (bD (gt rs i))) 8 (bD (gt rs i)).length)) := va_D.same hD rfl
  exact hE _ _ _ _ _ dX3_destinationBlocks_18 (vp_nar_int _) (rfl) (hP) hS
set_option maxHeartbeats 4000000 in
set_option maxRecDepth 100000 in
theorem k_X3_splitsSet (l : Launch) {D : va_G} {Y : Nat → ClassId} {A : Nat → Nat} {th mi ju lo : Int32} {f bf ca bg sz : Nat → Int32} {rs : List RV}  {pr : Nat} (hpr : pr ≤ 15) : MuI l yX3_splitsSet wsX3_splitsSet 1 D Y [.ref (A 0), .int (nI (pr))] (wM Y A (th) (nI (rs.length)) (mi) (ju) (lo) f bf ca bg sz) (va_P D aCl (wM Y A (th) (nI (rs.length)) (mi) (ju) (lo) f bf ca (inF bg (gB (Pb pr)) 16 (Pb pr).length) (inF sz (gS (Pb pr)) 16 (Pb pr).length))) (nI (Pb pr).length) := by
  refine MuI.start (cc := cX3_splitsSet) (maxL := 5) (rt := .int) (by decide) rfl (Nat.le_of_ble_eq_true rfl) ?_
  intro p e s m args below meth c ls AA H0 H locs Q S hK hP hD hS hl hE
  have S : CallFix p m c cX3_splitsSet 5 s args wsX3_splitsSet RX3 := S
  have hx := S.1
  have hb := S.2.1
  have hts := S.2.2.2.2
  have hl : lv_has ls 5 [(0, .ref (A 0)), (1, .int (nI (pr)))] := hl
  refine lv_iconst (v := (nI (0))) hx hb dX3_splitsSet_0 (by decide +kernel) ?_
  refine lv_istore_n (lv' := [(2, .int (nI (0))), (0, .ref (A 0)), (1, .int (nI (pr)))]) hx hb dX3_splitsSet_1 rfl hl (by decide) rfl (fun ls hl => ?_)
  refine lv_iconst (v := (nI (0))) hx hb dX3_splitsSet_2 (by decide +kernel) ?_
  refine lv_istore_n (lv' := [(3, .int (nI (0))), (2, .int (nI (0))), (0, .ref (A 0)), (1, .int (nI (pr)))]) hx hb dX3_splitsSet_3 rfl hl (by decide) rfl (fun ls hl => ?_)
  have loop_4 : ∀ (fu_4 : Nat) (n : Nat) (a : Nat) (k0 : Nat) (bg1 : Nat → Int32) (sz1 : Nat → Int32), (4 ≤ a + k0 ∧ n ≤ (Pb pr).length ∧ a ≤ 5) → ((Pb pr).drop n = PbF k0 pr a) → (bg1 = inF bg (gB (Pb pr)) 16 n) → (sz1 = inF sz (gS (Pb pr)) 16 n) → 5 - a < fu_4 → ∀ (H : Heap) (locs : List Loc), va_P D aCl (wM Y A (th) (nI (rs.length)) (mi) (ju) (lo) f bf ca bg1 sz1) H → va_S AA H0 H locs → ∀ ls : Array Slot, lv_has ls 5 [(3, .int (nI (a))), (2, .int (nI (n))), (0, .ref (A 0)), (1, .int (nI (pr)))] → W p l e (rmN 1) s m args below meth c H locs 0 0 Q (F0 m 4 ls []) := by
    intro fu_4
    induction fu_4 with
    | zero => exact fun n a k0 bg1 sz1 _ _ _ _ hk => absurd hk (Nat.not_lt_zero _)
    | succ fu_4 ih_4 =>
      intro n a k0 bg1 sz1 g1 g2 g3 g4 hk_4 H locs hP hS ls hl
      have hD : va_D AA (wM Y A (th) (nI (rs.length)) (mi) (ju) (lo) f bf ca bg1 sz1) := va_D.same hD rfl
      refine lv_iload_n hx hb dX3_splitsSet_4 rfl (lv_at hl 0 rfl) ?_
      refine lv_iconst (v := (nI (4))) hx hb dX3_splitsSet_5 (by decide +kernel) ?_
      refine nr_icmp_ge (tgt := 52) hx hb (by omega) (by omega) dX3_splitsSet_6 (by decide) (fun c_6 => ?_) (fun c_6 => ?_)
      · have hnl : n = (Pb pr).length := by rw [PbF_stop c_6] at g2; have := congrArg List.length g2; rw [List.length_drop] at this; simp at this; omega
        rw [hnl] at g3 g4
        subst g3 g4
        refine lv_iload_n hx hb dX3_splitsSet_52 rfl (lv_at hl 1 rfl) ?_
        exact hE _ _ _ _ _ dX3_splitsSet_53 (vp_nar_int _) (congrArg nI hnl) (hP) hS
      · refine lv_iload_n hx hb dX3_splitsSet_9 rfl (lv_at hl 0 rfl) ?_
        refine lv_istore (lv' := [(4, .int (nI (a))), (3, .int (nI (a))), (2, .int (nI (n))), (0, .ref (A 0)), (1, .int (nI (pr)))]) hx hb dX3_splitsSet_10 hl (by decide) rfl (fun ls hl => ?_)
        have loop_12 : ∀ (fu_12 : Nat) (to : Nat) (k1 : Nat), (a ≤ to ∧ to ≤ 4 ∧ to + k1 = a + 5) → (reF k1 pr to = reN pr a) → 5 - to < fu_12 → ∀ (H : Heap) (locs : List Loc), va_P D aCl (wM Y A (th) (nI (rs.length)) (mi) (ju) (lo) f bf ca bg1 sz1) H → va_S AA H0 H locs → ∀ ls : Array Slot, lv_has ls 5 [(4, .int (nI (to))), (3, .int (nI (a))), (2, .int (nI (n))), (0, .ref (A 0)), (1, .int (nI (pr)))] → W p l e (rmN 1) s m args below meth c H locs 0 0 Q (F0 m 12 ls []) := by
          intro fu_12
          induction fu_12 with
          | zero => exact fun to k1 _ _ hk => absurd hk (Nat.not_lt_zero _)
          | succ fu_12 ih_12 =>
            intro to k1 e1 e2 hk_12 H locs hP hS ls hl
            have hD : va_D AA (wM Y A (th) (nI (rs.length)) (mi) (ju) (lo) f bf ca bg1 sz1) := va_D.same hD rfl
            refine lv_iload_n hx hb dX3_splitsSet_12 rfl (lv_at hl 4 rfl) ?_
            refine lv_iload hx hb dX3_splitsSet_13 (lv_at hl 0 rfl) ?_
            refine lv_ishr hx hb dX3_splitsSet_15 ?_
            refine lv_iconst (v := (nI (1))) hx hb dX3_splitsSet_16 (by decide +kernel) ?_
            refine lv_iand hx hb dX3_splitsSet_17 ?_
            refine lv_iconst (v := (nI (1))) hx hb dX3_splitsSet_18 (by decide +kernel) ?_
            refine lv_icmp_ne (tgt := 28) hx hb dX3_splitsSet_19 (by decide) (fun c_19 => ?_) (fun c_19 => ?_)
            · obtain ⟨k2, rfl⟩ : ∃ k2, k1 = k2 + 1 := ⟨k1 - 1, by omega⟩
              have htor : reN pr a = to := by rw [← e2]; exact reF_stop (holI_f c_19)
              obtain ⟨k9, rfl⟩ : ∃ k9, k0 = k9 + 1 := ⟨k0 - 1, by omega⟩
              have hdl : ((Pb pr).drop n).length = (Bk a to).length + (PbF k9 pr (to + 1)).length := by rw [g2, PbF_go c_6, htor, List.length_append]
              rw [List.length_drop] at hdl
              have hpl2 := Pb_len pr hpr
              have hcB : ∀ j, j < (Bk a to).length → gB (Bk a to) j = gB (Pb pr) (n + j) := fun j hj => by unfold gB; rw [← bkB_drop, g2, PbF_go c_6, htor, bkB_app hj]
              have hcS : ∀ j, j < (Bk a to).length → gS (Bk a to) j = gS (Pb pr) (n + j) := fun j hj => by unfold gS; rw [← bkS_drop, g2, PbF_go c_6, htor, bkS_app hj]
              refine lv_iload_n hx hb dX3_splitsSet_28 rfl (lv_at hl 2 rfl) ?_
              refine lv_aload_n hx hb dX3_splitsSet_29 rfl (lv_at hl 3 rfl) ?_
              refine lv_iload_n hx hb dX3_splitsSet_30 rfl (lv_at hl 1 rfl) ?_
              refine lv_iload hx hb dX3_splitsSet_31 (lv_at hl 0 rfl) ?_
              refine lv_iconst (v := (nI (1))) hx hb dX3_splitsSet_33 (by decide +kernel) ?_
              refine lv_isub hx hb dX3_splitsSet_34 ?_
              refine lv_bipush (v := (nI (16))) hx hb dX3_splitsSet_35 (by decide +kernel) ?_
              refine lv_iload_n hx hb dX3_splitsSet_37 rfl (lv_at hl 2 rfl) ?_
              refine nr_iadd hx hb dX3_splitsSet_38 ?_
              refine MuI.callV (r := (nI ((Bk a to).length))) (As := [.int (nI (a)), .int (((nI (to)) - (nI (1)))), .int (nI (16 + n))]) S (k_X3_splits l (fr := a) (t1 := to) (row := 16 + n) (by omega) (by omega) (by omega)) (cwV 3 hts gX3_splitsSet_X3_splits rfl rfl rfl (by decide +kernel) ⟨Nat.le_of_ble_eq_true rfl, Nat.le_of_ble_eq_true rfl⟩) hK hP hD hS (va_recv hK.1 hP (ci := 3) (q0 := 0) rfl rfl) rfl hl.1 rfl (Nat.le_of_ble_eq_true rfl) dX3_splitsSet_39 ⟨Nat.zero_le _, Nat.zero_le _⟩ (fun H locs hB hS _ hkp => ?_)
              have hP : va_P D aCl (wM Y A (th) (nI (rs.length)) (mi) (ju) (lo) f bf ca (inF bg1 (gB (Bk a to)) (16 + n) (Bk a to).length) (inF sz1 (gS (Bk a to)) (16 + n) (Bk a to).length)) H := hB
              have hD : va_D AA (wM Y A (th) (nI (rs.length)) (mi) (ju) (lo) f bf ca (inF bg1 (gB (Bk a to)) (16 + n) (Bk a to).length) (inF sz1 (gS (Bk a to)) (16 + n) (Bk a to).length)) := va_D.same hD rfl
              refine nr_iadd hx hb dX3_splitsSet_42 ?_
              refine lv_istore_n (lv' := [(2, .int (nI (n + ((Bk a to).length)))), (4, .int (nI (to))), (3, .int (nI (a))), (0, .ref (A 0)), (1, .int (nI (pr)))]) hx hb dX3_splitsSet_43 rfl hl (by decide) rfl (fun ls hl => ?_)
              refine lv_iload hx hb dX3_splitsSet_44 (lv_at hl 1 rfl) ?_
              refine lv_iconst (v := (nI (1))) hx hb dX3_splitsSet_46 (by decide +kernel) ?_
              refine nr_iadd hx hb dX3_splitsSet_47 ?_
              refine lv_istore_n (lv' := [(3, .int (nI (to + 1))), (2, .int (nI (n + ((Bk a to).length)))), (4, .int (nI (to))), (0, .ref (A 0)), (1, .int (nI (pr)))]) hx hb dX3_splitsSet_48 rfl hl (by decide) rfl (fun ls hl => ?_)
              refine lv_goto (tgt := 4) hx hb dX3_splitsSet_49 (by decide) ?_
              exact ih_4 (n + ((Bk a to).length)) (to + 1) (k9) ((inF bg1 (gB (Bk a to)) (16 + n) (Bk a to).length)) ((inF sz1 (gS (Bk a to)) (16 + n) (Bk a to).length)) (by omega) (by rw [← List.drop_drop, g2, PbF_go c_6, htor, List.drop_left]) (by rw [g3]; exact inF_cat hcB) (by rw [g4]; exact inF_cat hcS) (by omega) _ _ hP hS ls (lv_sub hl [0, 1, 3, 4] rfl)
            · have h4 : to ≠ 4 := fun z => by rw [z] at c_19; have h9 := hol_4 pr hpr; rw [show hol pr 4 = true from holI_t c_19] at h9; cases h9
              obtain ⟨k2, rfl⟩ : ∃ k2, k1 = k2 + 1 := ⟨k1 - 1, by omega⟩
              refine lv_iinc (v := (nI (to + 1))) (lv' := [(4, .int (nI (to + 1))), (3, .int (nI (a))), (2, .int (nI (n))), (0, .ref (A 0)), (1, .int (nI (pr)))]) hx hb dX3_splitsSet_22 hl (k := 0) rfl (nI_add _ _) (by decide) rfl (fun ls hl => ?_)
              refine lv_goto (tgt := 12) hx hb dX3_splitsSet_25 (by decide) ?_
              exact ih_12 (to + 1) (k2) (by omega) ((reF_go (holI_t c_19)).symm.trans e2) (by omega) _ _ hP hS ls (lv_sub hl [0, 1, 2, 3, 4] rfl)
        exact loop_12 _ (a) (5) (by omega) (rfl) (Nat.lt_succ_self _) _ _ hP hS ls (lv_sub hl [0, 1, 2, 3, 4] rfl)
  exact loop_4 _ (0) (0) (4) (bg) (sz) (by omega) (rfl) ((inF_0 _ _ _).symm) ((inF_0 _ _ _).symm) (Nat.lt_succ_self _) _ _ hP hS ls (lv_sub hl [0, 1, 2, 3] rfl)
