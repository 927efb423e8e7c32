/-! the reference's entries -/
/-- the reference holds these rules; its rows of blocks hold the rule r's -/
def bkW (D : va_G) (Y : Nat → ClassId) (A : Nat → Nat) (th mi ju lo : Int32) (f bf ca : Nat → Int32) (rs : List RV) (r : RV) : Heap → Prop := fun H => ∃ bg sz : Nat → Int32, brep r bg sz ∧ va_P D aCl (wM Y A th (nI rs.length) mi ju lo f bf ca bg sz) H
set_option maxHeartbeats 4000000 in
set_option maxRecDepth 100000 in
theorem k_X3_split (l : Launch) {D : va_G} {Y : Nat → ClassId} {A : Nat → Nat} {th mi ju lo : Int32} {f bf ca bg sz : Nat → Int32} {rs : List RV}  (hf : mrep rs f) {i : Nat} (hi : i < rs.length) : MuI l yX3_split wsX3_split 3 D Y [.ref (A 0), .int (nI (i))] (wM Y A (th) (nI (rs.length)) (mi) (ju) (lo) f bf ca bg sz) (bkW D Y A th mi ju lo f bf ca rs (gt rs i)) (nI (enN (gt rs i))) := by
  refine MuI.start (cc := cX3_split) (maxL := 2) (rt := .int) (by decide) rfl (Nat.le_of_ble_eq_true rfl) ?_
  intro p e s m args below meth c ls AA H0 H locs Q S hK hP hD hS hl hE
  have S : CallFix p m c cX3_split 2 s args wsX3_split RX3 := S
  have hx := S.1
  have hb := S.2.1
  have hts := S.2.2.2.2
  have hl : lv_has ls 2 [(0, .ref (A 0)), (1, .int (nI (i)))] := hl
  have ho := hf.1.2 i hi
  have hn := hf.1.1
  refine lv_aload_n hx hb dX3_split_0 rfl (lv_at hl 0 rfl) ?_
  refine lv_iload_n hx hb dX3_split_1 rfl (lv_at hl 1 rfl) ?_
  refine MuI.callV (r := (nI ((bS (gt rs (i))).length))) (As := [.int (nI (i))]) S (k_X3_sourceBlocks l hf (i := i) (by omega)) (cwV 1 hts gX3_split_X3_sourceBlocks rfl rfl rfl (by decide +kernel) ⟨Nat.le_of_ble_eq_true rfl, Nat.le_of_ble_eq_true rfl⟩) hK hP hD hS (va_recv hK.1 hP (ci := 3) (q0 := 0) rfl rfl) rfl hl.1 rfl (Nat.le_of_ble_eq_true rfl) dX3_split_2 ⟨Nat.zero_le _, Nat.zero_le _⟩ (fun H locs hB hS _ hkp => ?_)
  have hP : va_P D aCl (wM Y A (th) (nI (rs.length)) (mi) (ju) (lo) f bf ca (inF bg (gB (bS (gt rs (i)))) 0 (bS (gt rs (i))).length) (inF sz (gS (bS (gt rs (i)))) 0 (bS (gt rs (i))).length)) H := hB
  have hD : va_D AA (wM Y A (th) (nI (rs.length)) (mi) (ju) (lo) f bf ca (inF bg (gB (bS (gt rs (i)))) 0 (bS (gt rs (i))).length) (inF sz (gS (bS (gt rs (i)))) 0 (bS (gt rs (i))).length)) := va_D.same hD rfl
  refine lv_aload_n hx hb dX3_split_5 rfl (lv_at hl 0 rfl) ?_
  refine lv_iload_n hx hb dX3_split_6 rfl (lv_at hl 1 rfl) ?_
  refine MuI.callV (r := (nI ((bD (gt rs (i))).length))) (As := [.int (nI (i))]) S (k_X3_destinationBlocks l hf (i := i) (by omega)) (cwV 1 hts gX3_split_X3_destinationBlocks rfl rfl rfl (by decide +kernel) ⟨Nat.le_of_ble_eq_true rfl, Nat.le_of_ble_eq_true rfl⟩) hK hP hD hS (va_recv hK.1 hP (ci := 3) (q0 := 0) rfl rfl) rfl hl.1 rfl (Nat.le_of_ble_eq_true rfl) dX3_split_7 ⟨Nat.zero_le _, Nat.zero_le _⟩ (fun H locs hB hS _ hkp => ?_)
  have hP : va_P D aCl (wM Y A (th) (nI (rs.length)) (mi) (ju) (lo) f bf ca (inF (inF bg (gB (bS (gt rs (i)))) 0 (bS (gt rs (i))).length) (gB (bD (gt rs (i)))) 8 (bD (gt rs (i))).length) (inF (inF sz (gS (bS (gt rs (i)))) 0 (bS (gt rs (i))).length) (gS (bD (gt rs (i)))) 8 (bD (gt rs (i))).length)) H := hB
  have hD : va_D AA (wM Y A (th) (nI (rs.length)) (mi) (ju) (lo) f bf ca (inF (inF bg (gB (bS (gt rs (i)))) 0 (bS (gt rs (i))).length) (gB (bD (gt rs (i)))) 8 (bD (gt rs (i))).length) (inF (inF sz (gS (bS (gt rs (i)))) 0 (bS (gt rs (i))).length) (gS (bD (gt rs (i)))) 8 (bD (gt rs (i))).length)) := va_D.same hD rfl
  refine nr_imul hx hb dX3_split_10 ?_
  refine lv_aload_n hx hb dX3_split_11 rfl (lv_at hl 0 rfl) ?_
  refine lv_aload_n hx hb dX3_split_12 rfl (lv_at hl 0 rfl) ?_
  refine lv_iload_n hx hb dX3_split_13 rfl (lv_at hl 1 rfl) ?_
  refine lv_iconst (v := (nI (4))) hx hb dX3_split_14 (by decide +kernel) ?_
  refine Rd.callV (r := (nI (pR (gt rs (i))))) (As := [.int (nI (i)), .int (nI (4))]) S (k_ofR l hP hf (i := i) (w := 4) (by omega) (by omega)) (cwV 2 hts gX3_split_X3_of rfl rfl rfl (by decide +kernel) ⟨Nat.le_of_ble_eq_true rfl, Nat.le_of_ble_eq_true rfl⟩) hK (va_recv hK.1 hP (ci := 3) (q0 := 0) rfl rfl) rfl hl.1 rfl (Nat.le_of_ble_eq_true rfl) dX3_split_15 ⟨Nat.zero_le _, Nat.zero_le _⟩ ?_
  refine MuI.callV (r := (nI ((bP (gt rs i)).length))) (As := [.int (nI (pR (gt rs (i))))]) S (k_X3_splitsSet l (pr := pR (gt rs (i))) (by unfold rvOk at ho; omega)) (cwV 1 hts gX3_split_X3_splitsSet rfl rfl rfl (by decide +kernel) ⟨Nat.le_of_ble_eq_true rfl, Nat.le_of_ble_eq_true rfl⟩) hK hP hD hS (va_recv hK.1 hP (ci := 3) (q0 := 0) rfl rfl) rfl hl.1 rfl (Nat.le_of_ble_eq_true rfl) dX3_split_18 ⟨Nat.zero_le _, Nat.zero_le _⟩ (fun H locs hB hS _ hkp => ?_)
  have hP : va_P D aCl (wM Y A (th) (nI (rs.length)) (mi) (ju) (lo) f bf ca (inF (inF (inF bg (gB (bS (gt rs (i)))) 0 (bS (gt rs (i))).length) (gB (bD (gt rs (i)))) 8 (bD (gt rs (i))).length) (gB (bP (gt rs i))) 16 (bP (gt rs i)).length) (inF (inF (inF sz (gS (bS (gt rs (i)))) 0 (bS (gt rs (i))).length) (gS (bD (gt rs (i)))) 8 (bD (gt rs (i))).length) (gS (bP (gt rs i))) 16 (bP (gt rs i)).length)) H := hB
  have hD : va_D AA (wM Y A (th) (nI (rs.length)) (mi) (ju) (lo) f bf ca (inF (inF (inF bg (gB (bS (gt rs (i)))) 0 (bS (gt rs (i))).length) (gB (bD (gt rs (i)))) 8 (bD (gt rs (i))).length) (gB (bP (gt rs i))) 16 (bP (gt rs i)).length) (inF (inF (inF sz (gS (bS (gt rs (i)))) 0 (bS (gt rs (i))).length) (gS (bD (gt rs (i)))) 8 (bD (gt rs (i))).length) (gS (bP (gt rs i))) 16 (bP (gt rs i)).length)) := va_D.same hD rfl
  refine nr_imul hx hb dX3_split_21 ?_
  exact hE _ _ _ _ _ dX3_split_22 (vp_nar_int _) (rfl) (⟨_, _, brep_make ho, hP⟩) hS
set_option maxHeartbeats 4000000 in
set_option maxRecDepth 100000 in
theorem k_X3_entries (l : Launch) {D : va_G} {Y : Nat → ClassId} {A : Nat → Nat} {th mi ju lo : Int32} {f bf ca bg sz : Nat → Int32} {rs : List RV}  (hf : mrep rs f) {i : Nat} (hi : i < rs.length) : MuI l yX3_entries wsX3_entries 4 D Y [.ref (A 0), .int (nI (i))] (wM Y A (th) (nI (rs.length)) (mi) (ju) (lo) f bf ca bg sz) (mdB D Y A (nI 0) (mi) (ju) (lo) (rs)) (nI (enN (gt rs i))) := by
  refine MuI.start (cc := cX3_entries) (maxL := 2) (rt := .int) (by decide) rfl (Nat.le_of_ble_eq_true rfl) ?_
  intro p e s m args below meth c ls AA H0 H locs Q S hK hP hD hS hl hE
  have S : CallFix p m c cX3_entries 2 s args wsX3_entries RX3 := S
  have hx := S.1
  have hb := S.2.1
  have hts := S.2.2.2.2
  have hl : lv_has ls 2 [(0, .ref (A 0)), (1, .int (nI (i)))] := hl
  have hn := hf.1.1
  refine lv_aload_n hx hb dX3_entries_0 rfl (lv_at hl 0 rfl) ?_
  refine lv_aload_n hx hb dX3_entries_1 rfl (lv_at hl 0 rfl) ?_
  refine lv_iload_n hx hb dX3_entries_2 rfl (lv_at hl 1 rfl) ?_
  refine Rd.callV (r := (nI (1))) (As := [.int (nI (i))]) S (k_isPl1 l hP hn (i := i) (by omega)) (cwV 1 hts gX3_entries_X3_isPlace rfl rfl rfl (by decide +kernel) ⟨Nat.le_of_ble_eq_true rfl, Nat.le_of_ble_eq_true rfl⟩) hK (va_recv hK.1 hP (ci := 3) (q0 := 0) rfl rfl) rfl hl.1 rfl (Nat.le_of_ble_eq_true rfl) dX3_entries_3 ⟨Nat.zero_le _, Nat.zero_le _⟩ ?_
  refine nr_if_eq (tgt := 13) hx hb (by omega) dX3_entries_6 (by decide) (fun c_6 => absurd c_6 (by decide)) (fun c_6 => ?_)
  refine lv_iconst (v := (nI (0))) hx hb dX3_entries_9 (by decide +kernel) ?_
  refine lv_goto (tgt := 14) hx hb dX3_entries_10 (by decide) ?_
  refine MuI.callV (r := (nI (1))) (As := [.int (nI (0))]) S (k_holds0 l) (cwV 1 hts gX3_entries_X3_holds rfl rfl rfl (by decide +kernel) ⟨Nat.le_of_ble_eq_true rfl, Nat.le_of_ble_eq_true rfl⟩) hK hP hD hS (va_recv hK.1 hP (ci := 3) (q0 := 0) rfl rfl) rfl hl.1 rfl (Nat.le_of_ble_eq_true rfl) dX3_entries_14 ⟨Nat.zero_le _, Nat.zero_le _⟩ (fun H locs hB hS _ hkp => ?_)
  have hP : va_P D aCl (wM Y A (nI (0)) (nI (rs.length)) (mi) (ju) (lo) f bf ca bg sz) H := hB
  have hD : va_D AA (wM Y A (nI (0)) (nI (rs.length)) (mi) (ju) (lo) f bf ca bg sz) := va_D.same hD rfl
  refine nr_if_eq (tgt := 28) hx hb (by omega) dX3_entries_17 (by decide) (fun c_17 => absurd c_17 (by decide)) (fun c_17 => ?_)
  refine lv_aload_n hx hb dX3_entries_20 rfl (lv_at hl 0 rfl) ?_
  refine lv_iload_n hx hb dX3_entries_21 rfl (lv_at hl 1 rfl) ?_
  refine MuI.callV (r := (nI (enN (gt rs (i))))) (As := [.int (nI (i))]) S (k_X3_split l hf (i := i) (by omega)) (cwV 1 hts gX3_entries_X3_split rfl rfl rfl (by decide +kernel) ⟨Nat.le_of_ble_eq_true rfl, Nat.le_of_ble_eq_true rfl⟩) hK hP hD hS (va_recv hK.1 hP (ci := 3) (q0 := 0) rfl rfl) rfl hl.1 rfl (Nat.le_of_ble_eq_true rfl) dX3_entries_22 ⟨Nat.zero_le _, Nat.zero_le _⟩ (fun H locs hB hS _ hkp => ?_)
  obtain ⟨bg, sz, hbr, hP⟩ := hB
  have hD : va_D AA (wM Y A (nI (0)) (nI (rs.length)) (mi) (ju) (lo) f bf ca bg sz) := va_D.same hD rfl
  refine lv_goto (tgt := 29) hx hb dX3_entries_25 (by decide) ?_
  exact hE _ _ _ _ _ dX3_entries_29 (vp_nar_int _) (rfl) (⟨f, bf, ca, bg, sz, hf, hP⟩) hS
set_option maxHeartbeats 4000000 in
set_option maxRecDepth 100000 in
theorem k_X3_entries_x (l : Launch) {D : va_G} {Y : Nat → ClassId} {A : Nat → Nat} {th mi ju lo : Int32} {f bf ca bg sz : Nat → Int32} {rs : List RV}  (hf : mrep rs f) {pl : Int32} (hpl : plI pl rs.length = false) : MuI l yX3_entries wsX3_entries 4 D Y [.ref (A 0), .int (pl)] (wM Y A (th) (nI (rs.length)) (mi) (ju) (lo) f bf ca bg sz) (mdB D Y A (nI 1) (mi) (ju) (lo) (rs)) (nI 0) := by
  refine MuI.start (cc := cX3_entries) (maxL := 2) (rt := .int) (by decide) rfl (Nat.le_of_ble_eq_true rfl) ?_
  intro p e s m args below meth c ls AA H0 H locs Q S hK hP hD hS hl hE
  have S : CallFix p m c cX3_entries 2 s args wsX3_entries RX3 := S
  have hx := S.1
  have hb := S.2.1
  have hts := S.2.2.2.2
  have hl : lv_has ls 2 [(0, .ref (A 0)), (1, .int (pl))] := hl
  refine lv_aload_n hx hb dX3_entries_0 rfl (lv_at hl 0 rfl) ?_
  refine lv_aload_n hx hb dX3_entries_1 rfl (lv_at hl 0 rfl) ?_
  refine lv_iload_n hx hb dX3_entries_2 rfl (lv_at hl 1 rfl) ?_
  refine Rd.callV (r := (bI (plI (pl) rs.length))) (As := [.int (pl)]) S (k_X3_isPlace l hP (pl := (pl))) (cwV 1 hts gX3_entries_X3_isPlace rfl rfl rfl (by decide +kernel) ⟨Nat.le_of_ble_eq_true rfl, Nat.le_of_ble_eq_true rfl⟩) hK (va_recv hK.1 hP (ci := 3) (q0 := 0) rfl rfl) rfl hl.1 rfl (Nat.le_of_ble_eq_true rfl) dX3_entries_3 ⟨Nat.zero_le _, Nat.zero_le _⟩ ?_
  refine nr_ifB_eq (tgt := 13) hx hb dX3_entries_6 (by decide) (fun c_6 => ?_) (fun c_6 => absurd c_6 (by rw [hpl]; decide))
  refine lv_iconst (v := (nI (1))) hx hb dX3_entries_13 (by decide +kernel) ?_
  refine MuI.callV (r := (nI (0))) (As := [.int (nI (1))]) S (k_holdsN l (by decide)) (cwV 1 hts gX3_entries_X3_holds rfl rfl rfl (by decide +kernel) ⟨Nat.le_of_ble_eq_true rfl, Nat.le_of_ble_eq_true rfl⟩) hK hP hD hS (va_recv hK.1 hP (ci := 3) (q0 := 0) rfl rfl) rfl hl.1 rfl (Nat.le_of_ble_eq_true rfl) dX3_entries_14 ⟨Nat.zero_le _, Nat.zero_le _⟩ (fun H locs hB hS _ hkp => ?_)
  have hP : va_P D aCl (wM Y A (nI (1)) (nI (rs.length)) (mi) (ju) (lo) f bf ca bg sz) H := hB
  have hD : va_D AA (wM Y A (nI (1)) (nI (rs.length)) (mi) (ju) (lo) f bf ca bg sz) := va_D.same hD rfl
  refine nr_if_eq (tgt := 28) hx hb (by omega) dX3_entries_17 (by decide) (fun c_17 => ?_) (fun c_17 => absurd c_17 (by decide))
  refine lv_iconst (v := (nI (0))) hx hb dX3_entries_28 (by decide +kernel) ?_
  exact hE _ _ _ _ _ dX3_entries_29 (vp_nar_int _) (rfl) (⟨f, bf, ca, bg, sz, hf, hP⟩) hS
set_option maxHeartbeats 4000000 in
set_option maxRecDepth 100000 in
theorem k_X3_allEntries (l : Launch) {D : va_G} {Y : Nat → ClassId} {A : Nat → Nat} {th mi ju lo : Int32} {f bf ca bg sz : Nat → Int32} {rs : List RV}  (hf : mrep rs f) : MuI l yX3_allEntries wsX3_allEntries 4 D Y [.ref (A 0)] (wM Y A (th) (nI (rs.length)) (mi) (ju) (lo) f bf ca bg sz) (mdB D Y A (nI 0) (mi) (ju) (lo) (rs)) (nI (sumN (fun k => enN (gt rs k)) rs.length)) := by
  refine MuI.start (cc := cX3_allEntries) (maxL := 3) (rt := .int) (by decide) rfl (Nat.le_of_ble_eq_true rfl) ?_
  intro p e s m args below meth c ls AA H0 H locs Q S hK hP hD hS hl hE
  have S : CallFix p m c cX3_allEntries 3 s args wsX3_allEntries RX3 := S
  have hx := S.1
  have hb := S.2.1
  have hts := S.2.2.2.2
  have hl : lv_has ls 3 [(0, .ref (A 0))] := hl
  have hn := hf.1.1
  refine lv_aload_n hx hb dX3_allEntries_0 rfl (lv_at hl 0 rfl) ?_
  refine lv_iconst (v := (nI (0))) hx hb dX3_allEntries_1 (by decide +kernel) ?_
  refine nr_put (C := RX3) (T := TX3) (N := 10) (ci := 3) (v := .int (nI (0))) S (fun _ h => List.mem_cons_of_mem _ (List.mem_append_right _ (h))) tyX3 tyX3_ok nmX3 hK hP hD hS 0 rfl rfl 0 (by decide) (List.mem_of_getElem? (i := 1) rfl) rfl rfl rfl (Nat.le_of_ble_eq_true rfl) dX3_allEntries_2 (fun H locs hP hD hS => ?_)
  have hP : va_P D aCl (wM Y A (nI (0)) (nI (rs.length)) (mi) (ju) (lo) f bf ca bg sz) H := hP
  have hD : va_D AA (wM Y A (nI (0)) (nI (rs.length)) (mi) (ju) (lo) f bf ca bg sz) := hD
  refine lv_iconst (v := (nI (0))) hx hb dX3_allEntries_5 (by decide +kernel) ?_
  refine lv_istore_n (lv' := [(1, .int (nI (0))), (0, .ref (A 0))]) hx hb dX3_allEntries_6 rfl hl (by decide) rfl (fun ls hl => ?_)
  refine lv_iconst (v := (nI (0))) hx hb dX3_allEntries_7 (by decide +kernel) ?_
  refine lv_istore_n (lv' := [(2, .int (nI (0))), (1, .int (nI (0))), (0, .ref (A 0))]) hx hb dX3_allEntries_8 rfl hl (by decide) rfl (fun ls hl => ?_)
  have loop_9 : ∀ (fu_9 : Nat) (n : Nat) (i : Nat) (bg1 : Nat → Int32) (sz1 : Nat → Int32), (i ≤ rs.length) → (n = sumN (fun k => enN (gt rs k)) i) → rs.length - i < fu_9 → ∀ (H : Heap) (locs : List Loc), va_P D aCl (wM Y A (nI (0)) (nI (rs.length)) (mi) (ju) (lo) f bf ca bg1 sz1) H → va_S AA H0 H locs → ∀ ls : Array Slot, lv_has ls 3 [(2, .int (nI (i))), (1, .int (nI (n))), (0, .ref (A 0))] → W p l e (rmN 4) s m args below meth c H locs 0 0 Q (F0 m 9 ls []) := by
    intro fu_9
    induction fu_9 with
    | zero => exact fun n i bg1 sz1 _ _ hk => absurd hk (Nat.not_lt_zero _)
    | succ fu_9 ih_9 =>
      intro n i bg1 sz1 h1 h2 hk_9 H locs hP hS ls hl
      have hD : va_D AA (wM Y A (nI (0)) (nI (rs.length)) (mi) (ju) (lo) f bf ca bg1 sz1) := va_D.same hD rfl
      refine lv_iload_n hx hb dX3_allEntries_9 rfl (lv_at hl 0 rfl) ?_
      refine lv_aload_n hx hb dX3_allEntries_10 rfl (lv_at hl 2 rfl) ?_
      refine nr_get (C := RX3) (T := TX3) (N := 10) (ci := 3) S (fun _ h => List.mem_cons_of_mem _ (List.mem_append_right _ (h))) hK hP 0 rfl rfl 1 (by decide) (List.mem_of_getElem? (i := 2) rfl) rfl dX3_allEntries_11 ?_
      refine nr_icmp_ge (tgt := 31) hx hb (by omega) (by omega) dX3_allEntries_14 (by decide) (fun c_14 => ?_) (fun c_14 => ?_)
      · refine lv_iload_n hx hb dX3_allEntries_31 rfl (lv_at hl 1 rfl) ?_
        exact hE _ _ _ _ _ dX3_allEntries_32 (vp_nar_int _) (sumN_end h1 c_14 h2) (⟨f, bf, ca, bg1, sz1, hf, hP⟩) hS
      · refine lv_iload_n hx hb dX3_allEntries_17 rfl (lv_at hl 1 rfl) ?_
        refine lv_aload_n hx hb dX3_allEntries_18 rfl (lv_at hl 2 rfl) ?_
        refine lv_iload_n hx hb dX3_allEntries_19 rfl (lv_at hl 0 rfl) ?_
        refine MuI.callV (r := (nI (enN (gt rs (i))))) (As := [.int (nI (i))]) S (k_X3_split l hf (i := i) (by omega)) (cwV 1 hts gX3_allEntries_X3_split rfl rfl rfl (by decide +kernel) ⟨Nat.le_of_ble_eq_true rfl, Nat.le_of_ble_eq_true rfl⟩) hK hP hD hS (va_recv hK.1 hP (ci := 3) (q0 := 0) rfl rfl) rfl hl.1 rfl (Nat.le_of_ble_eq_true rfl) dX3_allEntries_20 ⟨Nat.zero_le _, Nat.zero_le _⟩ (fun H locs hB hS _ hkp => ?_)
        obtain ⟨bg, sz, hbr, hP⟩ := hB
        have hD : va_D AA (wM Y A (nI (0)) (nI (rs.length)) (mi) (ju) (lo) f bf ca bg sz) := va_D.same hD rfl
        refine nr_iadd hx hb dX3_allEntries_23 ?_
        refine lv_istore_n (lv' := [(1, .int (nI (n + (enN (gt rs (i)))))), (2, .int (nI (i))), (0, .ref (A 0))]) hx hb dX3_allEntries_24 rfl hl (by decide) rfl (fun ls hl => ?_)
        refine lv_iinc (v := (nI (i + 1))) (lv' := [(2, .int (nI (i + 1))), (1, .int (nI (n + (enN (gt rs (i)))))), (0, .ref (A 0))]) hx hb dX3_allEntries_25 hl (k := 1) rfl (nI_add _ _) (by decide) rfl (fun ls hl => ?_)
        refine lv_goto (tgt := 9) hx hb dX3_allEntries_28 (by decide) ?_
        exact ih_9 (n + (enN (gt rs (i)))) (i + 1) (bg) (sz) (by omega) (by rw [h2]; rfl) (by omega) _ _ hP hS ls (lv_sub hl [0, 1, 2] rfl)
  exact loop_9 _ (0) (0) (bg) (sz) (Nat.zero_le _) (rfl) (Nat.lt_succ_self _) _ _ hP hS ls (lv_sub hl [0, 1, 2] rfl)
theorem k_inM2 (l : Launch) {D : va_G} {Y : Nat → ClassId} {H : Heap} {e n : Nat} (he : e < n) (hn : n ≤ 128) : Rd l yX3_in wsX3_in 0 D Y [.int (nI e), .int (nI 0), .int (nI n - nI 1)] H (nI 1) := by
  have h := k_X3_in l (D := D) (Y := Y) (H := H) (nI e) (nI 0) (nI n - nI 1)
  rw [pk_sub (show 1 ≤ n by omega), inI_nI (by omega) (by decide) (by omega), inN_t (Nat.zero_le _) (by omega)] at h
  rw [pk_sub (show 1 ≤ n by omega)]
  exact h
set_option maxHeartbeats 4000000 in
set_option maxRecDepth 100000 in
theorem k_X3_isEntry_ok (l : Launch) {D : va_G} {Y : Nat → ClassId} {A : Nat → Nat} {th mi ju lo : Int32} {f bf ca bg sz : Nat → Int32} {rs : List RV}  (hf : mrep rs f) {i : Nat} (hi : i < rs.length) {e0 : Nat} (he : e0 < enN (gt rs i)) : MuI l yX3_isEntry wsX3_isEntry 4 D Y [.ref (A 0), .int (nI (i)), .int (nI (e0))] (wM Y A (th) (nI (rs.length)) (mi) (ju) (lo) f bf ca bg sz) (bkW D Y A th mi ju lo f bf ca rs (gt rs i)) (nI 1) := by
  refine MuI.start (cc := cX3_isEntry) (maxL := 3) (rt := .boolean) (by decide) rfl (Nat.le_of_ble_eq_true rfl) ?_
  intro p e s m args below meth c ls AA H0 H locs Q S hK hP hD hS hl hE
  have S : CallFix p m c cX3_isEntry 3 s args wsX3_isEntry RX3 := S
  have hx := S.1
  have hb := S.2.1
  have hts := S.2.2.2.2
  have hl : lv_has ls 3 [(0, .ref (A 0)), (1, .int (nI (i))), (2, .int (nI (e0)))] := hl
  have ho := hf.1.2 i hi
  have hn := hf.1.1
  refine lv_aload_n hx hb dX3_isEntry_0 rfl (lv_at hl 0 rfl) ?_
  refine lv_iload_n hx hb dX3_isEntry_1 rfl (lv_at hl 1 rfl) ?_
  refine Rd.callV (r := (nI (1))) (As := [.int (nI (i))]) S (k_isPl1 l hP hn (i := i) (by omega)) (cwV 1 hts gX3_isEntry_X3_isPlace rfl rfl rfl (by decide +kernel) ⟨Nat.le_of_ble_eq_true rfl, Nat.le_of_ble_eq_true rfl⟩) hK (va_recv hK.1 hP (ci := 3) (q0 := 0) rfl rfl) rfl hl.1 rfl (Nat.le_of_ble_eq_true rfl) dX3_isEntry_2 ⟨Nat.zero_le _, Nat.zero_le _⟩ ?_
  refine nr_if_eq (tgt := 27) hx hb (by omega) dX3_isEntry_5 (by decide) (fun c_5 => absurd c_5 (by decide)) (fun c_5 => ?_)
  refine lv_iload_n hx hb dX3_isEntry_8 rfl (lv_at hl 2 rfl) ?_
  refine lv_iconst (v := (nI (0))) hx hb dX3_isEntry_9 (by decide +kernel) ?_
  refine lv_aload_n hx hb dX3_isEntry_10 rfl (lv_at hl 0 rfl) ?_
  refine lv_iload_n hx hb dX3_isEntry_11 rfl (lv_at hl 1 rfl) ?_
  refine MuI.callV (r := (nI (enN (gt rs (i))))) (As := [.int (nI (i))]) S (k_X3_split l hf (i := i) (by omega)) (cwV 1 hts gX3_isEntry_X3_split rfl rfl rfl (by decide +kernel) ⟨Nat.le_of_ble_eq_true rfl, Nat.le_of_ble_eq_true rfl⟩) hK hP hD hS (va_recv hK.1 hP (ci := 3) (q0 := 0) rfl rfl) rfl hl.1 rfl (Nat.le_of_ble_eq_true rfl) dX3_isEntry_12 ⟨Nat.zero_le _, Nat.zero_le _⟩ (fun H locs hB hS _ hkp => ?_)
  obtain ⟨bg, sz, hbr, hP⟩ := hB
  have hD : va_D AA (wM Y A (th) (nI (rs.length)) (mi) (ju) (lo) f bf ca bg sz) := va_D.same hD rfl
  refine lv_iconst (v := (nI (1))) hx hb dX3_isEntry_15 (by decide +kernel) ?_
  refine lv_isub hx hb dX3_isEntry_16 ?_
  refine Rd.callS (r := (nI (1))) (As := [.int (nI (e0)), .int (nI (0)), .int (((nI (enN (gt rs (i)))) - (nI (1))))]) S (k_inM2 l (e := e0) (n := enN (gt rs i)) he (enN_le ho).2) (va_cwS 3 hts gX3_isEntry_X3_in rfl rfl rfl (by decide +kernel) ⟨Nat.le_of_ble_eq_true rfl, Nat.le_of_ble_eq_true rfl⟩) hK rfl hl.1 rfl (Nat.le_of_ble_eq_true rfl) dX3_isEntry_17 ⟨Nat.zero_le _, Nat.zero_le _⟩ ?_
  refine nr_if_eq (tgt := 27) hx hb (by omega) dX3_isEntry_20 (by decide) (fun c_20 => absurd c_20 (by decide)) (fun c_20 => ?_)
  refine lv_iconst (v := (nI (1))) hx hb dX3_isEntry_23 (by decide +kernel) ?_
  refine lv_goto (tgt := 28) hx hb dX3_isEntry_24 (by decide) ?_
  exact hE _ _ _ _ _ dX3_isEntry_28 (rfl) (rfl) (⟨bg, sz, hbr, hP⟩) hS
set_option maxHeartbeats 4000000 in
set_option maxRecDepth 100000 in
theorem k_X3_isEntry_xe (l : Launch) {D : va_G} {Y : Nat → ClassId} {A : Nat → Nat} {th mi ju lo : Int32} {f bf ca bg sz : Nat → Int32} {rs : List RV}  (hf : mrep rs f) {i : Nat} (hi : i < rs.length) {en : Int32} (he : inI en (nI 0) (nI (enN (gt rs i)) - nI 1) = false) : MuI l yX3_isEntry wsX3_isEntry 4 D Y [.ref (A 0), .int (nI (i)), .int (en)] (wM Y A (th) (nI (rs.length)) (mi) (ju) (lo) f bf ca bg sz) (bkW D Y A th mi ju lo f bf ca rs (gt rs i)) (nI 0) := by
  refine MuI.start (cc := cX3_isEntry) (maxL := 3) (rt := .boolean) (by decide) rfl (Nat.le_of_ble_eq_true rfl) ?_
  intro p e s m args below meth c ls AA H0 H locs Q S hK hP hD hS hl hE
  have S : CallFix p m c cX3_isEntry 3 s args wsX3_isEntry RX3 := S
  have hx := S.1
  have hb := S.2.1
  have hts := S.2.2.2.2
  have hl : lv_has ls 3 [(0, .ref (A 0)), (1, .int (nI (i))), (2, .int (en))] := hl
  have ho := hf.1.2 i hi
  have hn := hf.1.1
  refine lv_aload_n hx hb dX3_isEntry_0 rfl (lv_at hl 0 rfl) ?_
  refine lv_iload_n hx hb dX3_isEntry_1 rfl (lv_at hl 1 rfl) ?_
  refine Rd.callV (r := (nI (1))) (As := [.int (nI (i))]) S (k_isPl1 l hP hn (i := i) (by omega)) (cwV 1 hts gX3_isEntry_X3_isPlace rfl rfl rfl (by decide +kernel) ⟨Nat.le_of_ble_eq_true rfl, Nat.le_of_ble_eq_true rfl⟩) hK (va_recv hK.1 hP (ci := 3) (q0 := 0) rfl rfl) rfl hl.1 rfl (Nat.le_of_ble_eq_true rfl) dX3_isEntry_2 ⟨Nat.zero_le _, Nat.zero_le _⟩ ?_
  refine nr_if_eq (tgt := 27) hx hb (by omega) dX3_isEntry_5 (by decide) (fun c_5 => absurd c_5 (by decide)) (fun c_5 => ?_)
  refine lv_iload_n hx hb dX3_isEntry_8 rfl (lv_at hl 2 rfl) ?_
  refine lv_iconst (v := (nI (0))) hx hb dX3_isEntry_9 (by decide +kernel) ?_
  refine lv_aload_n hx hb dX3_isEntry_10 rfl (lv_at hl 0 rfl) ?_
  refine lv_iload_n hx hb dX3_isEntry_11 rfl (lv_at hl 1 rfl) ?_
  refine MuI.callV (r := (nI (enN (gt rs (i))))) (As := [.int (nI (i))]) S (k_X3_split l hf (i := i) (by omega)) (cwV 1 hts gX3_isEntry_X3_split rfl rfl rfl (by decide +kernel) ⟨Nat.le_of_ble_eq_true rfl, Nat.le_of_ble_eq_true rfl⟩) hK hP hD hS (va_recv hK.1 hP (ci := 3) (q0 := 0) rfl rfl) rfl hl.1 rfl (Nat.le_of_ble_eq_true rfl) dX3_isEntry_12 ⟨Nat.zero_le _, Nat.zero_le _⟩ (fun H locs hB hS _ hkp => ?_)
  obtain ⟨bg, sz, hbr, hP⟩ := hB
  have hD : va_D AA (wM Y A (th) (nI (rs.length)) (mi) (ju) (lo) f bf ca bg sz) := va_D.same hD rfl
  refine lv_iconst (v := (nI (1))) hx hb dX3_isEntry_15 (by decide +kernel) ?_
  refine lv_isub hx hb dX3_isEntry_16 ?_
  refine Rd.callS (r := (bI (inI (en) (nI (0)) (((nI (enN (gt rs (i)))) - (nI (1))))))) (As := [.int (en), .int (nI (0)), .int (((nI (enN (gt rs (i)))) - (nI (1))))]) S (k_X3_in l (en) (nI (0)) (((nI (enN (gt rs (i)))) - (nI (1))))) (va_cwS 3 hts gX3_isEntry_X3_in rfl rfl rfl (by decide +kernel) ⟨Nat.le_of_ble_eq_true rfl, Nat.le_of_ble_eq_true rfl⟩) hK rfl hl.1 rfl (Nat.le_of_ble_eq_true rfl) dX3_isEntry_17 ⟨Nat.zero_le _, Nat.zero_le _⟩ ?_
  refine nr_ifB_eq (tgt := 27) hx hb dX3_isEntry_20 (by decide) (fun c_20 => ?_) (fun c_20 => absurd c_20 (by rw [he]; decide))
  refine lv_iconst (v := (nI (0))) hx hb dX3_isEntry_27 (by decide +kernel) ?_
  exact hE _ _ _ _ _ dX3_isEntry_28 (rfl) (rfl) (⟨bg, sz, hbr, hP⟩) hS
set_option maxHeartbeats 4000000 in
set_option maxRecDepth 100000 in
theorem k_X3_isEntry_xp (l : Launch) {D : va_G} {Y : Nat → ClassId} {A : Nat → Nat} {th mi ju lo : Int32} {f bf ca bg sz : Nat → Int32} {rs : List RV}  {pl en : Int32} (hpl : plI pl rs.length = false) : MuI l yX3_isEntry wsX3_isEntry 4 D Y [.ref (A 0), .int (pl), .int (en)] (wM Y A (th) (nI (rs.length)) (mi) (ju) (lo) f bf ca bg sz) (va_P D aCl (wM Y A (th) (nI (rs.length)) (mi) (ju) (lo) f bf ca bg sz)) (nI 0) := by
  refine MuI.start (cc := cX3_isEntry) (maxL := 3) (rt := .boolean) (by decide) rfl (Nat.le_of_ble_eq_true rfl) ?_
  intro p e s m args below meth c ls AA H0 H locs Q S hK hP hD hS hl hE
  have S : CallFix p m c cX3_isEntry 3 s args wsX3_isEntry RX3 := S
  have hx := S.1
  have hb := S.2.1
  have hts := S.2.2.2.2
  have hl : lv_has ls 3 [(0, .ref (A 0)), (1, .int (pl)), (2, .int (en))] := hl
  refine lv_aload_n hx hb dX3_isEntry_0 rfl (lv_at hl 0 rfl) ?_
  refine lv_iload_n hx hb dX3_isEntry_1 rfl (lv_at hl 1 rfl) ?_
  refine Rd.callV (r := (bI (plI (pl) rs.length))) (As := [.int (pl)]) S (k_X3_isPlace l hP (pl := (pl))) (cwV 1 hts gX3_isEntry_X3_isPlace rfl rfl rfl (by decide +kernel) ⟨Nat.le_of_ble_eq_true rfl, Nat.le_of_ble_eq_true rfl⟩) hK (va_recv hK.1 hP (ci := 3) (q0 := 0) rfl rfl) rfl hl.1 rfl (Nat.le_of_ble_eq_true rfl) dX3_isEntry_2 ⟨Nat.zero_le _, Nat.zero_le _⟩ ?_
  refine nr_ifB_eq (tgt := 27) hx hb dX3_isEntry_5 (by decide) (fun c_5 => ?_) (fun c_5 => absurd c_5 (by rw [hpl]; decide))
  refine lv_iconst (v := (nI (0))) hx hb dX3_isEntry_27 (by decide +kernel) ?_
  exact hE _ _ _ _ _ dX3_isEntry_28 (rfl) (rfl) (hP) hS
set_option maxHeartbeats 4000000 in
set_option maxRecDepth 100000 in
theorem k_X3_blockOf_0 (l : Launch) {D : va_G} {Y : Nat → ClassId} {A : Nat → Nat} {th mi ju lo : Int32} {f bf ca bg sz : Nat → Int32} {rs : List RV}  (hf : mrep rs f) {i : Nat} (hi : i < rs.length) {e0 : Nat} (he : e0 < enN (gt rs i)) (hb0 : brep (gt rs i) bg sz) : MuI l yX3_blockOf wsX3_blockOf 3 D Y [.ref (A 0), .int (nI (i)), .int (nI (e0)), .int (nI (0))] (wM Y A (th) (nI (rs.length)) (mi) (ju) (lo) f bf ca bg sz) (bkW D Y A th mi ju lo f bf ca rs (gt rs i)) (nI (eS (gt rs i) e0)) := by
  refine MuI.start (cc := cX3_blockOf) (maxL := 6) (rt := .int) (by decide) rfl (Nat.le_of_ble_eq_true rfl) ?_
  intro p e s m args below meth c ls AA H0 H locs Q S hK hP hD hS hl hE
  have S : CallFix p m c cX3_blockOf 6 s args wsX3_blockOf RX3 := S
  have hx := S.1
  have hb := S.2.1
  have hts := S.2.2.2.2
  have hl : lv_has ls 6 [(0, .ref (A 0)), (1, .int (nI (i))), (2, .int (nI (e0))), (3, .int (nI (0)))] := hl
  have ho := hf.1.2 i hi
  have hn := hf.1.1
  have q1 := bP_len ho
  have q2 := bD_len ho
  have q3 := enN_le ho
  have q4 : e0 / (bP (gt rs i)).length < 2 ^ 31 := Nat.lt_of_le_of_lt (Nat.div_le_self _ _) (by omega)
  refine lv_aload_n hx hb dX3_blockOf_0 rfl (lv_at hl 0 rfl) ?_
  refine lv_iload_n hx hb dX3_blockOf_1 rfl (lv_at hl 1 rfl) ?_
  refine MuI.callV (r := (nI ((bD (gt rs (i))).length))) (As := [.int (nI (i))]) S (k_X3_destinationBlocks l hf (i := i) (by omega)) (cwV 1 hts gX3_blockOf_X3_destinationBlocks rfl rfl rfl (by decide +kernel) ⟨Nat.le_of_ble_eq_true rfl, Nat.le_of_ble_eq_true rfl⟩) hK hP hD hS (va_recv hK.1 hP (ci := 3) (q0 := 0) rfl rfl) rfl hl.1 rfl (Nat.le_of_ble_eq_true rfl) dX3_blockOf_2 ⟨Nat.zero_le _, Nat.zero_le _⟩ (fun H locs hB hS _ hkp => ?_)
  have hP : va_P D aCl (wM Y A (th) (nI (rs.length)) (mi) (ju) (lo) f bf ca (inF bg (gB (bD (gt rs (i)))) 8 (bD (gt rs (i))).length) (inF sz (gS (bD (gt rs (i)))) 8 (bD (gt rs (i))).length)) H := hB
  have hD : va_D AA (wM Y A (th) (nI (rs.length)) (mi) (ju) (lo) f bf ca (inF bg (gB (bD (gt rs (i)))) 8 (bD (gt rs (i))).length) (inF sz (gS (bD (gt rs (i)))) 8 (bD (gt rs (i))).length)) := va_D.same hD rfl
  refine lv_istore (lv' := [(4, .int (nI ((bD (gt rs (i))).length))), (0, .ref (A 0)), (1, .int (nI (i))), (2, .int (nI (e0))), (3, .int (nI (0)))]) hx hb dX3_blockOf_5 hl (by decide) rfl (fun ls hl => ?_)
  refine lv_aload_n hx hb dX3_blockOf_7 rfl (lv_at hl 1 rfl) ?_
  refine lv_aload_n hx hb dX3_blockOf_8 rfl (lv_at hl 1 rfl) ?_
  refine lv_iload_n hx hb dX3_blockOf_9 rfl (lv_at hl 2 rfl) ?_
  refine lv_iconst (v := (nI (4))) hx hb dX3_blockOf_10 (by decide +kernel) ?_
  refine Rd.callV (r := (nI (pR (gt rs (i))))) (As := [.int (nI (i)), .int (nI (4))]) S (k_ofR l hP hf (i := i) (w := 4) (by omega) (by omega)) (cwV 2 hts gX3_blockOf_X3_of rfl rfl rfl (by decide +kernel) ⟨Nat.le_of_ble_eq_true rfl, Nat.le_of_ble_eq_true rfl⟩) hK (va_recv hK.1 hP (ci := 3) (q0 := 0) rfl rfl) rfl hl.1 rfl (Nat.le_of_ble_eq_true rfl) dX3_blockOf_11 ⟨Nat.zero_le _, Nat.zero_le _⟩ ?_
  refine MuI.callV (r := (nI ((bP (gt rs i)).length))) (As := [.int (nI (pR (gt rs (i))))]) S (k_X3_splitsSet l (pr := pR (gt rs (i))) (by unfold rvOk at ho; omega)) (cwV 1 hts gX3_blockOf_X3_splitsSet rfl rfl rfl (by decide +kernel) ⟨Nat.le_of_ble_eq_true rfl, Nat.le_of_ble_eq_true rfl⟩) hK hP hD hS (va_recv hK.1 hP (ci := 3) (q0 := 0) rfl rfl) rfl hl.1 rfl (Nat.le_of_ble_eq_true rfl) dX3_blockOf_14 ⟨Nat.zero_le _, Nat.zero_le _⟩ (fun H locs hB hS _ hkp => ?_)
  have hP : va_P D aCl (wM Y A (th) (nI (rs.length)) (mi) (ju) (lo) f bf ca (inF (inF bg (gB (bD (gt rs (i)))) 8 (bD (gt rs (i))).length) (gB (bP (gt rs i))) 16 (bP (gt rs i)).length) (inF (inF sz (gS (bD (gt rs (i)))) 8 (bD (gt rs (i))).length) (gS (bP (gt rs i))) 16 (bP (gt rs i)).length)) H := hB
  have hD : va_D AA (wM Y A (th) (nI (rs.length)) (mi) (ju) (lo) f bf ca (inF (inF bg (gB (bD (gt rs (i)))) 8 (bD (gt rs (i))).length) (gB (bP (gt rs i))) 16 (bP (gt rs i)).length) (inF (inF sz (gS (bD (gt rs (i)))) 8 (bD (gt rs (i))).length) (gS (bP (gt rs i))) 16 (bP (gt rs i)).length)) := va_D.same hD rfl
  refine lv_istore (lv' := [(5, .int (nI ((bP (gt rs i)).length))), (4, .int (nI ((bD (gt rs (i))).length))), (0, .ref (A 0)), (1, .int (nI (i))), (2, .int (nI (e0))), (3, .int (nI (0)))]) hx hb dX3_blockOf_17 hl (by decide) rfl (fun ls hl => ?_)
  refine lv_iload_n hx hb dX3_blockOf_19 rfl (lv_at hl 5 rfl) ?_
  refine lv_iload_n hx hb dX3_blockOf_20 rfl (lv_at hl 5 rfl) ?_
  refine lv_bipush (v := (nI (16))) hx hb dX3_blockOf_21 (by decide +kernel) ?_
  refine nr_icmp_ne (tgt := 33) hx hb (by omega) (by omega) dX3_blockOf_23 (by decide) (fun c_23 => ?_) (fun c_23 => absurd c_23 (by decide))
  refine lv_iload_n hx hb dX3_blockOf_33 rfl (lv_at hl 5 rfl) ?_
  refine lv_bipush (v := (nI (8))) hx hb dX3_blockOf_34 (by decide +kernel) ?_
  refine nr_icmp_ne (tgt := 49) hx hb (by omega) (by omega) dX3_blockOf_36 (by decide) (fun c_36 => ?_) (fun c_36 => absurd c_36 (by decide))
  refine lv_iload_n hx hb dX3_blockOf_49 rfl (lv_at hl 4 rfl) ?_
  refine lv_iload hx hb dX3_blockOf_50 (lv_at hl 0 rfl) ?_
  refine nr_idiv hx hb (by omega) (by omega) (by omega) dX3_blockOf_52 ?_
  refine lv_iload hx hb dX3_blockOf_53 (lv_at hl 1 rfl) ?_
  refine nr_idiv hx hb (by omega) (by omega) (by omega) dX3_blockOf_55 ?_
  refine nr_iadd hx hb dX3_blockOf_56 ?_
  exact hE _ _ _ _ _ dX3_blockOf_57 (vp_nar_int _) (congrArg nI (Nat.zero_add _)) (⟨_, _, brep_again ho hb0, hP⟩) hS
set_option maxHeartbeats 4000000 in
set_option maxRecDepth 100000 in
theorem k_X3_blockOf_8 (l : Launch) {D : va_G} {Y : Nat → ClassId} {A : Nat → Nat} {th mi ju lo : Int32} {f bf ca bg sz : Nat → Int32} {rs : List RV}  (hf : mrep rs f) {i : Nat} (hi : i < rs.length) {e0 : Nat} (he : e0 < enN (gt rs i)) (hb0 : brep (gt rs i) bg sz) : MuI l yX3_blockOf wsX3_blockOf 3 D Y [.ref (A 0), .int (nI (i)), .int (nI (e0)), .int (nI (8))] (wM Y A (th) (nI (rs.length)) (mi) (ju) (lo) f bf ca bg sz) (bkW D Y A th mi ju lo f bf ca rs (gt rs i)) (nI (8 + eD (gt rs i) e0)) := by
  refine MuI.start (cc := cX3_blockOf) (maxL := 6) (rt := .int) (by decide) rfl (Nat.le_of_ble_eq_true rfl) ?_
  intro p e s m args below meth c ls AA H0 H locs Q S hK hP hD hS hl hE
  have S : CallFix p m c cX3_blockOf 6 s args wsX3_blockOf RX3 := S
  have hx := S.1
  have hb := S.2.1
  have hts := S.2.2.2.2
  have hl : lv_has ls 6 [(0, .ref (A 0)), (1, .int (nI (i))), (2, .int (nI (e0))), (3, .int (nI (8)))] := hl
  have ho := hf.1.2 i hi
  have hn := hf.1.1
  have q1 := bP_len ho
  have q2 := bD_len ho
  have q3 := enN_le ho
  have q4 : e0 / (bP (gt rs i)).length < 2 ^ 31 := Nat.lt_of_le_of_lt (Nat.div_le_self _ _) (by omega)
  refine lv_aload_n hx hb dX3_blockOf_0 rfl (lv_at hl 0 rfl) ?_
  refine lv_iload_n hx hb dX3_blockOf_1 rfl (lv_at hl 1 rfl) ?_
  refine MuI.callV (r := (nI ((bD (gt rs (i))).length))) (As := [.int (nI (i))]) S (k_X3_destinationBlocks l hf (i := i) (by omega)) (cwV 1 hts gX3_blockOf_X3_destinationBlocks rfl rfl rfl (by decide +kernel) ⟨Nat.le_of_ble_eq_true rfl, Nat.le_of_ble_eq_true rfl⟩) hK hP hD hS (va_recv hK.1 hP (ci := 3) (q0 := 0) rfl rfl) rfl hl.1 rfl (Nat.le_of_ble_eq_true rfl) dX3_blockOf_2 ⟨Nat.zero_le _, Nat.zero_le _⟩ (fun H locs hB hS _ hkp => ?_)
  have hP : va_P D aCl (wM Y A (th) (nI (rs.length)) (mi) (ju) (lo) f bf ca (inF bg (gB (bD (gt rs (i)))) 8 (bD (gt rs (i))).length) (inF sz (gS (bD (gt rs (i)))) 8 (bD (gt rs (i))).length)) H := hB
  have hD : va_D AA (wM Y A (th) (nI (rs.length)) (mi) (ju) (lo) f bf ca (inF bg (gB (bD (gt rs (i)))) 8 (bD (gt rs (i))).length) (inF sz (gS (bD (gt rs (i)))) 8 (bD (gt rs (i))).length)) := va_D.same hD rfl
  refine lv_istore (lv' := [(4, .int (nI ((bD (gt rs (i))).length))), (0, .ref (A 0)), (1, .int (nI (i))), (2, .int (nI (e0))), (3, .int (nI (8)))]) hx hb dX3_blockOf_5 hl (by decide) rfl (fun ls hl => ?_)
  refine lv_aload_n hx hb dX3_blockOf_7 rfl (lv_at hl 1 rfl) ?_
  refine lv_aload_n hx hb dX3_blockOf_8 rfl (lv_at hl 1 rfl) ?_
  refine lv_iload_n hx hb dX3_blockOf_9 rfl (lv_at hl 2 rfl) ?_
  refine lv_iconst (v := (nI (4))) hx hb dX3_blockOf_10 (by decide +kernel) ?_
  refine Rd.callV (r := (nI (pR (gt rs (i))))) (As := [.int (nI (i)), .int (nI (4))]) S (k_ofR l hP hf (i := i) (w := 4) (by omega) (by omega)) (cwV 2 hts gX3_blockOf_X3_of rfl rfl rfl (by decide +kernel) ⟨Nat.le_of_ble_eq_true rfl, Nat.le_of_ble_eq_true rfl⟩) hK (va_recv hK.1 hP (ci := 3) (q0 := 0) rfl rfl) rfl hl.1 rfl (Nat.le_of_ble_eq_true rfl) dX3_blockOf_11 ⟨Nat.zero_le _, Nat.zero_le _⟩ ?_
  refine MuI.callV (r := (nI ((bP (gt rs i)).length))) (As := [.int (nI (pR (gt rs (i))))]) S (k_X3_splitsSet l (pr := pR (gt rs (i))) (by unfold rvOk at ho; omega)) (cwV 1 hts gX3_blockOf_X3_splitsSet rfl rfl rfl (by decide +kernel) ⟨Nat.le_of_ble_eq_true rfl, Nat.le_of_ble_eq_true rfl⟩) hK hP hD hS (va_recv hK.1 hP (ci := 3) (q0 := 0) rfl rfl) rfl hl.1 rfl (Nat.le_of_ble_eq_true rfl) dX3_blockOf_14 ⟨Nat.zero_le _, Nat.zero_le _⟩ (fun H locs hB hS _ hkp => ?_)
  have hP : va_P D aCl (wM Y A (th) (nI (rs.length)) (mi) (ju) (lo) f bf ca (inF (inF bg (gB (bD (gt rs (i)))) 8 (bD (gt rs (i))).length) (gB (bP (gt rs i))) 16 (bP (gt rs i)).length) (inF (inF sz (gS (bD (gt rs (i)))) 8 (bD (gt rs (i))).length) (gS (bP (gt rs i))) 16 (bP (gt rs i)).length)) H := hB
  have hD : va_D AA (wM Y A (th) (nI (rs.length)) (mi) (ju) (lo) f bf ca (inF (inF bg (gB (bD (gt rs (i)))) 8 (bD (gt rs (i))).length) (gB (bP (gt rs i))) 16 (bP (gt rs i)).length) (inF (inF sz (gS (bD (gt rs (i)))) 8 (bD (gt rs (i))).length) (gS (bP (gt rs i))) 16 (bP (gt rs i)).length)) := va_D.same hD rfl
  refine lv_istore (lv' := [(5, .int (nI ((bP (gt rs i)).length))), (4, .int (nI ((bD (gt rs (i))).length))), (0, .ref (A 0)), (1, .int (nI (i))), (2, .int (nI (e0))), (3, .int (nI (8)))]) hx hb dX3_blockOf_17 hl (by decide) rfl (fun ls hl => ?_)
  refine lv_iload_n hx hb dX3_blockOf_19 rfl (lv_at hl 5 rfl) ?_
  refine lv_iload_n hx hb dX3_blockOf_20 rfl (lv_at hl 5 rfl) ?_
  refine lv_bipush (v := (nI (16))) hx hb dX3_blockOf_21 (by decide +kernel) ?_
  refine nr_icmp_ne (tgt := 33) hx hb (by omega) (by omega) dX3_blockOf_23 (by decide) (fun c_23 => ?_) (fun c_23 => absurd c_23 (by decide))
  refine lv_iload_n hx hb dX3_blockOf_33 rfl (lv_at hl 5 rfl) ?_
  refine lv_bipush (v := (nI (8))) hx hb dX3_blockOf_34 (by decide +kernel) ?_
  refine nr_icmp_ne (tgt := 49) hx hb (by omega) (by omega) dX3_blockOf_36 (by decide) (fun c_36 => absurd c_36 (by decide)) (fun c_36 => ?_)
  refine lv_iload_n hx hb dX3_blockOf_39 rfl (lv_at hl 4 rfl) ?_
  refine lv_iload hx hb dX3_blockOf_40 (lv_at hl 0 rfl) ?_
  refine nr_idiv hx hb (by omega) (by omega) (by omega) dX3_blockOf_42 ?_
  refine lv_iload hx hb dX3_blockOf_43 (lv_at hl 1 rfl) ?_
  refine nr_irem hx hb (by omega) (by omega) (by omega) dX3_blockOf_45 ?_
  refine lv_goto (tgt := 56) hx hb dX3_blockOf_46 (by decide) ?_
  refine nr_iadd hx hb dX3_blockOf_56 ?_
  exact hE _ _ _ _ _ dX3_blockOf_57 (vp_nar_int _) (rfl) (⟨_, _, brep_again ho hb0, hP⟩) hS
set_option maxHeartbeats 4000000 in
set_option maxRecDepth 100000 in
theorem k_X3_blockOf_16 (l : Launch) {D : va_G} {Y : Nat → ClassId} {A : Nat → Nat} {th mi ju lo : Int32} {f bf ca bg sz : Nat → Int32} {rs : List RV}  (hf : mrep rs f) {i : Nat} (hi : i < rs.length) {e0 : Nat} (he : e0 < enN (gt rs i)) (hb0 : brep (gt rs i) bg sz) : MuI l yX3_blockOf wsX3_blockOf 3 D Y [.ref (A 0), .int (nI (i)), .int (nI (e0)), .int (nI (16))] (wM Y A (th) (nI (rs.length)) (mi) (ju) (lo) f bf ca bg sz) (bkW D Y A th mi ju lo f bf ca rs (gt rs i)) (nI (16 + eP (gt rs i) e0)) := by
  refine MuI.start (cc := cX3_blockOf) (maxL := 6) (rt := .int) (by decide) rfl (Nat.le_of_ble_eq_true rfl) ?_
  intro p e s m args below meth c ls AA H0 H locs Q S hK hP hD hS hl hE
  have S : CallFix p m c cX3_blockOf 6 s args wsX3_blockOf RX3 := S
  have hx := S.1
  have hb := S.2.1
  have hts := S.2.2.2.2
  have hl : lv_has ls 6 [(0, .ref (A 0)), (1, .int (nI (i))), (2, .int (nI (e0))), (3, .int (nI (16)))] := hl
  have ho := hf.1.2 i hi
  have hn := hf.1.1
  have q1 := bP_len ho
  have q2 := bD_len ho
  have q3 := enN_le ho
  have q4 : e0 / (bP (gt rs i)).length < 2 ^ 31 := Nat.lt_of_le_of_lt (Nat.div_le_self _ _) (by omega)
  refine lv_aload_n hx hb dX3_blockOf_0 rfl (lv_at hl 0 rfl) ?_
  refine lv_iload_n hx hb dX3_blockOf_1 rfl (lv_at hl 1 rfl) ?_
  refine MuI.callV (r := (nI ((bD (gt rs (i))).length))) (As := [.int (nI (i))]) S (k_X3_destinationBlocks l hf (i := i) (by omega)) (cwV 1 hts gX3_blockOf_X3_destinationBlocks rfl rfl rfl (by decide +kernel) ⟨Nat.le_of_ble_eq_true rfl, Nat.le_of_ble_eq_true rfl⟩) hK hP hD hS (va_recv hK.1 hP (ci := 3) (q0 := 0) rfl rfl) rfl hl.1 rfl (Nat.le_of_ble_eq_true rfl) dX3_blockOf_2 ⟨Nat.zero_le _, Nat.zero_le _⟩ (fun H locs hB hS _ hkp => ?_)
  have hP : va_P D aCl (wM Y A (th) (nI (rs.length)) (mi) (ju) (lo) f bf ca (inF bg (gB (bD (gt rs (i)))) 8 (bD (gt rs (i))).length) (inF sz (gS (bD (gt rs (i)))) 8 (bD (gt rs (i))).length)) H := hB
  have hD : va_D AA (wM Y A (th) (nI (rs.length)) (mi) (ju) (lo) f bf ca (inF bg (gB (bD (gt rs (i)))) 8 (bD (gt rs (i))).length) (inF sz (gS (bD (gt rs (i)))) 8 (bD (gt rs (i))).length)) := va_D.same hD rfl
  refine lv_istore (lv' := [(4, .int (nI ((bD (gt rs (i))).length))), (0, .ref (A 0)), (1, .int (nI (i))), (2, .int (nI (e0))), (3, .int (nI (16)))]) hx hb dX3_blockOf_5 hl (by decide) rfl (fun ls hl => ?_)
  refine lv_aload_n hx hb dX3_blockOf_7 rfl (lv_at hl 1 rfl) ?_
  refine lv_aload_n hx hb dX3_blockOf_8 rfl (lv_at hl 1 rfl) ?_
  refine lv_iload_n hx hb dX3_blockOf_9 rfl (lv_at hl 2 rfl) ?_
  refine lv_iconst (v := (nI (4))) hx hb dX3_blockOf_10 (by decide +kernel) ?_
  refine Rd.callV (r := (nI (pR (gt rs (i))))) (As := [.int (nI (i)), .int (nI (4))]) S (k_ofR l hP hf (i := i) (w := 4) (by omega) (by omega)) (cwV 2 hts gX3_blockOf_X3_of rfl rfl rfl (by decide +kernel) ⟨Nat.le_of_ble_eq_true rfl, Nat.le_of_ble_eq_true rfl⟩) hK (va_recv hK.1 hP (ci := 3) (q0 := 0) rfl rfl) rfl hl.1 rfl (Nat.le_of_ble_eq_true rfl) dX3_blockOf_11 ⟨Nat.zero_le _, Nat.zero_le _⟩ ?_
  refine MuI.callV (r := (nI ((bP (gt rs i)).length))) (As := [.int (nI (pR (gt rs (i))))]) S (k_X3_splitsSet l (pr := pR (gt rs (i))) (by unfold rvOk at ho; omega)) (cwV 1 hts gX3_blockOf_X3_splitsSet rfl rfl rfl (by decide +kernel) ⟨Nat.le_of_ble_eq_true rfl, Nat.le_of_ble_eq_true rfl⟩) hK hP hD hS (va_recv hK.1 hP (ci := 3) (q0 := 0) rfl rfl) rfl hl.1 rfl (Nat.le_of_ble_eq_true rfl) dX3_blockOf_14 ⟨Nat.zero_le _, Nat.zero_le _⟩ (fun H locs hB hS _ hkp => ?_)
  have hP : va_P D aCl (wM Y A (th) (nI (rs.length)) (mi) (ju) (lo) f bf ca (inF (inF bg (gB (bD (gt rs (i)))) 8 (bD (gt rs (i))).length) (gB (bP (gt rs i))) 16 (bP (gt rs i)).length) (inF (inF sz (gS (bD (gt rs (i)))) 8 (bD (gt rs (i))).length) (gS (bP (gt rs i))) 16 (bP (gt rs i)).length)) H := hB
  have hD : va_D AA (wM Y A (th) (nI (rs.length)) (mi) (ju) (lo) f bf ca (inF (inF bg (gB (bD (gt rs (i)))) 8 (bD (gt rs (i))).length) (gB (bP (gt rs i))) 16 (bP (gt rs i)).length) (inF (inF sz (gS (bD (gt rs (i)))) 8 (bD (gt rs (i))).length) (gS (bP (gt rs i))) 16 (bP (gt rs i)).length)) := va_D.same hD rfl
  refine lv_istore (lv' := [(5, .int (nI ((bP (gt rs i)).length))), (4, .int (nI ((bD (gt rs (i))).length))), (0, .ref (A 0)), (1, .int (nI (i))), (2, .int (nI (e0))), (3, .int (nI (16)))]) hx hb dX3_blockOf_17 hl (by decide) rfl (fun ls hl => ?_)
  refine lv_iload_n hx hb dX3_blockOf_19 rfl (lv_at hl 5 rfl) ?_
  refine lv_iload_n hx hb dX3_blockOf_20 rfl (lv_at hl 5 rfl) ?_
  refine lv_bipush (v := (nI (16))) hx hb dX3_blockOf_21 (by decide +kernel) ?_
  refine nr_icmp_ne (tgt := 33) hx hb (by omega) (by omega) dX3_blockOf_23 (by decide) (fun c_23 => absurd c_23 (by decide)) (fun c_23 => ?_)
  refine lv_iload_n hx hb dX3_blockOf_26 rfl (lv_at hl 4 rfl) ?_
  refine lv_iload hx hb dX3_blockOf_27 (lv_at hl 0 rfl) ?_
  refine nr_irem hx hb (by omega) (by omega) (by omega) dX3_blockOf_29 ?_
  refine lv_goto (tgt := 56) hx hb dX3_blockOf_30 (by decide) ?_
  refine nr_iadd hx hb dX3_blockOf_56 ?_
  exact hE _ _ _ _ _ dX3_blockOf_57 (vp_nar_int _) (rfl) (⟨_, _, brep_again ho hb0, hP⟩) hS
set_option maxHeartbeats 4000000 in
set_option maxRecDepth 100000 in
theorem k_X3_entryValue (l : Launch) {D : va_G} {Y : Nat → ClassId} {A : Nat → Nat} {th mi ju lo : Int32} {f bf ca bg sz : Nat → Int32} {rs : List RV}  (hf : mrep rs f) {i : Nat} (hi : i < rs.length) {e0 : Nat} (he : e0 < enN (gt rs i)) : MuI l yX3_entryValue wsX3_entryValue 5 D Y [.ref (A 0), .int (nI (i)), .int (nI (e0))] (wM Y A (th) (nI (rs.length)) (mi) (ju) (lo) f bf ca bg sz) (mdB D Y A (nI 0) (mi) (ju) (lo) (rs)) (nI (evN (gt rs i) e0)) := by
  refine MuI.start (cc := cX3_entryValue) (maxL := 3) (rt := .int) (by decide) rfl (Nat.le_of_ble_eq_true rfl) ?_
  intro p e s m args below meth c ls AA H0 H locs Q S hK hP hD hS hl hE
  have S : CallFix p m c cX3_entryValue 3 s args wsX3_entryValue RX3 := S
  have hx := S.1
  have hb := S.2.1
  have hts := S.2.2.2.2
  have hl : lv_has ls 3 [(0, .ref (A 0)), (1, .int (nI (i))), (2, .int (nI (e0)))] := hl
  have ho := hf.1.2 i hi
  have hn := hf.1.1
  have q1 := bP_len ho
  have q2 := bD_len ho
  have q3 := bS_len ho
  have q4 := eS_lt he
  have q5 := eD_lt ho e0
  have q6 := eP_lt ho e0
  have q7 := bS_s32 ho (eS (gt rs i) e0)
  have q8 := bD_s32 ho (eD (gt rs i) e0)
  have q9 := bP_s4 ho (eP (gt rs i) e0)
  refine lv_aload_n hx hb dX3_entryValue_0 rfl (lv_at hl 0 rfl) ?_
  refine lv_aload_n hx hb dX3_entryValue_1 rfl (lv_at hl 0 rfl) ?_
  refine lv_iload_n hx hb dX3_entryValue_2 rfl (lv_at hl 1 rfl) ?_
  refine lv_iload_n hx hb dX3_entryValue_3 rfl (lv_at hl 2 rfl) ?_
  refine MuI.callV (r := (nI (1))) (As := [.int (nI (i)), .int (nI (e0))]) S (k_X3_isEntry_ok l hf hi he) (cwV 2 hts gX3_entryValue_X3_isEntry rfl rfl rfl (by decide +kernel) ⟨Nat.le_of_ble_eq_true rfl, Nat.le_of_ble_eq_true rfl⟩) hK hP hD hS (va_recv hK.1 hP (ci := 3) (q0 := 0) rfl rfl) rfl hl.1 rfl (Nat.le_of_ble_eq_true rfl) dX3_entryValue_4 ⟨Nat.zero_le _, Nat.zero_le _⟩ (fun H locs hB hS _ hkp => ?_)
  obtain ⟨bg, sz, hbr, hP⟩ := hB
  have hD : va_D AA (wM Y A (th) (nI (rs.length)) (mi) (ju) (lo) f bf ca bg sz) := va_D.same hD rfl
  refine nr_if_eq (tgt := 14) hx hb (by omega) dX3_entryValue_7 (by decide) (fun c_7 => absurd c_7 (by decide)) (fun c_7 => ?_)
  refine lv_iconst (v := (nI (0))) hx hb dX3_entryValue_10 (by decide +kernel) ?_
  refine lv_goto (tgt := 15) hx hb dX3_entryValue_11 (by decide) ?_
  refine MuI.callV (r := (nI (1))) (As := [.int (nI (0))]) S (k_holds0 l) (cwV 1 hts gX3_entryValue_X3_holds rfl rfl rfl (by decide +kernel) ⟨Nat.le_of_ble_eq_true rfl, Nat.le_of_ble_eq_true rfl⟩) hK hP hD hS (va_recv hK.1 hP (ci := 3) (q0 := 0) rfl rfl) rfl hl.1 rfl (Nat.le_of_ble_eq_true rfl) dX3_entryValue_15 ⟨Nat.zero_le _, Nat.zero_le _⟩ (fun H locs hB hS _ hkp => ?_)
  have hP : va_P D aCl (wM Y A (nI (0)) (nI (rs.length)) (mi) (ju) (lo) f bf ca bg sz) H := hB
  have hD : va_D AA (wM Y A (nI (0)) (nI (rs.length)) (mi) (ju) (lo) f bf ca bg sz) := va_D.same hD rfl
  refine nr_if_ne (tgt := 23) hx hb (by omega) dX3_entryValue_18 (by decide) (fun c_18 => ?_) (fun c_18 => absurd c_18 (by decide))
  refine lv_sipush (v := (nI (128))) hx hb dX3_entryValue_23 (by decide +kernel) ?_
  refine lv_aload_n hx hb dX3_entryValue_26 rfl (lv_at hl 0 rfl) ?_
  refine nr_get (C := RX3) (T := TX3) (N := 10) (ci := 3) S (fun _ h => List.mem_cons_of_mem _ (List.mem_append_right _ (h))) hK hP 0 rfl rfl 8 (by decide) (List.mem_of_getElem? (i := 1) rfl) rfl dX3_entryValue_27 ?_
  refine lv_aload_n hx hb dX3_entryValue_30 rfl (lv_at hl 0 rfl) ?_
  refine lv_iload_n hx hb dX3_entryValue_31 rfl (lv_at hl 1 rfl) ?_
  refine lv_iload_n hx hb dX3_entryValue_32 rfl (lv_at hl 2 rfl) ?_
  refine lv_iconst (v := (nI (0))) hx hb dX3_entryValue_33 (by decide +kernel) ?_
  refine MuI.callV (r := (nI (eS (gt rs i) e0))) (As := [.int (nI (i)), .int (nI (e0)), .int (nI (0))]) S (k_X3_blockOf_0 l hf hi he hbr) (cwV 3 hts gX3_entryValue_X3_blockOf rfl rfl rfl (by decide +kernel) ⟨Nat.le_of_ble_eq_true rfl, Nat.le_of_ble_eq_true rfl⟩) hK hP hD hS (va_recv hK.1 hP (ci := 3) (q0 := 0) rfl rfl) rfl hl.1 rfl (Nat.le_of_ble_eq_true rfl) dX3_entryValue_34 ⟨Nat.zero_le _, Nat.zero_le _⟩ (fun H locs hB hS _ hkp => ?_)
  obtain ⟨bg, sz, hbr, hP⟩ := hB
  have hD : va_D AA (wM Y A (nI (0)) (nI (rs.length)) (mi) (ju) (lo) f bf ca bg sz) := va_D.same hD rfl
  refine nr_iald (n := 24) (f := bg) S hK hP 4 rfl (by omega) (by decide) dX3_entryValue_37 ?_
  refine nr_top (y := (nI (bkB (bS (gt rs i)) (eS (gt rs i) e0)))) ((hbr.1 _ q4).1) ?_
  refine nr_imul hx hb dX3_entryValue_38 ?_
  refine lv_iconst (v := (nI (4))) hx hb dX3_entryValue_39 (by decide +kernel) ?_
  refine lv_aload_n hx hb dX3_entryValue_40 rfl (lv_at hl 0 rfl) ?_
  refine nr_get (C := RX3) (T := TX3) (N := 10) (ci := 3) S (fun _ h => List.mem_cons_of_mem _ (List.mem_append_right _ (h))) hK hP 0 rfl rfl 8 (by decide) (List.mem_of_getElem? (i := 1) rfl) rfl dX3_entryValue_41 ?_
  refine lv_aload_n hx hb dX3_entryValue_44 rfl (lv_at hl 0 rfl) ?_
  refine lv_iload_n hx hb dX3_entryValue_45 rfl (lv_at hl 1 rfl) ?_
  refine lv_iload_n hx hb dX3_entryValue_46 rfl (lv_at hl 2 rfl) ?_
  refine lv_bipush (v := (nI (8))) hx hb dX3_entryValue_47 (by decide +kernel) ?_
  refine MuI.callV (r := (nI (8 + eD (gt rs i) e0))) (As := [.int (nI (i)), .int (nI (e0)), .int (nI (8))]) S (k_X3_blockOf_8 l hf hi he hbr) (cwV 3 hts gX3_entryValue_X3_blockOf rfl rfl rfl (by decide +kernel) ⟨Nat.le_of_ble_eq_true rfl, Nat.le_of_ble_eq_true rfl⟩) hK hP hD hS (va_recv hK.1 hP (ci := 3) (q0 := 0) rfl rfl) rfl hl.1 rfl (Nat.le_of_ble_eq_true rfl) dX3_entryValue_49 ⟨Nat.zero_le _, Nat.zero_le _⟩ (fun H locs hB hS _ hkp => ?_)
  obtain ⟨bg, sz, hbr, hP⟩ := hB
  have hD : va_D AA (wM Y A (nI (0)) (nI (rs.length)) (mi) (ju) (lo) f bf ca bg sz) := va_D.same hD rfl
  refine nr_iald (n := 24) (f := bg) S hK hP 4 rfl (by omega) (by decide) dX3_entryValue_52 ?_
  refine nr_top (y := (nI (bkB (bD (gt rs i)) (eD (gt rs i) e0)))) ((hbr.2.1 _ q5).1) ?_
  refine nr_imul hx hb dX3_entryValue_53 ?_
  refine nr_iadd hx hb dX3_entryValue_54 ?_
  refine lv_aload_n hx hb dX3_entryValue_55 rfl (lv_at hl 0 rfl) ?_
  refine nr_get (C := RX3) (T := TX3) (N := 10) (ci := 3) S (fun _ h => List.mem_cons_of_mem _ (List.mem_append_right _ (h))) hK hP 0 rfl rfl 8 (by decide) (List.mem_of_getElem? (i := 1) rfl) rfl dX3_entryValue_56 ?_
  refine lv_aload_n hx hb dX3_entryValue_59 rfl (lv_at hl 0 rfl) ?_
  refine lv_iload_n hx hb dX3_entryValue_60 rfl (lv_at hl 1 rfl) ?_
  refine lv_iload_n hx hb dX3_entryValue_61 rfl (lv_at hl 2 rfl) ?_
  refine lv_bipush (v := (nI (16))) hx hb dX3_entryValue_62 (by decide +kernel) ?_
  refine MuI.callV (r := (nI (16 + eP (gt rs i) e0))) (As := [.int (nI (i)), .int (nI (e0)), .int (nI (16))]) S (k_X3_blockOf_16 l hf hi he hbr) (cwV 3 hts gX3_entryValue_X3_blockOf rfl rfl rfl (by decide +kernel) ⟨Nat.le_of_ble_eq_true rfl, Nat.le_of_ble_eq_true rfl⟩) hK hP hD hS (va_recv hK.1 hP (ci := 3) (q0 := 0) rfl rfl) rfl hl.1 rfl (Nat.le_of_ble_eq_true rfl) dX3_entryValue_64 ⟨Nat.zero_le _, Nat.zero_le _⟩ (fun H locs hB hS _ hkp => ?_)
  obtain ⟨bg, sz, hbr, hP⟩ := hB
  have hD : va_D AA (wM Y A (nI (0)) (nI (rs.length)) (mi) (ju) (lo) f bf ca bg sz) := va_D.same hD rfl
  refine nr_iald (n := 24) (f := bg) S hK hP 4 rfl (by omega) (by decide) dX3_entryValue_67 ?_
  refine nr_top (y := (nI (bkB (bP (gt rs i)) (eP (gt rs i) e0)))) ((hbr.2.2 _ q6).1) ?_
  refine nr_iadd hx hb dX3_entryValue_68 ?_
  exact hE _ _ _ _ _ dX3_entryValue_69 (vp_nar_int _) (rfl) (⟨f, bf, ca, bg, sz, hf, hP⟩) hS
set_option maxHeartbeats 4000000 in
set_option maxRecDepth 100000 in
theorem k_X3_entryMask (l : Launch) {D : va_G} {Y : Nat → ClassId} {A : Nat → Nat} {th mi ju lo : Int32} {f bf ca bg sz : Nat → Int32} {rs : List RV}  (hf : mrep rs f) {i : Nat} (hi : i < rs.length) {e0 : Nat} (he : e0 < enN (gt rs i)) : MuI l yX3_entryMask wsX3_entryMask 5 D Y [.ref (A 0), .int (nI (i)), .int (nI (e0))] (wM Y A (th) (nI (rs.length)) (mi) (ju) (lo) f bf ca bg sz) (mdB D Y A (nI 0) (mi) (ju) (lo) (rs)) (nI (emN (gt rs i) e0)) := by
  refine MuI.start (cc := cX3_entryMask) (maxL := 3) (rt := .int) (by decide) rfl (Nat.le_of_ble_eq_true rfl) ?_
  intro p e s m args below meth c ls AA H0 H locs Q S hK hP hD hS hl hE
  have S : CallFix p m c cX3_entryMask 3 s args wsX3_entryMask RX3 := S
  have hx := S.1
  have hb := S.2.1
  have hts := S.2.2.2.2
  have hl : lv_has ls 3 [(0, .ref (A 0)), (1, .int (nI (i))), (2, .int (nI (e0)))] := hl
  have ho := hf.1.2 i hi
  have hn := hf.1.1
  have q1 := bP_len ho
  have q2 := bD_len ho
  have q3 := bS_len ho
  have q4 := eS_lt he
  have q5 := eD_lt ho e0
  have q6 := eP_lt ho e0
  have q7 := bS_s32 ho (eS (gt rs i) e0)
  have q8 := bD_s32 ho (eD (gt rs i) e0)
  have q9 := bP_s4 ho (eP (gt rs i) e0)
  refine lv_aload_n hx hb dX3_entryMask_0 rfl (lv_at hl 0 rfl) ?_
  refine lv_aload_n hx hb dX3_entryMask_1 rfl (lv_at hl 0 rfl) ?_
  refine lv_iload_n hx hb dX3_entryMask_2 rfl (lv_at hl 1 rfl) ?_
  refine lv_iload_n hx hb dX3_entryMask_3 rfl (lv_at hl 2 rfl) ?_
  refine MuI.callV (r := (nI (1))) (As := [.int (nI (i)), .int (nI (e0))]) S (k_X3_isEntry_ok l hf hi he) (cwV 2 hts gX3_entryMask_X3_isEntry rfl rfl rfl (by decide +kernel) ⟨Nat.le_of_ble_eq_true rfl, Nat.le_of_ble_eq_true rfl⟩) hK hP hD hS (va_recv hK.1 hP (ci := 3) (q0 := 0) rfl rfl) rfl hl.1 rfl (Nat.le_of_ble_eq_true rfl) dX3_entryMask_4 ⟨Nat.zero_le _, Nat.zero_le _⟩ (fun H locs hB hS _ hkp => ?_)
  obtain ⟨bg, sz, hbr, hP⟩ := hB
  have hD : va_D AA (wM Y A (th) (nI (rs.length)) (mi) (ju) (lo) f bf ca bg sz) := va_D.same hD rfl
  refine nr_if_eq (tgt := 14) hx hb (by omega) dX3_entryMask_7 (by decide) (fun c_7 => absurd c_7 (by decide)) (fun c_7 => ?_)
  refine lv_iconst (v := (nI (0))) hx hb dX3_entryMask_10 (by decide +kernel) ?_
  refine lv_goto (tgt := 15) hx hb dX3_entryMask_11 (by decide) ?_
  refine MuI.callV (r := (nI (1))) (As := [.int (nI (0))]) S (k_holds0 l) (cwV 1 hts gX3_entryMask_X3_holds rfl rfl rfl (by decide +kernel) ⟨Nat.le_of_ble_eq_true rfl, Nat.le_of_ble_eq_true rfl⟩) hK hP hD hS (va_recv hK.1 hP (ci := 3) (q0 := 0) rfl rfl) rfl hl.1 rfl (Nat.le_of_ble_eq_true rfl) dX3_entryMask_15 ⟨Nat.zero_le _, Nat.zero_le _⟩ (fun H locs hB hS _ hkp => ?_)
  have hP : va_P D aCl (wM Y A (nI (0)) (nI (rs.length)) (mi) (ju) (lo) f bf ca bg sz) H := hB
  have hD : va_D AA (wM Y A (nI (0)) (nI (rs.length)) (mi) (ju) (lo) f bf ca bg sz) := va_D.same hD rfl
  refine nr_if_ne (tgt := 23) hx hb (by omega) dX3_entryMask_18 (by decide) (fun c_18 => ?_) (fun c_18 => absurd c_18 (by decide))
  refine lv_sipush (v := (nI (128))) hx hb dX3_entryMask_23 (by decide +kernel) ?_
  refine lv_bipush (v := (nI (32))) hx hb dX3_entryMask_26 (by decide +kernel) ?_
  refine lv_aload_n hx hb dX3_entryMask_28 rfl (lv_at hl 0 rfl) ?_
  refine nr_get (C := RX3) (T := TX3) (N := 10) (ci := 3) S (fun _ h => List.mem_cons_of_mem _ (List.mem_append_right _ (h))) hK hP 0 rfl rfl 9 (by decide) (List.mem_of_getElem? (i := 1) rfl) rfl dX3_entryMask_29 ?_
  refine lv_aload_n hx hb dX3_entryMask_32 rfl (lv_at hl 0 rfl) ?_
  refine lv_iload_n hx hb dX3_entryMask_33 rfl (lv_at hl 1 rfl) ?_
  refine lv_iload_n hx hb dX3_entryMask_34 rfl (lv_at hl 2 rfl) ?_
  refine lv_iconst (v := (nI (0))) hx hb dX3_entryMask_35 (by decide +kernel) ?_
  refine MuI.callV (r := (nI (eS (gt rs i) e0))) (As := [.int (nI (i)), .int (nI (e0)), .int (nI (0))]) S (k_X3_blockOf_0 l hf hi he hbr) (cwV 3 hts gX3_entryMask_X3_blockOf rfl rfl rfl (by decide +kernel) ⟨Nat.le_of_ble_eq_true rfl, Nat.le_of_ble_eq_true rfl⟩) hK hP hD hS (va_recv hK.1 hP (ci := 3) (q0 := 0) rfl rfl) rfl hl.1 rfl (Nat.le_of_ble_eq_true rfl) dX3_entryMask_36 ⟨Nat.zero_le _, Nat.zero_le _⟩ (fun H locs hB hS _ hkp => ?_)
  obtain ⟨bg, sz, hbr, hP⟩ := hB
  have hD : va_D AA (wM Y A (nI (0)) (nI (rs.length)) (mi) (ju) (lo) f bf ca bg sz) := va_D.same hD rfl
  refine nr_iald (n := 24) (f := sz) S hK hP 5 rfl (by omega) (by decide) dX3_entryMask_39 ?_
  refine nr_top (y := (nI (bkS (bS (gt rs i)) (eS (gt rs i) e0)))) ((hbr.1 _ q4).2) ?_
  refine nr_isub hx hb (by omega) dX3_entryMask_40 ?_
  refine nr_imul hx hb dX3_entryMask_41 ?_
  refine lv_iconst (v := (nI (4))) hx hb dX3_entryMask_42 (by decide +kernel) ?_
  refine lv_bipush (v := (nI (32))) hx hb dX3_entryMask_43 (by decide +kernel) ?_
  refine lv_aload_n hx hb dX3_entryMask_45 rfl (lv_at hl 0 rfl) ?_
  refine nr_get (C := RX3) (T := TX3) (N := 10) (ci := 3) S (fun _ h => List.mem_cons_of_mem _ (List.mem_append_right _ (h))) hK hP 0 rfl rfl 9 (by decide) (List.mem_of_getElem? (i := 1) rfl) rfl dX3_entryMask_46 ?_
  refine lv_aload_n hx hb dX3_entryMask_49 rfl (lv_at hl 0 rfl) ?_
  refine lv_iload_n hx hb dX3_entryMask_50 rfl (lv_at hl 1 rfl) ?_
  refine lv_iload_n hx hb dX3_entryMask_51 rfl (lv_at hl 2 rfl) ?_
  refine lv_bipush (v := (nI (8))) hx hb dX3_entryMask_52 (by decide +kernel) ?_
  refine MuI.callV (r := (nI (8 + eD (gt rs i) e0))) (As := [.int (nI (i)), .int (nI (e0)), .int (nI (8))]) S (k_X3_blockOf_8 l hf hi he hbr) (cwV 3 hts gX3_entryMask_X3_blockOf rfl rfl rfl (by decide +kernel) ⟨Nat.le_of_ble_eq_true rfl, Nat.le_of_ble_eq_true rfl⟩) hK hP hD hS (va_recv hK.1 hP (ci := 3) (q0 := 0) rfl rfl) rfl hl.1 rfl (Nat.le_of_ble_eq_true rfl) dX3_entryMask_54 ⟨Nat.zero_le _, Nat.zero_le _⟩ (fun H locs hB hS _ hkp => ?_)
  obtain ⟨bg, sz, hbr, hP⟩ := hB
  have hD : va_D AA (wM Y A (nI (0)) (nI (rs.length)) (mi) (ju) (lo) f bf ca bg sz) := va_D.same hD rfl
  refine nr_iald (n := 24) (f := sz) S hK hP 5 rfl (by omega) (by decide) dX3_entryMask_57 ?_
  refine nr_top (y := (nI (bkS (bD (gt rs i)) (eD (gt rs i) e0)))) ((hbr.2.1 _ q5).2) ?_
  refine nr_isub hx hb (by omega) dX3_entryMask_58 ?_
  refine nr_imul hx hb dX3_entryMask_59 ?_
  refine nr_iadd hx hb dX3_entryMask_60 ?_
  refine lv_iconst (v := (nI (4))) hx hb dX3_entryMask_61 (by decide +kernel) ?_
  refine nr_iadd hx hb dX3_entryMask_62 ?_
  refine lv_aload_n hx hb dX3_entryMask_63 rfl (lv_at hl 0 rfl) ?_
  refine nr_get (C := RX3) (T := TX3) (N := 10) (ci := 3) S (fun _ h => List.mem_cons_of_mem _ (List.mem_append_right _ (h))) hK hP 0 rfl rfl 9 (by decide) (List.mem_of_getElem? (i := 1) rfl) rfl dX3_entryMask_64 ?_
  refine lv_aload_n hx hb dX3_entryMask_67 rfl (lv_at hl 0 rfl) ?_
  refine lv_iload_n hx hb dX3_entryMask_68 rfl (lv_at hl 1 rfl) ?_
  refine lv_iload_n hx hb dX3_entryMask_69 rfl (lv_at hl 2 rfl) ?_
  refine lv_bipush (v := (nI (16))) hx hb dX3_entryMask_70 (by decide +kernel) ?_
  refine MuI.callV (r := (nI (16 + eP (gt rs i) e0))) (As := [.int (nI (i)), .int (nI (e0)), .int (nI (16))]) S (k_X3_blockOf_16 l hf hi he hbr) (cwV 3 hts gX3_entryMask_X3_blockOf rfl rfl rfl (by decide +kernel) ⟨Nat.le_of_ble_eq_true rfl, Nat.le_of_ble_eq_true rfl⟩) hK hP hD hS (va_recv hK.1 hP (ci := 3) (q0 := 0) rfl rfl) rfl hl.1 rfl (Nat.le_of_ble_eq_true rfl) dX3_entryMask_72 ⟨Nat.zero_le _, Nat.zero_le _⟩ (fun H locs hB hS _ hkp => ?_)
  obtain ⟨bg, sz, hbr, hP⟩ := hB
  have hD : va_D AA (wM Y A (nI (0)) (nI (rs.length)) (mi) (ju) (lo) f bf ca bg sz) := va_D.same hD rfl
  refine nr_iald (n := 24) (f := sz) S hK hP 5 rfl (by omega) (by decide) dX3_entryMask_75 ?_
  refine nr_top (y := (nI (bkS (bP (gt rs i)) (eP (gt rs i) e0)))) ((hbr.2.2 _ q6).2) ?_
  refine nr_isub hx hb (by omega) dX3_entryMask_76 ?_
  exact hE _ _ _ _ _ dX3_entryMask_77 (vp_nar_int _) (rfl) (⟨f, bf, ca, bg, sz, hf, hP⟩) hS
set_option maxHeartbeats 4000000 in
set_option maxRecDepth 100000 in
theorem k_X3_entryValue_xe (l : Launch) {D : va_G} {Y : Nat → ClassId} {A : Nat → Nat} {th mi ju lo : Int32} {f bf ca bg sz : Nat → Int32} {rs : List RV}  (hf : mrep rs f) {i : Nat} (hi : i < rs.length) {en : Int32} (he : inI en (nI 0) (nI (enN (gt rs i)) - nI 1) = false) : MuI l yX3_entryValue wsX3_entryValue 5 D Y [.ref (A 0), .int (nI (i)), .int (en)] (wM Y A (th) (nI (rs.length)) (mi) (ju) (lo) f bf ca bg sz) (mdB D Y A (nI 1) (mi) (ju) (lo) (rs)) (nI 0) := by
  refine MuI.start (cc := cX3_entryValue) (maxL := 3) (rt := .int) (by decide) rfl (Nat.le_of_ble_eq_true rfl) ?_
  intro p e s m args below meth c ls AA H0 H locs Q S hK hP hD hS hl hE
  have S : CallFix p m c cX3_entryValue 3 s args wsX3_entryValue RX3 := S
  have hx := S.1
  have hb := S.2.1
  have hts := S.2.2.2.2
  have hl : lv_has ls 3 [(0, .ref (A 0)), (1, .int (nI (i))), (2, .int (en))] := hl
  have ho := hf.1.2 i hi
  have hn := hf.1.1
  refine lv_aload_n hx hb dX3_entryValue_0 rfl (lv_at hl 0 rfl) ?_
  refine lv_aload_n hx hb dX3_entryValue_1 rfl (lv_at hl 0 rfl) ?_
  refine lv_iload_n hx hb dX3_entryValue_2 rfl (lv_at hl 1 rfl) ?_
  refine lv_iload_n hx hb dX3_entryValue_3 rfl (lv_at hl 2 rfl) ?_
  refine MuI.callV (r := (nI (0))) (As := [.int (nI (i)), .int (en)]) S (k_X3_isEntry_xe l hf hi he) (cwV 2 hts gX3_entryValue_X3_isEntry rfl rfl rfl (by decide +kernel) ⟨Nat.le_of_ble_eq_true rfl, Nat.le_of_ble_eq_true rfl⟩) hK hP hD hS (va_recv hK.1 hP (ci := 3) (q0 := 0) rfl rfl) rfl hl.1 rfl (Nat.le_of_ble_eq_true rfl) dX3_entryValue_4 ⟨Nat.zero_le _, Nat.zero_le _⟩ (fun H locs hB hS _ hkp => ?_)
  obtain ⟨bg, sz, hbr, hP⟩ := hB
  have hD : va_D AA (wM Y A (th) (nI (rs.length)) (mi) (ju) (lo) f bf ca bg sz) := va_D.same hD rfl
  refine nr_if_eq (tgt := 14) hx hb (by omega) dX3_entryValue_7 (by decide) (fun c_7 => ?_) (fun c_7 => absurd c_7 (by decide))
  refine lv_iconst (v := (nI (1))) hx hb dX3_entryValue_14 (by decide +kernel) ?_
  refine MuI.callV (r := (nI (0))) (As := [.int (nI (1))]) S (k_holdsN l (by decide)) (cwV 1 hts gX3_entryValue_X3_holds rfl rfl rfl (by decide +kernel) ⟨Nat.le_of_ble_eq_true rfl, Nat.le_of_ble_eq_true rfl⟩) hK hP hD hS (va_recv hK.1 hP (ci := 3) (q0 := 0) rfl rfl) rfl hl.1 rfl (Nat.le_of_ble_eq_true rfl) dX3_entryValue_15 ⟨Nat.zero_le _, Nat.zero_le _⟩ (fun H locs hB hS _ hkp => ?_)
  have hP : va_P D aCl (wM Y A (nI (1)) (nI (rs.length)) (mi) (ju) (lo) f bf ca bg sz) H := hB
  have hD : va_D AA (wM Y A (nI (1)) (nI (rs.length)) (mi) (ju) (lo) f bf ca bg sz) := va_D.same hD rfl
  refine nr_if_ne (tgt := 23) hx hb (by omega) dX3_entryValue_18 (by decide) (fun c_18 => absurd c_18 (by decide)) (fun c_18 => ?_)
  refine lv_iconst (v := (nI (0))) hx hb dX3_entryValue_21 (by decide +kernel) ?_
  exact hE _ _ _ _ _ dX3_entryValue_22 (vp_nar_int _) (rfl) (⟨f, bf, ca, bg, sz, hf, hP⟩) hS
set_option maxHeartbeats 4000000 in
set_option maxRecDepth 100000 in
theorem k_X3_entryValue_xp (l : Launch) {D : va_G} {Y : Nat → ClassId} {A : Nat → Nat} {th mi ju lo : Int32} {f bf ca bg sz : Nat → Int32} {rs : List RV}  (hf : mrep rs f) {pl en : Int32} (hpl : plI pl rs.length = false) : MuI l yX3_entryValue wsX3_entryValue 5 D Y [.ref (A 0), .int (pl), .int (en)] (wM Y A (th) (nI (rs.length)) (mi) (ju) (lo) f bf ca bg sz) (mdB D Y A (nI 1) (mi) (ju) (lo) (rs)) (nI 0) := by
  refine MuI.start (cc := cX3_entryValue) (maxL := 3) (rt := .int) (by decide) rfl (Nat.le_of_ble_eq_true rfl) ?_
  intro p e s m args below meth c ls AA H0 H locs Q S hK hP hD hS hl hE
  have S : CallFix p m c cX3_entryValue 3 s args wsX3_entryValue RX3 := S
  have hx := S.1
  have hb := S.2.1
  have hts := S.2.2.2.2
  have hl : lv_has ls 3 [(0, .ref (A 0)), (1, .int (pl)), (2, .int (en))] := hl
  refine lv_aload_n hx hb dX3_entryValue_0 rfl (lv_at hl 0 rfl) ?_
  refine lv_aload_n hx hb dX3_entryValue_1 rfl (lv_at hl 0 rfl) ?_
  refine lv_iload_n hx hb dX3_entryValue_2 rfl (lv_at hl 1 rfl) ?_
  refine lv_iload_n hx hb dX3_entryValue_3 rfl (lv_at hl 2 rfl) ?_
  refine MuI.callV (r := (nI (0))) (As := [.int (pl), .int (en)]) S (k_X3_isEntry_xp l hpl) (cwV 2 hts gX3_entryValue_X3_isEntry rfl rfl rfl (by decide +kernel) ⟨Nat.le_of_ble_eq_true rfl, Nat.le_of_ble_eq_true rfl⟩) hK hP hD hS (va_recv hK.1 hP (ci := 3) (q0 := 0) rfl rfl) rfl hl.1 rfl (Nat.le_of_ble_eq_true rfl) dX3_entryValue_4 ⟨Nat.zero_le _, Nat.zero_le _⟩ (fun H locs hB hS _ hkp => ?_)
  have hP : va_P D aCl (wM Y A (th) (nI (rs.length)) (mi) (ju) (lo) f bf ca bg sz) H := hB
  have hD : va_D AA (wM Y A (th) (nI (rs.length)) (mi) (ju) (lo) f bf ca bg sz) := va_D.same hD rfl
  refine nr_if_eq (tgt := 14) hx hb (by omega) dX3_entryValue_7 (by decide) (fun c_7 => ?_) (fun c_7 => absurd c_7 (by decide))
  refine lv_iconst (v := (nI (1))) hx hb dX3_entryValue_14 (by decide +kernel) ?_
  refine MuI.callV (r := (nI (0))) (As := [.int (nI (1))]) S (k_holdsN l (by decide)) (cwV 1 hts gX3_entryValue_X3_holds rfl rfl rfl (by decide +kernel) ⟨Nat.le_of_ble_eq_true rfl, Nat.le_of_ble_eq_true rfl⟩) hK hP hD hS (va_recv hK.1 hP (ci := 3) (q0 := 0) rfl rfl) rfl hl.1 rfl (Nat.le_of_ble_eq_true rfl) dX3_entryValue_15 ⟨Nat.zero_le _, Nat.zero_le _⟩ (fun H locs hB hS _ hkp => ?_)
  have hP : va_P D aCl (wM Y A (nI (1)) (nI (rs.length)) (mi) (ju) (lo) f bf ca bg sz) H := hB
  have hD : va_D AA (wM Y A (nI (1)) (nI (rs.length)) (mi) (ju) (lo) f bf ca bg sz) := va_D.same hD rfl
  refine nr_if_ne (tgt := 23) hx hb (by omega) dX3_entryValue_18 (by decide) (fun c_18 => absurd c_18 (by decide)) (fun c_18 => ?_)
  refine lv_iconst (v := (nI (0))) hx hb dX3_entryValue_21 (by decide +kernel) ?_
  exact hE _ _ _ _ _ dX3_entryValue_22 (vp_nar_int _) (rfl) (⟨f, bf, ca, bg, sz, hf, hP⟩) hS
set_option maxHeartbeats 4000000 in
set_option maxRecDepth 100000 in
theorem k_X3_entryMask_xe (l : Launch) {D : va_G} {Y : Nat → ClassId} {A : Nat → Nat} {th mi ju lo : Int32} {f bf ca bg sz : Nat → Int32} {rs : List RV}  (hf : mrep rs f) {i : Nat} (hi : i < rs.length) {en : Int32} (he : inI en (nI 0) (nI (enN (gt rs i)) - nI 1) = false) : MuI l yX3_entryMask wsX3_entryMask 5 D Y [.ref (A 0), .int (nI (i)), .int (en)] (wM Y A (th) (nI (rs.length)) (mi) (ju) (lo) f bf ca bg sz) (mdB D Y A (nI 1) (mi) (ju) (lo) (rs)) (nI 0) := by
  refine MuI.start (cc := cX3_entryMask) (maxL := 3) (rt := .int) (by decide) rfl (Nat.le_of_ble_eq_true rfl) ?_
  intro p e s m args below meth c ls AA H0 H locs Q S hK hP hD hS hl hE
  have S : CallFix p m c cX3_entryMask 3 s args wsX3_entryMask RX3 := S
  have hx := S.1
  have hb := S.2.1
  have hts := S.2.2.2.2
  have hl : lv_has ls 3 [(0, .ref (A 0)), (1, .int (nI (i))), (2, .int (en))] := hl
  have ho := hf.1.2 i hi
  have hn := hf.1.1
  refine lv_aload_n hx hb dX3_entryMask_0 rfl (lv_at hl 0 rfl) ?_
  refine lv_aload_n hx hb dX3_entryMask_1 rfl (lv_at hl 0 rfl) ?_
  refine lv_iload_n hx hb dX3_entryMask_2 rfl (lv_at hl 1 rfl) ?_
  refine lv_iload_n hx hb dX3_entryMask_3 rfl (lv_at hl 2 rfl) ?_
  refine MuI.callV (r := (nI (0))) (As := [.int (nI (i)), .int (en)]) S (k_X3_isEntry_xe l hf hi he) (cwV 2 hts gX3_entryMask_X3_isEntry rfl rfl rfl (by decide +kernel) ⟨Nat.le_of_ble_eq_true rfl, Nat.le_of_ble_eq_true rfl⟩) hK hP hD hS (va_recv hK.1 hP (ci := 3) (q0 := 0) rfl rfl) rfl hl.1 rfl (Nat.le_of_ble_eq_true rfl) dX3_entryMask_4 ⟨Nat.zero_le _, Nat.zero_le _⟩ (fun H locs hB hS _ hkp => ?_)
  obtain ⟨bg, sz, hbr, hP⟩ := hB
  have hD : va_D AA (wM Y A (th) (nI (rs.length)) (mi) (ju) (lo) f bf ca bg sz) := va_D.same hD rfl
  refine nr_if_eq (tgt := 14) hx hb (by omega) dX3_entryMask_7 (by decide) (fun c_7 => ?_) (fun c_7 => absurd c_7 (by decide))
  refine lv_iconst (v := (nI (1))) hx hb dX3_entryMask_14 (by decide +kernel) ?_
  refine MuI.callV (r := (nI (0))) (As := [.int (nI (1))]) S (k_holdsN l (by decide)) (cwV 1 hts gX3_entryMask_X3_holds rfl rfl rfl (by decide +kernel) ⟨Nat.le_of_ble_eq_true rfl, Nat.le_of_ble_eq_true rfl⟩) hK hP hD hS (va_recv hK.1 hP (ci := 3) (q0 := 0) rfl rfl) rfl hl.1 rfl (Nat.le_of_ble_eq_true rfl) dX3_entryMask_15 ⟨Nat.zero_le _, Nat.zero_le _⟩ (fun H locs hB hS _ hkp => ?_)
  have hP : va_P D aCl (wM Y A (nI (1)) (nI (rs.length)) (mi) (ju) (lo) f bf ca bg sz) H := hB
  have hD : va_D AA (wM Y A (nI (1)) (nI (rs.length)) (mi) (ju) (lo) f bf ca bg sz) := va_D.same hD rfl
  refine nr_if_ne (tgt := 23) hx hb (by omega) dX3_entryMask_18 (by decide) (fun c_18 => absurd c_18 (by decide)) (fun c_18 => ?_)
  refine lv_iconst (v := (nI (0))) hx hb dX3_entryMask_21 (by decide +kernel) ?_
  exact hE _ _ _ _ _ dX3_entryMask_22 (vp_nar_int _) (rfl) (⟨f, bf, ca, bg, sz, hf, hP⟩) hS
set_option maxHeartbeats 4000000 in
set_option maxRecDepth 100000 in
theorem k_X3_entryMask_xp (l : Launch) {D : va_G} {Y : Nat → ClassId} {A : Nat → Nat} {th mi ju lo : Int32} {f bf ca bg sz : Nat → Int32} {rs : List RV}  (hf : mrep rs f) {pl en : Int32} (hpl : plI pl rs.length = false) : MuI l yX3_entryMask wsX3_entryMask 5 D Y [.ref (A 0), .int (pl), .int (en)] (wM Y A (th) (nI (rs.length)) (mi) (ju) (lo) f bf ca bg sz) (mdB D Y A (nI 1) (mi) (ju) (lo) (rs)) (nI 0) := by
  refine MuI.start (cc := cX3_entryMask) (maxL := 3) (rt := .int) (by decide) rfl (Nat.le_of_ble_eq_true rfl) ?_
  intro p e s m args below meth c ls AA H0 H locs Q S hK hP hD hS hl hE
  have S : CallFix p m c cX3_entryMask 3 s args wsX3_entryMask RX3 := S
  have hx := S.1
  have hb := S.2.1
  have hts := S.2.2.2.2
  have hl : lv_has ls 3 [(0, .ref (A 0)), (1, .int (pl)), (2, .int (en))] := hl
  refine lv_aload_n hx hb dX3_entryMask_0 rfl (lv_at hl 0 rfl) ?_
  refine lv_aload_n hx hb dX3_entryMask_1 rfl (lv_at hl 0 rfl) ?_
  refine lv_iload_n hx hb dX3_entryMask_2 rfl (lv_at hl 1 rfl) ?_
  refine lv_iload_n hx hb dX3_entryMask_3 rfl (lv_at hl 2 rfl) ?_
  refine MuI.callV (r := (nI (0))) (As := [.int (pl), .int (en)]) S (k_X3_isEntry_xp l hpl) (cwV 2 hts gX3_entryMask_X3_isEntry rfl rfl rfl (by decide +kernel) ⟨Nat.le_of_ble_eq_true rfl, Nat.le_of_ble_eq_true rfl⟩) hK hP hD hS (va_recv hK.1 hP (ci := 3) (q0 := 0) rfl rfl) rfl hl.1 rfl (Nat.le_of_ble_eq_true rfl) dX3_entryMask_4 ⟨Nat.zero_le _, Nat.zero_le _⟩ (fun H locs hB hS _ hkp => ?_)
  have hP : va_P D aCl (wM Y A (th) (nI (rs.length)) (mi) (ju) (lo) f bf ca bg sz) H := hB
  have hD : va_D AA (wM Y A (th) (nI (rs.length)) (mi) (ju) (lo) f bf ca bg sz) := va_D.same hD rfl
  refine nr_if_eq (tgt := 14) hx hb (by omega) dX3_entryMask_7 (by decide) (fun c_7 => ?_) (fun c_7 => absurd c_7 (by decide))
  refine lv_iconst (v := (nI (1))) hx hb dX3_entryMask_14 (by decide +kernel) ?_
  refine MuI.callV (r := (nI (0))) (As := [.int (nI (1))]) S (k_holdsN l (by decide)) (cwV 1 hts gX3_entryMask_X3_holds rfl rfl rfl (by decide +kernel) ⟨Nat.le_of_ble_eq_true rfl, Nat.le_of_ble_eq_true rfl⟩) hK hP hD hS (va_recv hK.1 hP (ci := 3) (q0 := 0) rfl rfl) rfl hl.1 rfl (Nat.le_of_ble_eq_true rfl) dX3_entryMask_15 ⟨Nat.zero_le _, Nat.zero_le _⟩ (fun H locs hB hS _ hkp => ?_)
  have hP : va_P D aCl (wM Y A (nI (1)) (nI (rs.length)) (mi) (ju) (lo) f bf ca bg sz) H := hB
  have hD : va_D AA (wM Y A (nI (1)) (nI (rs.length)) (mi) (ju) (lo) f bf ca bg sz) := va_D.same hD rfl
  refine nr_if_ne (tgt := 23) hx hb (by omega) dX3_entryMask_18 (by decide) (fun c_18 => absurd c_18 (by decide)) (fun c_18 => ?_)
  refine lv_iconst (v := (nI (0))) hx hb dX3_entryMask_21 (by decide +kernel) ?_
  exact hE _ _ _ _ _ dX3_entryMask_22 (vp_nar_int _) (rfl) (⟨f, bf, ca, bg, sz, hf, hP⟩) hS
