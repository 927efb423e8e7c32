/-! the law's helpers -/
set_option maxHeartbeats 4000000 in
set_option maxRecDepth 100000 in
/-- its call returns -/
theorem hu_remove (l : Launch) {D : va_G} {Y : Nat → ClassId} {H0 : Heap} {F : Nat → Prop} {t0 x o : Nat} {fsx : List Value} {a0 : Int32} {r : Int32} {B : Heap → Prop} {w0 : Int64} {dM mM sM : Nat} (hM : UC l yX2_remove wsX2_remove dM mM sM D Y (eL t0 F (fun q => F q ∨ q = o)) [.ref x, .int a0] H0 F (bI_ r B)) (hO : oB D Y o w0 H0) (hoF : ¬ F o) (hX : va_P D aCl [(x, .inr (2, fsx))] H0) : UC l yL_remove wsL_remove (dM + 1) mM sM D Y (eL t0 F (fun q => F q ∨ q = o)) [.ref x, .int a0, .ref o] H0 (fun q => F q ∨ q = o) (bI_ (nI 0) (fun H1 => ∃ H2 : Heap, B H2 ∧ (∀ q, q ≠ o → H1[q]? = H2[q]?) ∧ H2.size = H1.size ∧ (∀ q : Nat, q < H0.size → ¬ F q → H2[q]? = H0[q]?) ∧ oB D Y o (r.toInt64) H1)) := by
  refine UCw.start (cc := cL_remove) (maxL := 4) (rt := .int) (hh := [(0, 9, 12, 21)]) (by decide) rfl (Nat.le_of_ble_eq_true rfl) ?_
  intro p e s m args below meth c ls Q S hK hH0 hE0 hl htab hE
  have S : CallFix p m c cL_remove 4 s args wsL_remove RL := S
  have hx := S.1
  have hb := S.2.1
  have hts := S.2.2.2.2
  have hl : lv_has ls 4 [(0, .ref x), (1, .int a0), (2, .ref o)] := hl
  have hS : va_S (fun q => F q ∨ q = o) H0 H0 [] := va_S.rf
  refine lv_aload_n hx hb dL_remove_0 rfl (lv_at hl 2 rfl) ?_
  refine lv_iconst (v := nI 0) hx hb dL_remove_1 (by decide +kernel) ?_
  refine lv_aload_n hx hb dL_remove_2 rfl (lv_at hl 0 rfl) ?_
  refine lv_iload_n hx hb dL_remove_3 rfl (lv_at hl 1 rfl) ?_
  refine UC.callV (As := [.int a0]) S hM (cwV 1 hts gL_remove_X2_remove rfl rfl rfl (by decide +kernel) ⟨Nat.le_refl _, (by show 8 + (2 + 11) + 40 * dM ≤ 40 * (dM + 1); omega)⟩) hK eL_bl (fun U hW hU => eL.go hE0 hW (hU.trans hH0.symm)) hS (fun q h => Or.inl h) (va_recv hK.1 hX (ci := 2) (q0 := 0) rfl rfl) rfl hl.1 rfl (Nat.le_of_ble_eq_true rfl) dL_remove_4 ⟨(by show 0 + mM ≤ mM; omega), (by show 0 + sM ≤ sM; omega)⟩ (fun v H locs hB hS hsz hkp => ?_)
  obtain ⟨rfl, hB⟩ := hB
  have hO1 := hO.kept (hkp o hO.lt hoF)
  refine lv_i2l (v := r.toInt64) hx hb dL_remove_7 rfl ?_
  refine nr_last0 S hK hO1 (Or.inr rfl) hS dL_remove_8 (fun H9 locs hO2 hne hsz2 hS => ?_)
  refine lv_goto (tgt := 15) hx hb dL_remove_9 (by decide) ?_
  refine lv_iconst (v := nI 0) hx hb dL_remove_15 (by decide +kernel) ?_
  refine W.widen (k := mM) (n := sM) (by omega) (by omega) ?_
  exact hE _ _ _ _ _ dL_remove_16 rfl rfl ⟨H, hB, hne, hsz2.symm, hkp, hO2⟩ hS
set_option maxHeartbeats 4000000 in
set_option maxRecDepth 100000 in
/-- its call throws -/
theorem ht_remove1 (l : Launch) {D : va_G} {Y : Nat → ClassId} {H0 : Heap} {F : Nat → Prop} {t0 x o : Nat} {fsx : List Value} {a0 : Int32} {dM : Nat} (hM : Th l yX2_remove wsX2_remove dM D Y (fun q => F q ∨ q = o) [.ref x, .int a0] H0 xIO) (hX : va_P D aCl [(x, .inr (2, fsx))] H0) : UC l yL_remove wsL_remove (dM + 1) 1 6 D Y (eL t0 F (fun q => F q ∨ q = o)) [.ref x, .int a0, .ref o] H0 (fun q => F q ∨ q = o) (bI_ (nI 1) (fun H1 => H0.size ≤ H1.size ∧ ∀ q : Nat, q < H0.size → H1[q]? = H0[q]?)) := by
  refine UCw.start (cc := cL_remove) (maxL := 4) (rt := .int) (hh := [(0, 9, 12, 21)]) (by decide) rfl (Nat.le_of_ble_eq_true rfl) ?_
  intro p e s m args below meth c ls Q S hK hH0 hE0 hl htab hE
  have S : CallFix p m c cL_remove 4 s args wsL_remove RL := S
  have hx := S.1
  have hb := S.2.1
  have hts := S.2.2.2.2
  have hl : lv_has ls 4 [(0, .ref x), (1, .int a0), (2, .ref o)] := hl
  have hS : va_S (fun q => F q ∨ q = o) H0 H0 [] := va_S.rf
  refine lv_aload_n hx hb dL_remove_0 rfl (lv_at hl 2 rfl) ?_
  refine lv_iconst (v := nI 0) hx hb dL_remove_1 (by decide +kernel) ?_
  refine lv_aload_n hx hb dL_remove_2 rfl (lv_at hl 0 rfl) ?_
  refine lv_iload_n hx hb dL_remove_3 rfl (lv_at hl 1 rfl) ?_
  refine Th.catchV (As := [.int a0]) (name := xIO) S hM (cwV 1 hts gL_remove_X2_remove rfl rfl rfl (by decide +kernel) ⟨Nat.le_refl _, (by show 8 + (2 + 11) + 40 * dM ≤ 40 * (dM + 1); omega)⟩) hK (by rw [← hH0]; exact hE0.2.1) hS (va_recv hK.1 hX (ci := 2) (q0 := 0) rfl rfl) rfl hl.1 rfl (Nat.le_of_ble_eq_true rfl) dL_remove_4 ⟨Nat.le_of_ble_eq_true rfl, Nat.le_of_ble_eq_true rfl⟩ [] ⟨0, 9, 12, 21⟩ [] (by rw [htab]; rfl) (fun z hz => absurd hz List.not_mem_nil) (by decide) (by decide) (hts _ (List.mem_of_getElem? (i := 1) rfl)) (va_Nw.use (xB_on _ (by decide +kernel)) (hE0.2.1.2.2.1 (.castable xIO xIO) (by decide +kernel))) (fun q9 H1 hz hk hS => ?_)
  refine lv_astore_n (lv' := [(3, .ref q9), (0, .ref x), (1, .int a0), (2, .ref o)]) hx hb dL_remove_12 rfl hl (by decide) rfl (fun ls hl => ?_)
  refine lv_iconst (v := nI 1) hx hb dL_remove_13 (by decide +kernel) ?_
  exact hE _ _ _ _ _ dL_remove_14 rfl rfl ⟨hz, hk⟩ hS
set_option maxHeartbeats 4000000 in
set_option maxRecDepth 100000 in
/-- its call returns -/
theorem hu_move (l : Launch) {D : va_G} {Y : Nat → ClassId} {H0 : Heap} {F : Nat → Prop} {t0 x o : Nat} {fsx : List Value} {a0 : Int32} {a1 : Int32} {r : Int32} {B : Heap → Prop} {w0 : Int64} {dM mM sM : Nat} (hM : UC l yX2_move wsX2_move dM mM sM D Y (eL t0 F (fun q => F q ∨ q = o)) [.ref x, .int a0, .int a1] H0 F (bI_ r B)) (hO : oB D Y o w0 H0) (hoF : ¬ F o) (hX : va_P D aCl [(x, .inr (2, fsx))] H0) : UC l yL_move wsL_move (dM + 1) mM sM D Y (eL t0 F (fun q => F q ∨ q = o)) [.ref x, .int a0, .int a1, .ref o] H0 (fun q => F q ∨ q = o) (bI_ (nI 0) (fun H1 => ∃ H2 : Heap, B H2 ∧ (∀ q, q ≠ o → H1[q]? = H2[q]?) ∧ H2.size = H1.size ∧ (∀ q : Nat, q < H0.size → ¬ F q → H2[q]? = H0[q]?) ∧ oB D Y o (r.toInt64) H1)) := by
  refine UCw.start (cc := cL_move) (maxL := 5) (rt := .int) (hh := [(0, 10, 13, 21)]) (by decide) rfl (Nat.le_of_ble_eq_true rfl) ?_
  intro p e s m args below meth c ls Q S hK hH0 hE0 hl htab hE
  have S : CallFix p m c cL_move 5 s args wsL_move RL := S
  have hx := S.1
  have hb := S.2.1
  have hts := S.2.2.2.2
  have hl : lv_has ls 5 [(0, .ref x), (1, .int a0), (2, .int a1), (3, .ref o)] := hl
  have hS : va_S (fun q => F q ∨ q = o) H0 H0 [] := va_S.rf
  refine lv_aload_n hx hb dL_move_0 rfl (lv_at hl 3 rfl) ?_
  refine lv_iconst (v := nI 0) hx hb dL_move_1 (by decide +kernel) ?_
  refine lv_aload_n hx hb dL_move_2 rfl (lv_at hl 0 rfl) ?_
  refine lv_iload_n hx hb dL_move_3 rfl (lv_at hl 1 rfl) ?_
  refine lv_iload_n hx hb dL_move_4 rfl (lv_at hl 2 rfl) ?_
  refine UC.callV (As := [.int a0, .int a1]) S hM (cwV 2 hts gL_move_X2_move rfl rfl rfl (by decide +kernel) ⟨Nat.le_refl _, (by show 8 + (4 + 11) + 40 * dM ≤ 40 * (dM + 1); omega)⟩) hK eL_bl (fun U hW hU => eL.go hE0 hW (hU.trans hH0.symm)) hS (fun q h => Or.inl h) (va_recv hK.1 hX (ci := 2) (q0 := 0) rfl rfl) rfl hl.1 rfl (Nat.le_of_ble_eq_true rfl) dL_move_5 ⟨(by show 0 + mM ≤ mM; omega), (by show 0 + sM ≤ sM; omega)⟩ (fun v H locs hB hS hsz hkp => ?_)
  obtain ⟨rfl, hB⟩ := hB
  have hO1 := hO.kept (hkp o hO.lt hoF)
  refine lv_i2l (v := r.toInt64) hx hb dL_move_8 rfl ?_
  refine nr_last0 S hK hO1 (Or.inr rfl) hS dL_move_9 (fun H9 locs hO2 hne hsz2 hS => ?_)
  refine lv_goto (tgt := 17) hx hb dL_move_10 (by decide) ?_
  refine lv_iconst (v := nI 0) hx hb dL_move_17 (by decide +kernel) ?_
  refine W.widen (k := mM) (n := sM) (by omega) (by omega) ?_
  exact hE _ _ _ _ _ dL_move_18 rfl rfl ⟨H, hB, hne, hsz2.symm, hkp, hO2⟩ hS
set_option maxHeartbeats 4000000 in
set_option maxRecDepth 100000 in
/-- its call throws -/
theorem ht_move1 (l : Launch) {D : va_G} {Y : Nat → ClassId} {H0 : Heap} {F : Nat → Prop} {t0 x o : Nat} {fsx : List Value} {a0 : Int32} {a1 : Int32} {dM : Nat} (hM : Th l yX2_move wsX2_move dM D Y (fun q => F q ∨ q = o) [.ref x, .int a0, .int a1] H0 xIO) (hX : va_P D aCl [(x, .inr (2, fsx))] H0) : UC l yL_move wsL_move (dM + 1) 1 6 D Y (eL t0 F (fun q => F q ∨ q = o)) [.ref x, .int a0, .int a1, .ref o] H0 (fun q => F q ∨ q = o) (bI_ (nI 1) (fun H1 => H0.size ≤ H1.size ∧ ∀ q : Nat, q < H0.size → H1[q]? = H0[q]?)) := by
  refine UCw.start (cc := cL_move) (maxL := 5) (rt := .int) (hh := [(0, 10, 13, 21)]) (by decide) rfl (Nat.le_of_ble_eq_true rfl) ?_
  intro p e s m args below meth c ls Q S hK hH0 hE0 hl htab hE
  have S : CallFix p m c cL_move 5 s args wsL_move RL := S
  have hx := S.1
  have hb := S.2.1
  have hts := S.2.2.2.2
  have hl : lv_has ls 5 [(0, .ref x), (1, .int a0), (2, .int a1), (3, .ref o)] := hl
  have hS : va_S (fun q => F q ∨ q = o) H0 H0 [] := va_S.rf
  refine lv_aload_n hx hb dL_move_0 rfl (lv_at hl 3 rfl) ?_
  refine lv_iconst (v := nI 0) hx hb dL_move_1 (by decide +kernel) ?_
  refine lv_aload_n hx hb dL_move_2 rfl (lv_at hl 0 rfl) ?_
  refine lv_iload_n hx hb dL_move_3 rfl (lv_at hl 1 rfl) ?_
  refine lv_iload_n hx hb dL_move_4 rfl (lv_at hl 2 rfl) ?_
  refine Th.catchV (As := [.int a0, .int a1]) (name := xIO) S hM (cwV 2 hts gL_move_X2_move rfl rfl rfl (by decide +kernel) ⟨Nat.le_refl _, (by show 8 + (4 + 11) + 40 * dM ≤ 40 * (dM + 1); omega)⟩) hK (by rw [← hH0]; exact hE0.2.1) hS (va_recv hK.1 hX (ci := 2) (q0 := 0) rfl rfl) rfl hl.1 rfl (Nat.le_of_ble_eq_true rfl) dL_move_5 ⟨Nat.le_of_ble_eq_true rfl, Nat.le_of_ble_eq_true rfl⟩ [] ⟨0, 10, 13, 21⟩ [] (by rw [htab]; rfl) (fun z hz => absurd hz List.not_mem_nil) (by decide) (by decide) (hts _ (List.mem_of_getElem? (i := 1) rfl)) (va_Nw.use (xB_on _ (by decide +kernel)) (hE0.2.1.2.2.1 (.castable xIO xIO) (by decide +kernel))) (fun q9 H1 hz hk hS => ?_)
  refine lv_astore (lv' := [(4, .ref q9), (0, .ref x), (1, .int a0), (2, .int a1), (3, .ref o)]) hx hb dL_move_13 hl (by decide) rfl (fun ls hl => ?_)
  refine lv_iconst (v := nI 1) hx hb dL_move_15 (by decide +kernel) ?_
  exact hE _ _ _ _ _ dL_move_16 rfl rfl ⟨hz, hk⟩ hS
set_option maxHeartbeats 4000000 in
set_option maxRecDepth 100000 in
/-- its call returns -/
theorem hu_sources (l : Launch) {D : va_G} {Y : Nat → ClassId} {H0 : Heap} {F : Nat → Prop} {t0 x o : Nat} {fsx : List Value} {a0 : Int32} {r : Int32} {B : Heap → Prop} {w0 : Int64} {dM mM sM : Nat} (hM : UC l yX2_sources wsX2_sources dM mM sM D Y (eL t0 F (fun q => F q ∨ q = o)) [.ref x, .int a0] H0 F (bI_ r B)) (hO : oB D Y o w0 H0) (hoF : ¬ F o) (hX : va_P D aCl [(x, .inr (2, fsx))] H0) : UC l yL_sources wsL_sources (dM + 1) mM sM D Y (eL t0 F (fun q => F q ∨ q = o)) [.ref x, .int a0, .ref o] H0 (fun q => F q ∨ q = o) (bI_ (nI 0) (fun H1 => ∃ H2 : Heap, B H2 ∧ (∀ q, q ≠ o → H1[q]? = H2[q]?) ∧ H2.size = H1.size ∧ (∀ q : Nat, q < H0.size → ¬ F q → H2[q]? = H0[q]?) ∧ oB D Y o (r.toInt64) H1)) := by
  refine UCw.start (cc := cL_sources) (maxL := 4) (rt := .int) (hh := [(0, 9, 12, 21)]) (by decide) rfl (Nat.le_of_ble_eq_true rfl) ?_
  intro p e s m args below meth c ls Q S hK hH0 hE0 hl htab hE
  have S : CallFix p m c cL_sources 4 s args wsL_sources RL := S
  have hx := S.1
  have hb := S.2.1
  have hts := S.2.2.2.2
  have hl : lv_has ls 4 [(0, .ref x), (1, .int a0), (2, .ref o)] := hl
  have hS : va_S (fun q => F q ∨ q = o) H0 H0 [] := va_S.rf
  refine lv_aload_n hx hb dL_sources_0 rfl (lv_at hl 2 rfl) ?_
  refine lv_iconst (v := nI 0) hx hb dL_sources_1 (by decide +kernel) ?_
  refine lv_aload_n hx hb dL_sources_2 rfl (lv_at hl 0 rfl) ?_
  refine lv_iload_n hx hb dL_sources_3 rfl (lv_at hl 1 rfl) ?_
  refine UC.callV (As := [.int a0]) S hM (cwV 1 hts gL_sources_X2_sources rfl rfl rfl (by decide +kernel) ⟨Nat.le_refl _, (by show 8 + (2 + 11) + 40 * dM ≤ 40 * (dM + 1); omega)⟩) hK eL_bl (fun U hW hU => eL.go hE0 hW (hU.trans hH0.symm)) hS (fun q h => Or.inl h) (va_recv hK.1 hX (ci := 2) (q0 := 0) rfl rfl) rfl hl.1 rfl (Nat.le_of_ble_eq_true rfl) dL_sources_4 ⟨(by show 0 + mM ≤ mM; omega), (by show 0 + sM ≤ sM; omega)⟩ (fun v H locs hB hS hsz hkp => ?_)
  obtain ⟨rfl, hB⟩ := hB
  have hO1 := hO.kept (hkp o hO.lt hoF)
  refine lv_i2l (v := r.toInt64) hx hb dL_sources_7 rfl ?_
  refine nr_last0 S hK hO1 (Or.inr rfl) hS dL_sources_8 (fun H9 locs hO2 hne hsz2 hS => ?_)
  refine lv_goto (tgt := 15) hx hb dL_sources_9 (by decide) ?_
  refine lv_iconst (v := nI 0) hx hb dL_sources_15 (by decide +kernel) ?_
  refine W.widen (k := mM) (n := sM) (by omega) (by omega) ?_
  exact hE _ _ _ _ _ dL_sources_16 rfl rfl ⟨H, hB, hne, hsz2.symm, hkp, hO2⟩ hS
set_option maxHeartbeats 4000000 in
set_option maxRecDepth 100000 in
/-- its call throws -/
theorem ht_sources1 (l : Launch) {D : va_G} {Y : Nat → ClassId} {H0 : Heap} {F : Nat → Prop} {t0 x o : Nat} {fsx : List Value} {a0 : Int32} {dM : Nat} (hM : Th l yX2_sources wsX2_sources dM D Y (fun q => F q ∨ q = o) [.ref x, .int a0] H0 xIO) (hX : va_P D aCl [(x, .inr (2, fsx))] H0) : UC l yL_sources wsL_sources (dM + 1) 1 6 D Y (eL t0 F (fun q => F q ∨ q = o)) [.ref x, .int a0, .ref o] H0 (fun q => F q ∨ q = o) (bI_ (nI 1) (fun H1 => H0.size ≤ H1.size ∧ ∀ q : Nat, q < H0.size → H1[q]? = H0[q]?)) := by
  refine UCw.start (cc := cL_sources) (maxL := 4) (rt := .int) (hh := [(0, 9, 12, 21)]) (by decide) rfl (Nat.le_of_ble_eq_true rfl) ?_
  intro p e s m args below meth c ls Q S hK hH0 hE0 hl htab hE
  have S : CallFix p m c cL_sources 4 s args wsL_sources RL := S
  have hx := S.1
  have hb := S.2.1
  have hts := S.2.2.2.2
  have hl : lv_has ls 4 [(0, .ref x), (1, .int a0), (2, .ref o)] := hl
  have hS : va_S (fun q => F q ∨ q = o) H0 H0 [] := va_S.rf
  refine lv_aload_n hx hb dL_sources_0 rfl (lv_at hl 2 rfl) ?_
  refine lv_iconst (v := nI 0) hx hb dL_sources_1 (by decide +kernel) ?_
  refine lv_aload_n hx hb dL_sources_2 rfl (lv_at hl 0 rfl) ?_
  refine lv_iload_n hx hb dL_sources_3 rfl (lv_at hl 1 rfl) ?_
  refine Th.catchV (As := [.int a0]) (name := xIO) S hM (cwV 1 hts gL_sources_X2_sources rfl rfl rfl (by decide +kernel) ⟨Nat.le_refl _, (by show 8 + (2 + 11) + 40 * dM ≤ 40 * (dM + 1); omega)⟩) hK (by rw [← hH0]; exact hE0.2.1) hS (va_recv hK.1 hX (ci := 2) (q0 := 0) rfl rfl) rfl hl.1 rfl (Nat.le_of_ble_eq_true rfl) dL_sources_4 ⟨Nat.le_of_ble_eq_true rfl, Nat.le_of_ble_eq_true rfl⟩ [] ⟨0, 9, 12, 21⟩ [] (by rw [htab]; rfl) (fun z hz => absurd hz List.not_mem_nil) (by decide) (by decide) (hts _ (List.mem_of_getElem? (i := 1) rfl)) (va_Nw.use (xB_on _ (by decide +kernel)) (hE0.2.1.2.2.1 (.castable xIO xIO) (by decide +kernel))) (fun q9 H1 hz hk hS => ?_)
  refine lv_astore_n (lv' := [(3, .ref q9), (0, .ref x), (1, .int a0), (2, .ref o)]) hx hb dL_sources_12 rfl hl (by decide) rfl (fun ls hl => ?_)
  refine lv_iconst (v := nI 1) hx hb dL_sources_13 (by decide +kernel) ?_
  exact hE _ _ _ _ _ dL_sources_14 rfl rfl ⟨hz, hk⟩ hS
set_option maxHeartbeats 4000000 in
set_option maxRecDepth 100000 in
/-- its call returns -/
theorem hu_destinations (l : Launch) {D : va_G} {Y : Nat → ClassId} {H0 : Heap} {F : Nat → Prop} {t0 x o : Nat} {fsx : List Value} {a0 : Int32} {r : Int32} {B : Heap → Prop} {w0 : Int64} {dM mM sM : Nat} (hM : UC l yX2_destinations wsX2_destinations dM mM sM D Y (eL t0 F (fun q => F q ∨ q = o)) [.ref x, .int a0] H0 F (bI_ r B)) (hO : oB D Y o w0 H0) (hoF : ¬ F o) (hX : va_P D aCl [(x, .inr (2, fsx))] H0) : UC l yL_destinations wsL_destinations (dM + 1) mM sM D Y (eL t0 F (fun q => F q ∨ q = o)) [.ref x, .int a0, .ref o] H0 (fun q => F q ∨ q = o) (bI_ (nI 0) (fun H1 => ∃ H2 : Heap, B H2 ∧ (∀ q, q ≠ o → H1[q]? = H2[q]?) ∧ H2.size = H1.size ∧ (∀ q : Nat, q < H0.size → ¬ F q → H2[q]? = H0[q]?) ∧ oB D Y o (r.toInt64) H1)) := by
  refine UCw.start (cc := cL_destinations) (maxL := 4) (rt := .int) (hh := [(0, 9, 12, 21)]) (by decide) rfl (Nat.le_of_ble_eq_true rfl) ?_
  intro p e s m args below meth c ls Q S hK hH0 hE0 hl htab hE
  have S : CallFix p m c cL_destinations 4 s args wsL_destinations RL := S
  have hx := S.1
  have hb := S.2.1
  have hts := S.2.2.2.2
  have hl : lv_has ls 4 [(0, .ref x), (1, .int a0), (2, .ref o)] := hl
  have hS : va_S (fun q => F q ∨ q = o) H0 H0 [] := va_S.rf
  refine lv_aload_n hx hb dL_destinations_0 rfl (lv_at hl 2 rfl) ?_
  refine lv_iconst (v := nI 0) hx hb dL_destinations_1 (by decide +kernel) ?_
  refine lv_aload_n hx hb dL_destinations_2 rfl (lv_at hl 0 rfl) ?_
  refine lv_iload_n hx hb dL_destinations_3 rfl (lv_at hl 1 rfl) ?_
  refine UC.callV (As := [.int a0]) S hM (cwV 1 hts gL_destinations_X2_destinations rfl rfl rfl (by decide +kernel) ⟨Nat.le_refl _, (by show 8 + (2 + 11) + 40 * dM ≤ 40 * (dM + 1); omega)⟩) hK eL_bl (fun U hW hU => eL.go hE0 hW (hU.trans hH0.symm)) hS (fun q h => Or.inl h) (va_recv hK.1 hX (ci := 2) (q0 := 0) rfl rfl) rfl hl.1 rfl (Nat.le_of_ble_eq_true rfl) dL_destinations_4 ⟨(by show 0 + mM ≤ mM; omega), (by show 0 + sM ≤ sM; omega)⟩ (fun v H locs hB hS hsz hkp => ?_)
  obtain ⟨rfl, hB⟩ := hB
  have hO1 := hO.kept (hkp o hO.lt hoF)
  refine lv_i2l (v := r.toInt64) hx hb dL_destinations_7 rfl ?_
  refine nr_last0 S hK hO1 (Or.inr rfl) hS dL_destinations_8 (fun H9 locs hO2 hne hsz2 hS => ?_)
  refine lv_goto (tgt := 15) hx hb dL_destinations_9 (by decide) ?_
  refine lv_iconst (v := nI 0) hx hb dL_destinations_15 (by decide +kernel) ?_
  refine W.widen (k := mM) (n := sM) (by omega) (by omega) ?_
  exact hE _ _ _ _ _ dL_destinations_16 rfl rfl ⟨H, hB, hne, hsz2.symm, hkp, hO2⟩ hS
set_option maxHeartbeats 4000000 in
set_option maxRecDepth 100000 in
/-- its call throws -/
theorem ht_destinations1 (l : Launch) {D : va_G} {Y : Nat → ClassId} {H0 : Heap} {F : Nat → Prop} {t0 x o : Nat} {fsx : List Value} {a0 : Int32} {dM : Nat} (hM : Th l yX2_destinations wsX2_destinations dM D Y (fun q => F q ∨ q = o) [.ref x, .int a0] H0 xIO) (hX : va_P D aCl [(x, .inr (2, fsx))] H0) : UC l yL_destinations wsL_destinations (dM + 1) 1 6 D Y (eL t0 F (fun q => F q ∨ q = o)) [.ref x, .int a0, .ref o] H0 (fun q => F q ∨ q = o) (bI_ (nI 1) (fun H1 => H0.size ≤ H1.size ∧ ∀ q : Nat, q < H0.size → H1[q]? = H0[q]?)) := by
  refine UCw.start (cc := cL_destinations) (maxL := 4) (rt := .int) (hh := [(0, 9, 12, 21)]) (by decide) rfl (Nat.le_of_ble_eq_true rfl) ?_
  intro p e s m args below meth c ls Q S hK hH0 hE0 hl htab hE
  have S : CallFix p m c cL_destinations 4 s args wsL_destinations RL := S
  have hx := S.1
  have hb := S.2.1
  have hts := S.2.2.2.2
  have hl : lv_has ls 4 [(0, .ref x), (1, .int a0), (2, .ref o)] := hl
  have hS : va_S (fun q => F q ∨ q = o) H0 H0 [] := va_S.rf
  refine lv_aload_n hx hb dL_destinations_0 rfl (lv_at hl 2 rfl) ?_
  refine lv_iconst (v := nI 0) hx hb dL_destinations_1 (by decide +kernel) ?_
  refine lv_aload_n hx hb dL_destinations_2 rfl (lv_at hl 0 rfl) ?_
  refine lv_iload_n hx hb dL_destinations_3 rfl (lv_at hl 1 rfl) ?_
  refine Th.catchV (As := [.int a0]) (name := xIO) S hM (cwV 1 hts gL_destinations_X2_destinations rfl rfl rfl (by decide +kernel) ⟨Nat.le_refl _, (by show 8 + (2 + 11) + 40 * dM ≤ 40 * (dM + 1); omega)⟩) hK (by rw [← hH0]; exact hE0.2.1) hS (va_recv hK.1 hX (ci := 2) (q0 := 0) rfl rfl) rfl hl.1 rfl (Nat.le_of_ble_eq_true rfl) dL_destinations_4 ⟨Nat.le_of_ble_eq_true rfl, Nat.le_of_ble_eq_true rfl⟩ [] ⟨0, 9, 12, 21⟩ [] (by rw [htab]; rfl) (fun z hz => absurd hz List.not_mem_nil) (by decide) (by decide) (hts _ (List.mem_of_getElem? (i := 1) rfl)) (va_Nw.use (xB_on _ (by decide +kernel)) (hE0.2.1.2.2.1 (.castable xIO xIO) (by decide +kernel))) (fun q9 H1 hz hk hS => ?_)
  refine lv_astore_n (lv' := [(3, .ref q9), (0, .ref x), (1, .int a0), (2, .ref o)]) hx hb dL_destinations_12 rfl hl (by decide) rfl (fun ls hl => ?_)
  refine lv_iconst (v := nI 1) hx hb dL_destinations_13 (by decide +kernel) ?_
  exact hE _ _ _ _ _ dL_destinations_14 rfl rfl ⟨hz, hk⟩ hS
set_option maxHeartbeats 4000000 in
set_option maxRecDepth 100000 in
/-- its call returns -/
theorem hu_protocols (l : Launch) {D : va_G} {Y : Nat → ClassId} {H0 : Heap} {F : Nat → Prop} {t0 x o : Nat} {fsx : List Value} {a0 : Int32} {r : Int32} {B : Heap → Prop} {w0 : Int64} {dM mM sM : Nat} (hM : UC l yX2_protocols wsX2_protocols dM mM sM D Y (eL t0 F (fun q => F q ∨ q = o)) [.ref x, .int a0] H0 F (bI_ r B)) (hO : oB D Y o w0 H0) (hoF : ¬ F o) (hX : va_P D aCl [(x, .inr (2, fsx))] H0) : UC l yL_protocols wsL_protocols (dM + 1) mM sM D Y (eL t0 F (fun q => F q ∨ q = o)) [.ref x, .int a0, .ref o] H0 (fun q => F q ∨ q = o) (bI_ (nI 0) (fun H1 => ∃ H2 : Heap, B H2 ∧ (∀ q, q ≠ o → H1[q]? = H2[q]?) ∧ H2.size = H1.size ∧ (∀ q : Nat, q < H0.size → ¬ F q → H2[q]? = H0[q]?) ∧ oB D Y o (r.toInt64) H1)) := by
  refine UCw.start (cc := cL_protocols) (maxL := 4) (rt := .int) (hh := [(0, 9, 12, 21)]) (by decide) rfl (Nat.le_of_ble_eq_true rfl) ?_
  intro p e s m args below meth c ls Q S hK hH0 hE0 hl htab hE
  have S : CallFix p m c cL_protocols 4 s args wsL_protocols RL := S
  have hx := S.1
  have hb := S.2.1
  have hts := S.2.2.2.2
  have hl : lv_has ls 4 [(0, .ref x), (1, .int a0), (2, .ref o)] := hl
  have hS : va_S (fun q => F q ∨ q = o) H0 H0 [] := va_S.rf
  refine lv_aload_n hx hb dL_protocols_0 rfl (lv_at hl 2 rfl) ?_
  refine lv_iconst (v := nI 0) hx hb dL_protocols_1 (by decide +kernel) ?_
  refine lv_aload_n hx hb dL_protocols_2 rfl (lv_at hl 0 rfl) ?_
  refine lv_iload_n hx hb dL_protocols_3 rfl (lv_at hl 1 rfl) ?_
  refine UC.callV (As := [.int a0]) S hM (cwV 1 hts gL_protocols_X2_protocols rfl rfl rfl (by decide +kernel) ⟨Nat.le_refl _, (by show 8 + (2 + 11) + 40 * dM ≤ 40 * (dM + 1); omega)⟩) hK eL_bl (fun U hW hU => eL.go hE0 hW (hU.trans hH0.symm)) hS (fun q h => Or.inl h) (va_recv hK.1 hX (ci := 2) (q0 := 0) rfl rfl) rfl hl.1 rfl (Nat.le_of_ble_eq_true rfl) dL_protocols_4 ⟨(by show 0 + mM ≤ mM; omega), (by show 0 + sM ≤ sM; omega)⟩ (fun v H locs hB hS hsz hkp => ?_)
  obtain ⟨rfl, hB⟩ := hB
  have hO1 := hO.kept (hkp o hO.lt hoF)
  refine lv_i2l (v := r.toInt64) hx hb dL_protocols_7 rfl ?_
  refine nr_last0 S hK hO1 (Or.inr rfl) hS dL_protocols_8 (fun H9 locs hO2 hne hsz2 hS => ?_)
  refine lv_goto (tgt := 15) hx hb dL_protocols_9 (by decide) ?_
  refine lv_iconst (v := nI 0) hx hb dL_protocols_15 (by decide +kernel) ?_
  refine W.widen (k := mM) (n := sM) (by omega) (by omega) ?_
  exact hE _ _ _ _ _ dL_protocols_16 rfl rfl ⟨H, hB, hne, hsz2.symm, hkp, hO2⟩ hS
set_option maxHeartbeats 4000000 in
set_option maxRecDepth 100000 in
/-- its call throws -/
theorem ht_protocols1 (l : Launch) {D : va_G} {Y : Nat → ClassId} {H0 : Heap} {F : Nat → Prop} {t0 x o : Nat} {fsx : List Value} {a0 : Int32} {dM : Nat} (hM : Th l yX2_protocols wsX2_protocols dM D Y (fun q => F q ∨ q = o) [.ref x, .int a0] H0 xIO) (hX : va_P D aCl [(x, .inr (2, fsx))] H0) : UC l yL_protocols wsL_protocols (dM + 1) 1 6 D Y (eL t0 F (fun q => F q ∨ q = o)) [.ref x, .int a0, .ref o] H0 (fun q => F q ∨ q = o) (bI_ (nI 1) (fun H1 => H0.size ≤ H1.size ∧ ∀ q : Nat, q < H0.size → H1[q]? = H0[q]?)) := by
  refine UCw.start (cc := cL_protocols) (maxL := 4) (rt := .int) (hh := [(0, 9, 12, 21)]) (by decide) rfl (Nat.le_of_ble_eq_true rfl) ?_
  intro p e s m args below meth c ls Q S hK hH0 hE0 hl htab hE
  have S : CallFix p m c cL_protocols 4 s args wsL_protocols RL := S
  have hx := S.1
  have hb := S.2.1
  have hts := S.2.2.2.2
  have hl : lv_has ls 4 [(0, .ref x), (1, .int a0), (2, .ref o)] := hl
  have hS : va_S (fun q => F q ∨ q = o) H0 H0 [] := va_S.rf
  refine lv_aload_n hx hb dL_protocols_0 rfl (lv_at hl 2 rfl) ?_
  refine lv_iconst (v := nI 0) hx hb dL_protocols_1 (by decide +kernel) ?_
  refine lv_aload_n hx hb dL_protocols_2 rfl (lv_at hl 0 rfl) ?_
  refine lv_iload_n hx hb dL_protocols_3 rfl (lv_at hl 1 rfl) ?_
  refine Th.catchV (As := [.int a0]) (name := xIO) S hM (cwV 1 hts gL_protocols_X2_protocols rfl rfl rfl (by decide +kernel) ⟨Nat.le_refl _, (by show 8 + (2 + 11) + 40 * dM ≤ 40 * (dM + 1); omega)⟩) hK (by rw [← hH0]; exact hE0.2.1) hS (va_recv hK.1 hX (ci := 2) (q0 := 0) rfl rfl) rfl hl.1 rfl (Nat.le_of_ble_eq_true rfl) dL_protocols_4 ⟨Nat.le_of_ble_eq_true rfl, Nat.le_of_ble_eq_true rfl⟩ [] ⟨0, 9, 12, 21⟩ [] (by rw [htab]; rfl) (fun z hz => absurd hz List.not_mem_nil) (by decide) (by decide) (hts _ (List.mem_of_getElem? (i := 1) rfl)) (va_Nw.use (xB_on _ (by decide +kernel)) (hE0.2.1.2.2.1 (.castable xIO xIO) (by decide +kernel))) (fun q9 H1 hz hk hS => ?_)
  refine lv_astore_n (lv' := [(3, .ref q9), (0, .ref x), (1, .int a0), (2, .ref o)]) hx hb dL_protocols_12 rfl hl (by decide) rfl (fun ls hl => ?_)
  refine lv_iconst (v := nI 1) hx hb dL_protocols_13 (by decide +kernel) ?_
  exact hE _ _ _ _ _ dL_protocols_14 rfl rfl ⟨hz, hk⟩ hS
set_option maxHeartbeats 4000000 in
set_option maxRecDepth 100000 in
/-- its call returns -/
theorem hu_permits (l : Launch) {D : va_G} {Y : Nat → ClassId} {H0 : Heap} {F : Nat → Prop} {t0 x o : Nat} {fsx : List Value} {a0 : Int32} {r : Bool} {B : Heap → Prop} {w0 : Int64} {dM mM sM : Nat} (hM : UC l yX2_permits wsX2_permits dM mM sM D Y (eL t0 F (fun q => F q ∨ q = o)) [.ref x, .int a0] H0 F (bI_ (bI r) B)) (hO : oB D Y o w0 H0) (hoF : ¬ F o) (hX : va_P D aCl [(x, .inr (2, fsx))] H0) : UC l yL_permits wsL_permits (dM + 1) mM sM D Y (eL t0 F (fun q => F q ∨ q = o)) [.ref x, .int a0, .ref o] H0 (fun q => F q ∨ q = o) (bI_ (nI 0) (fun H1 => ∃ H2 : Heap, B H2 ∧ (∀ q, q ≠ o → H1[q]? = H2[q]?) ∧ H2.size = H1.size ∧ (∀ q : Nat, q < H0.size → ¬ F q → H2[q]? = H0[q]?) ∧ oB D Y o (bL r) H1)) := by
  refine UCw.start (cc := cL_permits) (maxL := 4) (rt := .int) (hh := [(0, 16, 19, 21)]) (by decide) rfl (Nat.le_of_ble_eq_true rfl) ?_
  intro p e s m args below meth c ls Q S hK hH0 hE0 hl htab hE
  have S : CallFix p m c cL_permits 4 s args wsL_permits RL := S
  have hx := S.1
  have hb := S.2.1
  have hts := S.2.2.2.2
  have hl : lv_has ls 4 [(0, .ref x), (1, .int a0), (2, .ref o)] := hl
  have hS : va_S (fun q => F q ∨ q = o) H0 H0 [] := va_S.rf
  refine lv_aload_n hx hb dL_permits_0 rfl (lv_at hl 2 rfl) ?_
  refine lv_iconst (v := nI 0) hx hb dL_permits_1 (by decide +kernel) ?_
  refine lv_aload_n hx hb dL_permits_2 rfl (lv_at hl 0 rfl) ?_
  refine lv_iload_n hx hb dL_permits_3 rfl (lv_at hl 1 rfl) ?_
  refine UC.callV (As := [.int a0]) S hM (cwV 1 hts gL_permits_X2_permits rfl rfl rfl (by decide +kernel) ⟨Nat.le_refl _, (by show 8 + (2 + 11) + 40 * dM ≤ 40 * (dM + 1); omega)⟩) hK eL_bl (fun U hW hU => eL.go hE0 hW (hU.trans hH0.symm)) hS (fun q h => Or.inl h) (va_recv hK.1 hX (ci := 2) (q0 := 0) rfl rfl) rfl hl.1 rfl (Nat.le_of_ble_eq_true rfl) dL_permits_4 ⟨(by show 0 + mM ≤ mM; omega), (by show 0 + sM ≤ sM; omega)⟩ (fun v H locs hB hS hsz hkp => ?_)
  obtain ⟨rfl, hB⟩ := hB
  have hO1 := hO.kept (hkp o hO.lt hoF)
  refine nr_ifB_eq (tgt := 14) hx hb dL_permits_7 (by decide) (fun c_b => ?_) (fun c_b => ?_)
  · refine lv_lconst (v := 0) hx hb dL_permits_14 (by decide +kernel) ?_
    refine nr_last0 S hK hO1 (Or.inr rfl) hS dL_permits_15 (fun H9 locs hO2 hne hsz2 hS => ?_)
    refine lv_goto (tgt := 22) hx hb dL_permits_16 (by decide) ?_
    refine lv_iconst (v := nI 0) hx hb dL_permits_22 (by decide +kernel) ?_
    refine W.widen (k := mM) (n := sM) (by omega) (by omega) ?_
    exact hE _ _ _ _ _ dL_permits_23 rfl rfl ⟨H, hB, hne, hsz2.symm, hkp, (by rw [c_b]; exact hO2)⟩ hS
  · refine lv_lconst (v := 1) hx hb dL_permits_10 (by decide +kernel) ?_
    refine lv_goto (tgt := 15) hx hb dL_permits_11 (by decide) ?_
    refine nr_last0 S hK hO1 (Or.inr rfl) hS dL_permits_15 (fun H9 locs hO2 hne hsz2 hS => ?_)
    refine lv_goto (tgt := 22) hx hb dL_permits_16 (by decide) ?_
    refine lv_iconst (v := nI 0) hx hb dL_permits_22 (by decide +kernel) ?_
    refine W.widen (k := mM) (n := sM) (by omega) (by omega) ?_
    exact hE _ _ _ _ _ dL_permits_23 rfl rfl ⟨H, hB, hne, hsz2.symm, hkp, (by rw [c_b]; exact hO2)⟩ hS
set_option maxHeartbeats 4000000 in
set_option maxRecDepth 100000 in
/-- its call throws -/
theorem ht_permits1 (l : Launch) {D : va_G} {Y : Nat → ClassId} {H0 : Heap} {F : Nat → Prop} {t0 x o : Nat} {fsx : List Value} {a0 : Int32} {dM : Nat} (hM : Th l yX2_permits wsX2_permits dM D Y (fun q => F q ∨ q = o) [.ref x, .int a0] H0 xIO) (hX : va_P D aCl [(x, .inr (2, fsx))] H0) : UC l yL_permits wsL_permits (dM + 1) 1 6 D Y (eL t0 F (fun q => F q ∨ q = o)) [.ref x, .int a0, .ref o] H0 (fun q => F q ∨ q = o) (bI_ (nI 1) (fun H1 => H0.size ≤ H1.size ∧ ∀ q : Nat, q < H0.size → H1[q]? = H0[q]?)) := by
  refine UCw.start (cc := cL_permits) (maxL := 4) (rt := .int) (hh := [(0, 16, 19, 21)]) (by decide) rfl (Nat.le_of_ble_eq_true rfl) ?_
  intro p e s m args below meth c ls Q S hK hH0 hE0 hl htab hE
  have S : CallFix p m c cL_permits 4 s args wsL_permits RL := S
  have hx := S.1
  have hb := S.2.1
  have hts := S.2.2.2.2
  have hl : lv_has ls 4 [(0, .ref x), (1, .int a0), (2, .ref o)] := hl
  have hS : va_S (fun q => F q ∨ q = o) H0 H0 [] := va_S.rf
  refine lv_aload_n hx hb dL_permits_0 rfl (lv_at hl 2 rfl) ?_
  refine lv_iconst (v := nI 0) hx hb dL_permits_1 (by decide +kernel) ?_
  refine lv_aload_n hx hb dL_permits_2 rfl (lv_at hl 0 rfl) ?_
  refine lv_iload_n hx hb dL_permits_3 rfl (lv_at hl 1 rfl) ?_
  refine Th.catchV (As := [.int a0]) (name := xIO) S hM (cwV 1 hts gL_permits_X2_permits rfl rfl rfl (by decide +kernel) ⟨Nat.le_refl _, (by show 8 + (2 + 11) + 40 * dM ≤ 40 * (dM + 1); omega)⟩) hK (by rw [← hH0]; exact hE0.2.1) hS (va_recv hK.1 hX (ci := 2) (q0 := 0) rfl rfl) rfl hl.1 rfl (Nat.le_of_ble_eq_true rfl) dL_permits_4 ⟨Nat.le_of_ble_eq_true rfl, Nat.le_of_ble_eq_true rfl⟩ [] ⟨0, 16, 19, 21⟩ [] (by rw [htab]; rfl) (fun z hz => absurd hz List.not_mem_nil) (by decide) (by decide) (hts _ (List.mem_of_getElem? (i := 1) rfl)) (va_Nw.use (xB_on _ (by decide +kernel)) (hE0.2.1.2.2.1 (.castable xIO xIO) (by decide +kernel))) (fun q9 H1 hz hk hS => ?_)
  refine lv_astore_n (lv' := [(3, .ref q9), (0, .ref x), (1, .int a0), (2, .ref o)]) hx hb dL_permits_19 rfl hl (by decide) rfl (fun ls hl => ?_)
  refine lv_iconst (v := nI 1) hx hb dL_permits_20 (by decide +kernel) ?_
  exact hE _ _ _ _ _ dL_permits_21 rfl rfl ⟨hz, hk⟩ hS
set_option maxHeartbeats 4000000 in
set_option maxRecDepth 100000 in
/-- its call returns -/
theorem hu_judge (l : Launch) {D : va_G} {Y : Nat → ClassId} {H0 : Heap} {F : Nat → Prop} {t0 x o : Nat} {fsx : List Value} {a0 : Int32} {a1 : Int32} {a2 : Int32} {r : Bool} {B : Heap → Prop} {w0 : Int64} {dM mM sM : Nat} (hM : UC l yX2_judge wsX2_judge dM mM sM D Y (eL t0 F (fun q => F q ∨ q = o)) [.ref x, .int a0, .int a1, .int a2] H0 F (bI_ (bI r) B)) (hO : oB D Y o w0 H0) (hoF : ¬ F o) (hX : va_P D aCl [(x, .inr (2, fsx))] H0) : UC l yL_judge wsL_judge (dM + 1) mM sM D Y (eL t0 F (fun q => F q ∨ q = o)) [.ref x, .int a0, .int a1, .int a2, .ref o] H0 (fun q => F q ∨ q = o) (bI_ (nI 0) (fun H1 => ∃ H2 : Heap, B H2 ∧ (∀ q, q ≠ o → H1[q]? = H2[q]?) ∧ H2.size = H1.size ∧ (∀ q : Nat, q < H0.size → ¬ F q → H2[q]? = H0[q]?) ∧ oB D Y o (bL r) H1)) := by
  refine UCw.start (cc := cL_judge) (maxL := 6) (rt := .int) (hh := [(0, 19, 22, 13)]) (by decide) rfl (Nat.le_of_ble_eq_true rfl) ?_
  intro p e s m args below meth c ls Q S hK hH0 hE0 hl htab hE
  have S : CallFix p m c cL_judge 6 s args wsL_judge RL := S
  have hx := S.1
  have hb := S.2.1
  have hts := S.2.2.2.2
  have hl : lv_has ls 6 [(0, .ref x), (1, .int a0), (2, .int a1), (3, .int a2), (4, .ref o)] := hl
  have hS : va_S (fun q => F q ∨ q = o) H0 H0 [] := va_S.rf
  refine lv_aload hx hb dL_judge_0 (lv_at hl 4 rfl) ?_
  refine lv_iconst (v := nI 0) hx hb dL_judge_2 (by decide +kernel) ?_
  refine lv_aload_n hx hb dL_judge_3 rfl (lv_at hl 0 rfl) ?_
  refine lv_iload_n hx hb dL_judge_4 rfl (lv_at hl 1 rfl) ?_
  refine lv_iload_n hx hb dL_judge_5 rfl (lv_at hl 2 rfl) ?_
  refine lv_iload_n hx hb dL_judge_6 rfl (lv_at hl 3 rfl) ?_
  refine UC.callV (As := [.int a0, .int a1, .int a2]) S hM (cwV 3 hts gL_judge_X2_judge rfl rfl rfl (by decide +kernel) ⟨Nat.le_refl _, (by show 8 + (6 + 11) + 40 * dM ≤ 40 * (dM + 1); omega)⟩) hK eL_bl (fun U hW hU => eL.go hE0 hW (hU.trans hH0.symm)) hS (fun q h => Or.inl h) (va_recv hK.1 hX (ci := 2) (q0 := 0) rfl rfl) rfl hl.1 rfl (Nat.le_of_ble_eq_true rfl) dL_judge_7 ⟨(by show 0 + mM ≤ mM; omega), (by show 0 + sM ≤ sM; omega)⟩ (fun v H locs hB hS hsz hkp => ?_)
  obtain ⟨rfl, hB⟩ := hB
  have hO1 := hO.kept (hkp o hO.lt hoF)
  refine nr_ifB_eq (tgt := 17) hx hb dL_judge_10 (by decide) (fun c_b => ?_) (fun c_b => ?_)
  · refine lv_lconst (v := 0) hx hb dL_judge_17 (by decide +kernel) ?_
    refine nr_last0 S hK hO1 (Or.inr rfl) hS dL_judge_18 (fun H9 locs hO2 hne hsz2 hS => ?_)
    refine lv_goto (tgt := 26) hx hb dL_judge_19 (by decide) ?_
    refine lv_iconst (v := nI 0) hx hb dL_judge_26 (by decide +kernel) ?_
    refine W.widen (k := mM) (n := sM) (by omega) (by omega) ?_
    exact hE _ _ _ _ _ dL_judge_27 rfl rfl ⟨H, hB, hne, hsz2.symm, hkp, (by rw [c_b]; exact hO2)⟩ hS
  · refine lv_lconst (v := 1) hx hb dL_judge_13 (by decide +kernel) ?_
    refine lv_goto (tgt := 18) hx hb dL_judge_14 (by decide) ?_
    refine nr_last0 S hK hO1 (Or.inr rfl) hS dL_judge_18 (fun H9 locs hO2 hne hsz2 hS => ?_)
    refine lv_goto (tgt := 26) hx hb dL_judge_19 (by decide) ?_
    refine lv_iconst (v := nI 0) hx hb dL_judge_26 (by decide +kernel) ?_
    refine W.widen (k := mM) (n := sM) (by omega) (by omega) ?_
    exact hE _ _ _ _ _ dL_judge_27 rfl rfl ⟨H, hB, hne, hsz2.symm, hkp, (by rw [c_b]; exact hO2)⟩ hS
set_option maxHeartbeats 4000000 in
set_option maxRecDepth 100000 in
/-- its call throws -/
theorem ht_judge1 (l : Launch) {D : va_G} {Y : Nat → ClassId} {H0 : Heap} {F : Nat → Prop} {t0 x o : Nat} {fsx : List Value} {a0 : Int32} {a1 : Int32} {a2 : Int32} {dM : Nat} (hM : Th l yX2_judge wsX2_judge dM D Y (fun q => F q ∨ q = o) [.ref x, .int a0, .int a1, .int a2] H0 xIA) (hX : va_P D aCl [(x, .inr (2, fsx))] H0) : UC l yL_judge wsL_judge (dM + 1) 1 6 D Y (eL t0 F (fun q => F q ∨ q = o)) [.ref x, .int a0, .int a1, .int a2, .ref o] H0 (fun q => F q ∨ q = o) (bI_ (nI 1) (fun H1 => H0.size ≤ H1.size ∧ ∀ q : Nat, q < H0.size → H1[q]? = H0[q]?)) := by
  refine UCw.start (cc := cL_judge) (maxL := 6) (rt := .int) (hh := [(0, 19, 22, 13)]) (by decide) rfl (Nat.le_of_ble_eq_true rfl) ?_
  intro p e s m args below meth c ls Q S hK hH0 hE0 hl htab hE
  have S : CallFix p m c cL_judge 6 s args wsL_judge RL := S
  have hx := S.1
  have hb := S.2.1
  have hts := S.2.2.2.2
  have hl : lv_has ls 6 [(0, .ref x), (1, .int a0), (2, .int a1), (3, .int a2), (4, .ref o)] := hl
  have hS : va_S (fun q => F q ∨ q = o) H0 H0 [] := va_S.rf
  refine lv_aload hx hb dL_judge_0 (lv_at hl 4 rfl) ?_
  refine lv_iconst (v := nI 0) hx hb dL_judge_2 (by decide +kernel) ?_
  refine lv_aload_n hx hb dL_judge_3 rfl (lv_at hl 0 rfl) ?_
  refine lv_iload_n hx hb dL_judge_4 rfl (lv_at hl 1 rfl) ?_
  refine lv_iload_n hx hb dL_judge_5 rfl (lv_at hl 2 rfl) ?_
  refine lv_iload_n hx hb dL_judge_6 rfl (lv_at hl 3 rfl) ?_
  refine Th.catchV (As := [.int a0, .int a1, .int a2]) (name := xIA) S hM (cwV 3 hts gL_judge_X2_judge rfl rfl rfl (by decide +kernel) ⟨Nat.le_refl _, (by show 8 + (6 + 11) + 40 * dM ≤ 40 * (dM + 1); omega)⟩) hK (by rw [← hH0]; exact hE0.2.1) hS (va_recv hK.1 hX (ci := 2) (q0 := 0) rfl rfl) rfl hl.1 rfl (Nat.le_of_ble_eq_true rfl) dL_judge_7 ⟨Nat.le_of_ble_eq_true rfl, Nat.le_of_ble_eq_true rfl⟩ [] ⟨0, 19, 22, 13⟩ [] (by rw [htab]; rfl) (fun z hz => absurd hz List.not_mem_nil) (by decide) (by decide) (hts _ (List.mem_of_getElem? (i := 1) rfl)) (va_Nw.use (xB_on _ (by decide +kernel)) (hE0.2.1.2.2.1 (.castable xIA xIA) (by decide +kernel))) (fun q9 H1 hz hk hS => ?_)
  refine lv_astore (lv' := [(5, .ref q9), (0, .ref x), (1, .int a0), (2, .int a1), (3, .int a2), (4, .ref o)]) hx hb dL_judge_22 hl (by decide) rfl (fun ls hl => ?_)
  refine lv_iconst (v := nI 1) hx hb dL_judge_24 (by decide +kernel) ?_
  exact hE _ _ _ _ _ dL_judge_25 rfl rfl ⟨hz, hk⟩ hS
set_option maxHeartbeats 4000000 in
set_option maxRecDepth 100000 in
/-- its call returns -/
theorem hu_decider (l : Launch) {D : va_G} {Y : Nat → ClassId} {H0 : Heap} {F : Nat → Prop} {t0 x o : Nat} {fsx : List Value} {a0 : Int32} {a1 : Int32} {a2 : Int32} {r : Int32} {B : Heap → Prop} {w0 : Int64} {dM mM sM : Nat} (hM : UC l yX2_decider wsX2_decider dM mM sM D Y (eL t0 F (fun q => F q ∨ q = o)) [.ref x, .int a0, .int a1, .int a2] H0 F (bI_ r B)) (hO : oB D Y o w0 H0) (hoF : ¬ F o) (hX : va_P D aCl [(x, .inr (2, fsx))] H0) : UC l yL_decider wsL_decider (dM + 1) mM sM D Y (eL t0 F (fun q => F q ∨ q = o)) [.ref x, .int a0, .int a1, .int a2, .ref o] H0 (fun q => F q ∨ q = o) (bI_ (nI 0) (fun H1 => ∃ H2 : Heap, B H2 ∧ (∀ q, q ≠ o → H1[q]? = H2[q]?) ∧ H2.size = H1.size ∧ (∀ q : Nat, q < H0.size → ¬ F q → H2[q]? = H0[q]?) ∧ oB D Y o (r.toInt64) H1)) := by
  refine UCw.start (cc := cL_decider) (maxL := 6) (rt := .int) (hh := [(0, 12, 15, 13), (0, 12, 19, 48)]) (by decide) rfl (Nat.le_of_ble_eq_true rfl) ?_
  intro p e s m args below meth c ls Q S hK hH0 hE0 hl htab hE
  have S : CallFix p m c cL_decider 6 s args wsL_decider RL := S
  have hx := S.1
  have hb := S.2.1
  have hts := S.2.2.2.2
  have hl : lv_has ls 6 [(0, .ref x), (1, .int a0), (2, .int a1), (3, .int a2), (4, .ref o)] := hl
  have hS : va_S (fun q => F q ∨ q = o) H0 H0 [] := va_S.rf
  refine lv_aload hx hb dL_decider_0 (lv_at hl 4 rfl) ?_
  refine lv_iconst (v := nI 0) hx hb dL_decider_2 (by decide +kernel) ?_
  refine lv_aload_n hx hb dL_decider_3 rfl (lv_at hl 0 rfl) ?_
  refine lv_iload_n hx hb dL_decider_4 rfl (lv_at hl 1 rfl) ?_
  refine lv_iload_n hx hb dL_decider_5 rfl (lv_at hl 2 rfl) ?_
  refine lv_iload_n hx hb dL_decider_6 rfl (lv_at hl 3 rfl) ?_
  refine UC.callV (As := [.int a0, .int a1, .int a2]) S hM (cwV 3 hts gL_decider_X2_decider rfl rfl rfl (by decide +kernel) ⟨Nat.le_refl _, (by show 8 + (5 + 11) + 40 * dM ≤ 40 * (dM + 1); omega)⟩) hK eL_bl (fun U hW hU => eL.go hE0 hW (hU.trans hH0.symm)) hS (fun q h => Or.inl h) (va_recv hK.1 hX (ci := 2) (q0 := 0) rfl rfl) rfl hl.1 rfl (Nat.le_of_ble_eq_true rfl) dL_decider_7 ⟨(by show 0 + mM ≤ mM; omega), (by show 0 + sM ≤ sM; omega)⟩ (fun v H locs hB hS hsz hkp => ?_)
  obtain ⟨rfl, hB⟩ := hB
  have hO1 := hO.kept (hkp o hO.lt hoF)
  refine lv_i2l (v := r.toInt64) hx hb dL_decider_10 rfl ?_
  refine nr_last0 S hK hO1 (Or.inr rfl) hS dL_decider_11 (fun H9 locs hO2 hne hsz2 hS => ?_)
  refine lv_goto (tgt := 23) hx hb dL_decider_12 (by decide) ?_
  refine lv_iconst (v := nI 0) hx hb dL_decider_23 (by decide +kernel) ?_
  refine W.widen (k := mM) (n := sM) (by omega) (by omega) ?_
  exact hE _ _ _ _ _ dL_decider_24 rfl rfl ⟨H, hB, hne, hsz2.symm, hkp, hO2⟩ hS
set_option maxHeartbeats 4000000 in
set_option maxRecDepth 100000 in
/-- its call throws -/
theorem ht_decider1 (l : Launch) {D : va_G} {Y : Nat → ClassId} {H0 : Heap} {F : Nat → Prop} {t0 x o : Nat} {fsx : List Value} {a0 : Int32} {a1 : Int32} {a2 : Int32} {dM : Nat} (hM : Th l yX2_decider wsX2_decider dM D Y (fun q => F q ∨ q = o) [.ref x, .int a0, .int a1, .int a2] H0 xIA) (hX : va_P D aCl [(x, .inr (2, fsx))] H0) : UC l yL_decider wsL_decider (dM + 1) 1 6 D Y (eL t0 F (fun q => F q ∨ q = o)) [.ref x, .int a0, .int a1, .int a2, .ref o] H0 (fun q => F q ∨ q = o) (bI_ (nI 1) (fun H1 => H0.size ≤ H1.size ∧ ∀ q : Nat, q < H0.size → H1[q]? = H0[q]?)) := by
  refine UCw.start (cc := cL_decider) (maxL := 6) (rt := .int) (hh := [(0, 12, 15, 13), (0, 12, 19, 48)]) (by decide) rfl (Nat.le_of_ble_eq_true rfl) ?_
  intro p e s m args below meth c ls Q S hK hH0 hE0 hl htab hE
  have S : CallFix p m c cL_decider 6 s args wsL_decider RL := S
  have hx := S.1
  have hb := S.2.1
  have hts := S.2.2.2.2
  have hl : lv_has ls 6 [(0, .ref x), (1, .int a0), (2, .int a1), (3, .int a2), (4, .ref o)] := hl
  have hS : va_S (fun q => F q ∨ q = o) H0 H0 [] := va_S.rf
  refine lv_aload hx hb dL_decider_0 (lv_at hl 4 rfl) ?_
  refine lv_iconst (v := nI 0) hx hb dL_decider_2 (by decide +kernel) ?_
  refine lv_aload_n hx hb dL_decider_3 rfl (lv_at hl 0 rfl) ?_
  refine lv_iload_n hx hb dL_decider_4 rfl (lv_at hl 1 rfl) ?_
  refine lv_iload_n hx hb dL_decider_5 rfl (lv_at hl 2 rfl) ?_
  refine lv_iload_n hx hb dL_decider_6 rfl (lv_at hl 3 rfl) ?_
  refine Th.catchV (As := [.int a0, .int a1, .int a2]) (name := xIA) S hM (cwV 3 hts gL_decider_X2_decider rfl rfl rfl (by decide +kernel) ⟨Nat.le_refl _, (by show 8 + (5 + 11) + 40 * dM ≤ 40 * (dM + 1); omega)⟩) hK (by rw [← hH0]; exact hE0.2.1) hS (va_recv hK.1 hX (ci := 2) (q0 := 0) rfl rfl) rfl hl.1 rfl (Nat.le_of_ble_eq_true rfl) dL_decider_7 ⟨Nat.le_of_ble_eq_true rfl, Nat.le_of_ble_eq_true rfl⟩ [] ⟨0, 12, 15, 13⟩ [⟨0, 12, 19, 48⟩] (by rw [htab]; rfl) (fun z hz => absurd hz List.not_mem_nil) (by decide) (by decide) (hts _ (List.mem_of_getElem? (i := 1) rfl)) (va_Nw.use (xB_on _ (by decide +kernel)) (hE0.2.1.2.2.1 (.castable xIA xIA) (by decide +kernel))) (fun q9 H1 hz hk hS => ?_)
  refine lv_astore (lv' := [(5, .ref q9), (0, .ref x), (1, .int a0), (2, .int a1), (3, .int a2), (4, .ref o)]) hx hb dL_decider_15 hl (by decide) rfl (fun ls hl => ?_)
  refine lv_iconst (v := nI 1) hx hb dL_decider_17 (by decide +kernel) ?_
  exact hE _ _ _ _ _ dL_decider_18 rfl rfl ⟨hz, hk⟩ hS
set_option maxHeartbeats 4000000 in
set_option maxRecDepth 100000 in
/-- its call throws -/
theorem ht_decider2 (l : Launch) {D : va_G} {Y : Nat → ClassId} {H0 : Heap} {F : Nat → Prop} {t0 x o : Nat} {fsx : List Value} {a0 : Int32} {a1 : Int32} {a2 : Int32} {dM : Nat} (hM : Th l yX2_decider wsX2_decider dM D Y (fun q => F q ∨ q = o) [.ref x, .int a0, .int a1, .int a2] H0 xNE) (hX : va_P D aCl [(x, .inr (2, fsx))] H0) : UC l yL_decider wsL_decider (dM + 1) 1 6 D Y (eL t0 F (fun q => F q ∨ q = o)) [.ref x, .int a0, .int a1, .int a2, .ref o] H0 (fun q => F q ∨ q = o) (bI_ (nI 2) (fun H1 => H0.size ≤ H1.size ∧ ∀ q : Nat, q < H0.size → H1[q]? = H0[q]?)) := by
  refine UCw.start (cc := cL_decider) (maxL := 6) (rt := .int) (hh := [(0, 12, 15, 13), (0, 12, 19, 48)]) (by decide) rfl (Nat.le_of_ble_eq_true rfl) ?_
  intro p e s m args below meth c ls Q S hK hH0 hE0 hl htab hE
  have S : CallFix p m c cL_decider 6 s args wsL_decider RL := S
  have hx := S.1
  have hb := S.2.1
  have hts := S.2.2.2.2
  have hl : lv_has ls 6 [(0, .ref x), (1, .int a0), (2, .int a1), (3, .int a2), (4, .ref o)] := hl
  have hS : va_S (fun q => F q ∨ q = o) H0 H0 [] := va_S.rf
  refine lv_aload hx hb dL_decider_0 (lv_at hl 4 rfl) ?_
  refine lv_iconst (v := nI 0) hx hb dL_decider_2 (by decide +kernel) ?_
  refine lv_aload_n hx hb dL_decider_3 rfl (lv_at hl 0 rfl) ?_
  refine lv_iload_n hx hb dL_decider_4 rfl (lv_at hl 1 rfl) ?_
  refine lv_iload_n hx hb dL_decider_5 rfl (lv_at hl 2 rfl) ?_
  refine lv_iload_n hx hb dL_decider_6 rfl (lv_at hl 3 rfl) ?_
  refine Th.catchV (As := [.int a0, .int a1, .int a2]) (name := xNE) S hM (cwV 3 hts gL_decider_X2_decider rfl rfl rfl (by decide +kernel) ⟨Nat.le_refl _, (by show 8 + (5 + 11) + 40 * dM ≤ 40 * (dM + 1); omega)⟩) hK (by rw [← hH0]; exact hE0.2.1) hS (va_recv hK.1 hX (ci := 2) (q0 := 0) rfl rfl) rfl hl.1 rfl (Nat.le_of_ble_eq_true rfl) dL_decider_7 ⟨Nat.le_of_ble_eq_true rfl, Nat.le_of_ble_eq_true rfl⟩ [⟨0, 12, 15, 13⟩] ⟨0, 12, 19, 48⟩ [] (by rw [htab]; rfl) (fun z hz => by rcases List.mem_singleton.mp hz with rfl; exact Or.inr ⟨by decide, _, (hts _ (List.mem_of_getElem? (i := 1) rfl)), hE0.2.2.2.1⟩) (by decide) (by decide) (hts _ (List.mem_of_getElem? (i := 2) rfl)) (va_Nw.use (xB_on _ (by decide +kernel)) (hE0.2.1.2.2.1 (.castable xNE xNE) (by decide +kernel))) (fun q9 H1 hz hk hS => ?_)
  refine lv_astore (lv' := [(5, .ref q9), (0, .ref x), (1, .int a0), (2, .int a1), (3, .int a2), (4, .ref o)]) hx hb dL_decider_19 hl (by decide) rfl (fun ls hl => ?_)
  refine lv_iconst (v := nI 2) hx hb dL_decider_21 (by decide +kernel) ?_
  exact hE _ _ _ _ _ dL_decider_22 rfl rfl ⟨hz, hk⟩ hS
set_option maxHeartbeats 4000000 in
set_option maxRecDepth 100000 in
/-- its call returns -/
theorem hu_hits (l : Launch) {D : va_G} {Y : Nat → ClassId} {H0 : Heap} {F : Nat → Prop} {t0 x o : Nat} {fsx : List Value} {a0 : Int32} {r : Int32} {B : Heap → Prop} {w0 : Int64} {dM mM sM : Nat} (hM : UC l yX2_hits wsX2_hits dM mM sM D Y (eL t0 F (fun q => F q ∨ q = o)) [.ref x, .int a0] H0 F (bI_ r B)) (hO : oB D Y o w0 H0) (hoF : ¬ F o) (hX : va_P D aCl [(x, .inr (2, fsx))] H0) : UC l yL_hits wsL_hits (dM + 1) mM sM D Y (eL t0 F (fun q => F q ∨ q = o)) [.ref x, .int a0, .ref o] H0 (fun q => F q ∨ q = o) (bI_ (nI 0) (fun H1 => ∃ H2 : Heap, B H2 ∧ (∀ q, q ≠ o → H1[q]? = H2[q]?) ∧ H2.size = H1.size ∧ (∀ q : Nat, q < H0.size → ¬ F q → H2[q]? = H0[q]?) ∧ oB D Y o (r.toInt64) H1)) := by
  refine UCw.start (cc := cL_hits) (maxL := 4) (rt := .int) (hh := [(0, 9, 12, 21)]) (by decide) rfl (Nat.le_of_ble_eq_true rfl) ?_
  intro p e s m args below meth c ls Q S hK hH0 hE0 hl htab hE
  have S : CallFix p m c cL_hits 4 s args wsL_hits RL := S
  have hx := S.1
  have hb := S.2.1
  have hts := S.2.2.2.2
  have hl : lv_has ls 4 [(0, .ref x), (1, .int a0), (2, .ref o)] := hl
  have hS : va_S (fun q => F q ∨ q = o) H0 H0 [] := va_S.rf
  refine lv_aload_n hx hb dL_hits_0 rfl (lv_at hl 2 rfl) ?_
  refine lv_iconst (v := nI 0) hx hb dL_hits_1 (by decide +kernel) ?_
  refine lv_aload_n hx hb dL_hits_2 rfl (lv_at hl 0 rfl) ?_
  refine lv_iload_n hx hb dL_hits_3 rfl (lv_at hl 1 rfl) ?_
  refine UC.callV (As := [.int a0]) S hM (cwV 1 hts gL_hits_X2_hits rfl rfl rfl (by decide +kernel) ⟨Nat.le_refl _, (by show 8 + (2 + 11) + 40 * dM ≤ 40 * (dM + 1); omega)⟩) hK eL_bl (fun U hW hU => eL.go hE0 hW (hU.trans hH0.symm)) hS (fun q h => Or.inl h) (va_recv hK.1 hX (ci := 2) (q0 := 0) rfl rfl) rfl hl.1 rfl (Nat.le_of_ble_eq_true rfl) dL_hits_4 ⟨(by show 0 + mM ≤ mM; omega), (by show 0 + sM ≤ sM; omega)⟩ (fun v H locs hB hS hsz hkp => ?_)
  obtain ⟨rfl, hB⟩ := hB
  have hO1 := hO.kept (hkp o hO.lt hoF)
  refine lv_i2l (v := r.toInt64) hx hb dL_hits_7 rfl ?_
  refine nr_last0 S hK hO1 (Or.inr rfl) hS dL_hits_8 (fun H9 locs hO2 hne hsz2 hS => ?_)
  refine lv_goto (tgt := 15) hx hb dL_hits_9 (by decide) ?_
  refine lv_iconst (v := nI 0) hx hb dL_hits_15 (by decide +kernel) ?_
  refine W.widen (k := mM) (n := sM) (by omega) (by omega) ?_
  exact hE _ _ _ _ _ dL_hits_16 rfl rfl ⟨H, hB, hne, hsz2.symm, hkp, hO2⟩ hS
set_option maxHeartbeats 4000000 in
set_option maxRecDepth 100000 in
/-- its call throws -/
theorem ht_hits1 (l : Launch) {D : va_G} {Y : Nat → ClassId} {H0 : Heap} {F : Nat → Prop} {t0 x o : Nat} {fsx : List Value} {a0 : Int32} {dM : Nat} (hM : Th l yX2_hits wsX2_hits dM D Y (fun q => F q ∨ q = o) [.ref x, .int a0] H0 xIO) (hX : va_P D aCl [(x, .inr (2, fsx))] H0) : UC l yL_hits wsL_hits (dM + 1) 1 6 D Y (eL t0 F (fun q => F q ∨ q = o)) [.ref x, .int a0, .ref o] H0 (fun q => F q ∨ q = o) (bI_ (nI 1) (fun H1 => H0.size ≤ H1.size ∧ ∀ q : Nat, q < H0.size → H1[q]? = H0[q]?)) := by
  refine UCw.start (cc := cL_hits) (maxL := 4) (rt := .int) (hh := [(0, 9, 12, 21)]) (by decide) rfl (Nat.le_of_ble_eq_true rfl) ?_
  intro p e s m args below meth c ls Q S hK hH0 hE0 hl htab hE
  have S : CallFix p m c cL_hits 4 s args wsL_hits RL := S
  have hx := S.1
  have hb := S.2.1
  have hts := S.2.2.2.2
  have hl : lv_has ls 4 [(0, .ref x), (1, .int a0), (2, .ref o)] := hl
  have hS : va_S (fun q => F q ∨ q = o) H0 H0 [] := va_S.rf
  refine lv_aload_n hx hb dL_hits_0 rfl (lv_at hl 2 rfl) ?_
  refine lv_iconst (v := nI 0) hx hb dL_hits_1 (by decide +kernel) ?_
  refine lv_aload_n hx hb dL_hits_2 rfl (lv_at hl 0 rfl) ?_
  refine lv_iload_n hx hb dL_hits_3 rfl (lv_at hl 1 rfl) ?_
  refine Th.catchV (As := [.int a0]) (name := xIO) S hM (cwV 1 hts gL_hits_X2_hits rfl rfl rfl (by decide +kernel) ⟨Nat.le_refl _, (by show 8 + (2 + 11) + 40 * dM ≤ 40 * (dM + 1); omega)⟩) hK (by rw [← hH0]; exact hE0.2.1) hS (va_recv hK.1 hX (ci := 2) (q0 := 0) rfl rfl) rfl hl.1 rfl (Nat.le_of_ble_eq_true rfl) dL_hits_4 ⟨Nat.le_of_ble_eq_true rfl, Nat.le_of_ble_eq_true rfl⟩ [] ⟨0, 9, 12, 21⟩ [] (by rw [htab]; rfl) (fun z hz => absurd hz List.not_mem_nil) (by decide) (by decide) (hts _ (List.mem_of_getElem? (i := 1) rfl)) (va_Nw.use (xB_on _ (by decide +kernel)) (hE0.2.1.2.2.1 (.castable xIO xIO) (by decide +kernel))) (fun q9 H1 hz hk hS => ?_)
  refine lv_astore_n (lv' := [(3, .ref q9), (0, .ref x), (1, .int a0), (2, .ref o)]) hx hb dL_hits_12 rfl hl (by decide) rfl (fun ls hl => ?_)
  refine lv_iconst (v := nI 1) hx hb dL_hits_13 (by decide +kernel) ?_
  exact hE _ _ _ _ _ dL_hits_14 rfl rfl ⟨hz, hk⟩ hS
set_option maxHeartbeats 4000000 in
set_option maxRecDepth 100000 in
/-- its call returns -/
theorem hu_decides (l : Launch) {D : va_G} {Y : Nat → ClassId} {H0 : Heap} {F : Nat → Prop} {t0 x o : Nat} {fsx : List Value} {a0 : Int32} {r : Int32} {B : Heap → Prop} {w0 : Int64} {dM mM sM : Nat} (hM : UC l yX2_decides wsX2_decides dM mM sM D Y (eL t0 F (fun q => F q ∨ q = o)) [.ref x, .int a0] H0 F (bI_ r B)) (hO : oB D Y o w0 H0) (hoF : ¬ F o) (hX : va_P D aCl [(x, .inr (2, fsx))] H0) : UC l yL_decides wsL_decides (dM + 1) mM sM D Y (eL t0 F (fun q => F q ∨ q = o)) [.ref x, .int a0, .ref o] H0 (fun q => F q ∨ q = o) (bI_ (nI 0) (fun H1 => ∃ H2 : Heap, B H2 ∧ (∀ q, q ≠ o → H1[q]? = H2[q]?) ∧ H2.size = H1.size ∧ (∀ q : Nat, q < H0.size → ¬ F q → H2[q]? = H0[q]?) ∧ oB D Y o (r.toInt64) H1)) := by
  refine UCw.start (cc := cL_decides) (maxL := 4) (rt := .int) (hh := [(0, 9, 12, 21)]) (by decide) rfl (Nat.le_of_ble_eq_true rfl) ?_
  intro p e s m args below meth c ls Q S hK hH0 hE0 hl htab hE
  have S : CallFix p m c cL_decides 4 s args wsL_decides RL := S
  have hx := S.1
  have hb := S.2.1
  have hts := S.2.2.2.2
  have hl : lv_has ls 4 [(0, .ref x), (1, .int a0), (2, .ref o)] := hl
  have hS : va_S (fun q => F q ∨ q = o) H0 H0 [] := va_S.rf
  refine lv_aload_n hx hb dL_decides_0 rfl (lv_at hl 2 rfl) ?_
  refine lv_iconst (v := nI 0) hx hb dL_decides_1 (by decide +kernel) ?_
  refine lv_aload_n hx hb dL_decides_2 rfl (lv_at hl 0 rfl) ?_
  refine lv_iload_n hx hb dL_decides_3 rfl (lv_at hl 1 rfl) ?_
  refine UC.callV (As := [.int a0]) S hM (cwV 1 hts gL_decides_X2_decides rfl rfl rfl (by decide +kernel) ⟨Nat.le_refl _, (by show 8 + (2 + 11) + 40 * dM ≤ 40 * (dM + 1); omega)⟩) hK eL_bl (fun U hW hU => eL.go hE0 hW (hU.trans hH0.symm)) hS (fun q h => Or.inl h) (va_recv hK.1 hX (ci := 2) (q0 := 0) rfl rfl) rfl hl.1 rfl (Nat.le_of_ble_eq_true rfl) dL_decides_4 ⟨(by show 0 + mM ≤ mM; omega), (by show 0 + sM ≤ sM; omega)⟩ (fun v H locs hB hS hsz hkp => ?_)
  obtain ⟨rfl, hB⟩ := hB
  have hO1 := hO.kept (hkp o hO.lt hoF)
  refine lv_i2l (v := r.toInt64) hx hb dL_decides_7 rfl ?_
  refine nr_last0 S hK hO1 (Or.inr rfl) hS dL_decides_8 (fun H9 locs hO2 hne hsz2 hS => ?_)
  refine lv_goto (tgt := 15) hx hb dL_decides_9 (by decide) ?_
  refine lv_iconst (v := nI 0) hx hb dL_decides_15 (by decide +kernel) ?_
  refine W.widen (k := mM) (n := sM) (by omega) (by omega) ?_
  exact hE _ _ _ _ _ dL_decides_16 rfl rfl ⟨H, hB, hne, hsz2.symm, hkp, hO2⟩ hS
set_option maxHeartbeats 4000000 in
set_option maxRecDepth 100000 in
/-- its call throws -/
theorem ht_decides1 (l : Launch) {D : va_G} {Y : Nat → ClassId} {H0 : Heap} {F : Nat → Prop} {t0 x o : Nat} {fsx : List Value} {a0 : Int32} {dM : Nat} (hM : Th l yX2_decides wsX2_decides dM D Y (fun q => F q ∨ q = o) [.ref x, .int a0] H0 xIO) (hX : va_P D aCl [(x, .inr (2, fsx))] H0) : UC l yL_decides wsL_decides (dM + 1) 1 6 D Y (eL t0 F (fun q => F q ∨ q = o)) [.ref x, .int a0, .ref o] H0 (fun q => F q ∨ q = o) (bI_ (nI 1) (fun H1 => H0.size ≤ H1.size ∧ ∀ q : Nat, q < H0.size → H1[q]? = H0[q]?)) := by
  refine UCw.start (cc := cL_decides) (maxL := 4) (rt := .int) (hh := [(0, 9, 12, 21)]) (by decide) rfl (Nat.le_of_ble_eq_true rfl) ?_
  intro p e s m args below meth c ls Q S hK hH0 hE0 hl htab hE
  have S : CallFix p m c cL_decides 4 s args wsL_decides RL := S
  have hx := S.1
  have hb := S.2.1
  have hts := S.2.2.2.2
  have hl : lv_has ls 4 [(0, .ref x), (1, .int a0), (2, .ref o)] := hl
  have hS : va_S (fun q => F q ∨ q = o) H0 H0 [] := va_S.rf
  refine lv_aload_n hx hb dL_decides_0 rfl (lv_at hl 2 rfl) ?_
  refine lv_iconst (v := nI 0) hx hb dL_decides_1 (by decide +kernel) ?_
  refine lv_aload_n hx hb dL_decides_2 rfl (lv_at hl 0 rfl) ?_
  refine lv_iload_n hx hb dL_decides_3 rfl (lv_at hl 1 rfl) ?_
  refine Th.catchV (As := [.int a0]) (name := xIO) S hM (cwV 1 hts gL_decides_X2_decides rfl rfl rfl (by decide +kernel) ⟨Nat.le_refl _, (by show 8 + (2 + 11) + 40 * dM ≤ 40 * (dM + 1); omega)⟩) hK (by rw [← hH0]; exact hE0.2.1) hS (va_recv hK.1 hX (ci := 2) (q0 := 0) rfl rfl) rfl hl.1 rfl (Nat.le_of_ble_eq_true rfl) dL_decides_4 ⟨Nat.le_of_ble_eq_true rfl, Nat.le_of_ble_eq_true rfl⟩ [] ⟨0, 9, 12, 21⟩ [] (by rw [htab]; rfl) (fun z hz => absurd hz List.not_mem_nil) (by decide) (by decide) (hts _ (List.mem_of_getElem? (i := 1) rfl)) (va_Nw.use (xB_on _ (by decide +kernel)) (hE0.2.1.2.2.1 (.castable xIO xIO) (by decide +kernel))) (fun q9 H1 hz hk hS => ?_)
  refine lv_astore_n (lv' := [(3, .ref q9), (0, .ref x), (1, .int a0), (2, .ref o)]) hx hb dL_decides_12 rfl hl (by decide) rfl (fun ls hl => ?_)
  refine lv_iconst (v := nI 1) hx hb dL_decides_13 (by decide +kernel) ?_
  exact hE _ _ _ _ _ dL_decides_14 rfl rfl ⟨hz, hk⟩ hS
set_option maxHeartbeats 4000000 in
set_option maxRecDepth 100000 in
/-- its call returns -/
theorem hu_overlap (l : Launch) {D : va_G} {Y : Nat → ClassId} {H0 : Heap} {F : Nat → Prop} {t0 x o : Nat} {fsx : List Value} {a0 : Int32} {a1 : Int32} {r : Int32} {B : Heap → Prop} {w0 : Int64} {dM mM sM : Nat} (hM : UC l yX2_overlap wsX2_overlap dM mM sM D Y (eL t0 F (fun q => F q ∨ q = o)) [.ref x, .int a0, .int a1] H0 F (bI_ r B)) (hO : oB D Y o w0 H0) (hoF : ¬ F o) (hX : va_P D aCl [(x, .inr (2, fsx))] H0) : UC l yL_overlap wsL_overlap (dM + 1) mM sM D Y (eL t0 F (fun q => F q ∨ q = o)) [.ref x, .int a0, .int a1, .ref o] H0 (fun q => F q ∨ q = o) (bI_ (nI 0) (fun H1 => ∃ H2 : Heap, B H2 ∧ (∀ q, q ≠ o → H1[q]? = H2[q]?) ∧ H2.size = H1.size ∧ (∀ q : Nat, q < H0.size → ¬ F q → H2[q]? = H0[q]?) ∧ oB D Y o (r.toInt64) H1)) := by
  refine UCw.start (cc := cL_overlap) (maxL := 5) (rt := .int) (hh := [(0, 10, 13, 21)]) (by decide) rfl (Nat.le_of_ble_eq_true rfl) ?_
  intro p e s m args below meth c ls Q S hK hH0 hE0 hl htab hE
  have S : CallFix p m c cL_overlap 5 s args wsL_overlap RL := S
  have hx := S.1
  have hb := S.2.1
  have hts := S.2.2.2.2
  have hl : lv_has ls 5 [(0, .ref x), (1, .int a0), (2, .int a1), (3, .ref o)] := hl
  have hS : va_S (fun q => F q ∨ q = o) H0 H0 [] := va_S.rf
  refine lv_aload_n hx hb dL_overlap_0 rfl (lv_at hl 3 rfl) ?_
  refine lv_iconst (v := nI 0) hx hb dL_overlap_1 (by decide +kernel) ?_
  refine lv_aload_n hx hb dL_overlap_2 rfl (lv_at hl 0 rfl) ?_
  refine lv_iload_n hx hb dL_overlap_3 rfl (lv_at hl 1 rfl) ?_
  refine lv_iload_n hx hb dL_overlap_4 rfl (lv_at hl 2 rfl) ?_
  refine UC.callV (As := [.int a0, .int a1]) S hM (cwV 2 hts gL_overlap_X2_overlap rfl rfl rfl (by decide +kernel) ⟨Nat.le_refl _, (by show 8 + (3 + 11) + 40 * dM ≤ 40 * (dM + 1); omega)⟩) hK eL_bl (fun U hW hU => eL.go hE0 hW (hU.trans hH0.symm)) hS (fun q h => Or.inl h) (va_recv hK.1 hX (ci := 2) (q0 := 0) rfl rfl) rfl hl.1 rfl (Nat.le_of_ble_eq_true rfl) dL_overlap_5 ⟨(by show 0 + mM ≤ mM; omega), (by show 0 + sM ≤ sM; omega)⟩ (fun v H locs hB hS hsz hkp => ?_)
  obtain ⟨rfl, hB⟩ := hB
  have hO1 := hO.kept (hkp o hO.lt hoF)
  refine lv_i2l (v := r.toInt64) hx hb dL_overlap_8 rfl ?_
  refine nr_last0 S hK hO1 (Or.inr rfl) hS dL_overlap_9 (fun H9 locs hO2 hne hsz2 hS => ?_)
  refine lv_goto (tgt := 17) hx hb dL_overlap_10 (by decide) ?_
  refine lv_iconst (v := nI 0) hx hb dL_overlap_17 (by decide +kernel) ?_
  refine W.widen (k := mM) (n := sM) (by omega) (by omega) ?_
  exact hE _ _ _ _ _ dL_overlap_18 rfl rfl ⟨H, hB, hne, hsz2.symm, hkp, hO2⟩ hS
set_option maxHeartbeats 4000000 in
set_option maxRecDepth 100000 in
/-- its call throws -/
theorem ht_overlap1 (l : Launch) {D : va_G} {Y : Nat → ClassId} {H0 : Heap} {F : Nat → Prop} {t0 x o : Nat} {fsx : List Value} {a0 : Int32} {a1 : Int32} {dM : Nat} (hM : Th l yX2_overlap wsX2_overlap dM D Y (fun q => F q ∨ q = o) [.ref x, .int a0, .int a1] H0 xIO) (hX : va_P D aCl [(x, .inr (2, fsx))] H0) : UC l yL_overlap wsL_overlap (dM + 1) 1 6 D Y (eL t0 F (fun q => F q ∨ q = o)) [.ref x, .int a0, .int a1, .ref o] H0 (fun q => F q ∨ q = o) (bI_ (nI 1) (fun H1 => H0.size ≤ H1.size ∧ ∀ q : Nat, q < H0.size → H1[q]? = H0[q]?)) := by
  refine UCw.start (cc := cL_overlap) (maxL := 5) (rt := .int) (hh := [(0, 10, 13, 21)]) (by decide) rfl (Nat.le_of_ble_eq_true rfl) ?_
  intro p e s m args below meth c ls Q S hK hH0 hE0 hl htab hE
  have S : CallFix p m c cL_overlap 5 s args wsL_overlap RL := S
  have hx := S.1
  have hb := S.2.1
  have hts := S.2.2.2.2
  have hl : lv_has ls 5 [(0, .ref x), (1, .int a0), (2, .int a1), (3, .ref o)] := hl
  have hS : va_S (fun q => F q ∨ q = o) H0 H0 [] := va_S.rf
  refine lv_aload_n hx hb dL_overlap_0 rfl (lv_at hl 3 rfl) ?_
  refine lv_iconst (v := nI 0) hx hb dL_overlap_1 (by decide +kernel) ?_
  refine lv_aload_n hx hb dL_overlap_2 rfl (lv_at hl 0 rfl) ?_
  refine lv_iload_n hx hb dL_overlap_3 rfl (lv_at hl 1 rfl) ?_
  refine lv_iload_n hx hb dL_overlap_4 rfl (lv_at hl 2 rfl) ?_
  refine Th.catchV (As := [.int a0, .int a1]) (name := xIO) S hM (cwV 2 hts gL_overlap_X2_overlap rfl rfl rfl (by decide +kernel) ⟨Nat.le_refl _, (by show 8 + (3 + 11) + 40 * dM ≤ 40 * (dM + 1); omega)⟩) hK (by rw [← hH0]; exact hE0.2.1) hS (va_recv hK.1 hX (ci := 2) (q0 := 0) rfl rfl) rfl hl.1 rfl (Nat.le_of_ble_eq_true rfl) dL_overlap_5 ⟨Nat.le_of_ble_eq_true rfl, Nat.le_of_ble_eq_true rfl⟩ [] ⟨0, 10, 13, 21⟩ [] (by rw [htab]; rfl) (fun z hz => absurd hz List.not_mem_nil) (by decide) (by decide) (hts _ (List.mem_of_getElem? (i := 1) rfl)) (va_Nw.use (xB_on _ (by decide +kernel)) (hE0.2.1.2.2.1 (.castable xIO xIO) (by decide +kernel))) (fun q9 H1 hz hk hS => ?_)
  refine lv_astore (lv' := [(4, .ref q9), (0, .ref x), (1, .int a0), (2, .int a1), (3, .ref o)]) hx hb dL_overlap_13 hl (by decide) rfl (fun ls hl => ?_)
  refine lv_iconst (v := nI 1) hx hb dL_overlap_15 (by decide +kernel) ?_
  exact hE _ _ _ _ _ dL_overlap_16 rfl rfl ⟨hz, hk⟩ hS
set_option maxHeartbeats 4000000 in
set_option maxRecDepth 100000 in
/-- its call returns -/
theorem hu_isShadowed (l : Launch) {D : va_G} {Y : Nat → ClassId} {H0 : Heap} {F : Nat → Prop} {t0 x o : Nat} {fsx : List Value} {a0 : Int32} {r : Bool} {B : Heap → Prop} {w0 : Int64} {dM mM sM : Nat} (hM : UC l yX2_isShadowed wsX2_isShadowed dM mM sM D Y (eL t0 F (fun q => F q ∨ q = o)) [.ref x, .int a0] H0 F (bI_ (bI r) B)) (hO : oB D Y o w0 H0) (hoF : ¬ F o) (hX : va_P D aCl [(x, .inr (2, fsx))] H0) : UC l yL_isShadowed wsL_isShadowed (dM + 1) mM sM D Y (eL t0 F (fun q => F q ∨ q = o)) [.ref x, .int a0, .ref o] H0 (fun q => F q ∨ q = o) (bI_ (nI 0) (fun H1 => ∃ H2 : Heap, B H2 ∧ (∀ q, q ≠ o → H1[q]? = H2[q]?) ∧ H2.size = H1.size ∧ (∀ q : Nat, q < H0.size → ¬ F q → H2[q]? = H0[q]?) ∧ oB D Y o (bL r) H1)) := by
  refine UCw.start (cc := cL_isShadowed) (maxL := 4) (rt := .int) (hh := [(0, 16, 19, 21)]) (by decide) rfl (Nat.le_of_ble_eq_true rfl) ?_
  intro p e s m args below meth c ls Q S hK hH0 hE0 hl htab hE
  have S : CallFix p m c cL_isShadowed 4 s args wsL_isShadowed RL := S
  have hx := S.1
  have hb := S.2.1
  have hts := S.2.2.2.2
  have hl : lv_has ls 4 [(0, .ref x), (1, .int a0), (2, .ref o)] := hl
  have hS : va_S (fun q => F q ∨ q = o) H0 H0 [] := va_S.rf
  refine lv_aload_n hx hb dL_isShadowed_0 rfl (lv_at hl 2 rfl) ?_
  refine lv_iconst (v := nI 0) hx hb dL_isShadowed_1 (by decide +kernel) ?_
  refine lv_aload_n hx hb dL_isShadowed_2 rfl (lv_at hl 0 rfl) ?_
  refine lv_iload_n hx hb dL_isShadowed_3 rfl (lv_at hl 1 rfl) ?_
  refine UC.callV (As := [.int a0]) S hM (cwV 1 hts gL_isShadowed_X2_isShadowed rfl rfl rfl (by decide +kernel) ⟨Nat.le_refl _, (by show 8 + (2 + 11) + 40 * dM ≤ 40 * (dM + 1); omega)⟩) hK eL_bl (fun U hW hU => eL.go hE0 hW (hU.trans hH0.symm)) hS (fun q h => Or.inl h) (va_recv hK.1 hX (ci := 2) (q0 := 0) rfl rfl) rfl hl.1 rfl (Nat.le_of_ble_eq_true rfl) dL_isShadowed_4 ⟨(by show 0 + mM ≤ mM; omega), (by show 0 + sM ≤ sM; omega)⟩ (fun v H locs hB hS hsz hkp => ?_)
  obtain ⟨rfl, hB⟩ := hB
  have hO1 := hO.kept (hkp o hO.lt hoF)
  refine nr_ifB_eq (tgt := 14) hx hb dL_isShadowed_7 (by decide) (fun c_b => ?_) (fun c_b => ?_)
  · refine lv_lconst (v := 0) hx hb dL_isShadowed_14 (by decide +kernel) ?_
    refine nr_last0 S hK hO1 (Or.inr rfl) hS dL_isShadowed_15 (fun H9 locs hO2 hne hsz2 hS => ?_)
    refine lv_goto (tgt := 22) hx hb dL_isShadowed_16 (by decide) ?_
    refine lv_iconst (v := nI 0) hx hb dL_isShadowed_22 (by decide +kernel) ?_
    refine W.widen (k := mM) (n := sM) (by omega) (by omega) ?_
    exact hE _ _ _ _ _ dL_isShadowed_23 rfl rfl ⟨H, hB, hne, hsz2.symm, hkp, (by rw [c_b]; exact hO2)⟩ hS
  · refine lv_lconst (v := 1) hx hb dL_isShadowed_10 (by decide +kernel) ?_
    refine lv_goto (tgt := 15) hx hb dL_isShadowed_11 (by decide) ?_
    refine nr_last0 S hK hO1 (Or.inr rfl) hS dL_isShadowed_15 (fun H9 locs hO2 hne hsz2 hS => ?_)
    refine lv_goto (tgt := 22) hx hb dL_isShadowed_16 (by decide) ?_
    refine lv_iconst (v := nI 0) hx hb dL_isShadowed_22 (by decide +kernel) ?_
    refine W.widen (k := mM) (n := sM) (by omega) (by omega) ?_
    exact hE _ _ _ _ _ dL_isShadowed_23 rfl rfl ⟨H, hB, hne, hsz2.symm, hkp, (by rw [c_b]; exact hO2)⟩ hS
set_option maxHeartbeats 4000000 in
set_option maxRecDepth 100000 in
/-- its call throws -/
theorem ht_isShadowed1 (l : Launch) {D : va_G} {Y : Nat → ClassId} {H0 : Heap} {F : Nat → Prop} {t0 x o : Nat} {fsx : List Value} {a0 : Int32} {dM : Nat} (hM : Th l yX2_isShadowed wsX2_isShadowed dM D Y (fun q => F q ∨ q = o) [.ref x, .int a0] H0 xIO) (hX : va_P D aCl [(x, .inr (2, fsx))] H0) : UC l yL_isShadowed wsL_isShadowed (dM + 1) 1 6 D Y (eL t0 F (fun q => F q ∨ q = o)) [.ref x, .int a0, .ref o] H0 (fun q => F q ∨ q = o) (bI_ (nI 1) (fun H1 => H0.size ≤ H1.size ∧ ∀ q : Nat, q < H0.size → H1[q]? = H0[q]?)) := by
  refine UCw.start (cc := cL_isShadowed) (maxL := 4) (rt := .int) (hh := [(0, 16, 19, 21)]) (by decide) rfl (Nat.le_of_ble_eq_true rfl) ?_
  intro p e s m args below meth c ls Q S hK hH0 hE0 hl htab hE
  have S : CallFix p m c cL_isShadowed 4 s args wsL_isShadowed RL := S
  have hx := S.1
  have hb := S.2.1
  have hts := S.2.2.2.2
  have hl : lv_has ls 4 [(0, .ref x), (1, .int a0), (2, .ref o)] := hl
  have hS : va_S (fun q => F q ∨ q = o) H0 H0 [] := va_S.rf
  refine lv_aload_n hx hb dL_isShadowed_0 rfl (lv_at hl 2 rfl) ?_
  refine lv_iconst (v := nI 0) hx hb dL_isShadowed_1 (by decide +kernel) ?_
  refine lv_aload_n hx hb dL_isShadowed_2 rfl (lv_at hl 0 rfl) ?_
  refine lv_iload_n hx hb dL_isShadowed_3 rfl (lv_at hl 1 rfl) ?_
  refine Th.catchV (As := [.int a0]) (name := xIO) S hM (cwV 1 hts gL_isShadowed_X2_isShadowed rfl rfl rfl (by decide +kernel) ⟨Nat.le_refl _, (by show 8 + (2 + 11) + 40 * dM ≤ 40 * (dM + 1); omega)⟩) hK (by rw [← hH0]; exact hE0.2.1) hS (va_recv hK.1 hX (ci := 2) (q0 := 0) rfl rfl) rfl hl.1 rfl (Nat.le_of_ble_eq_true rfl) dL_isShadowed_4 ⟨Nat.le_of_ble_eq_true rfl, Nat.le_of_ble_eq_true rfl⟩ [] ⟨0, 16, 19, 21⟩ [] (by rw [htab]; rfl) (fun z hz => absurd hz List.not_mem_nil) (by decide) (by decide) (hts _ (List.mem_of_getElem? (i := 1) rfl)) (va_Nw.use (xB_on _ (by decide +kernel)) (hE0.2.1.2.2.1 (.castable xIO xIO) (by decide +kernel))) (fun q9 H1 hz hk hS => ?_)
  refine lv_astore_n (lv' := [(3, .ref q9), (0, .ref x), (1, .int a0), (2, .ref o)]) hx hb dL_isShadowed_19 rfl hl (by decide) rfl (fun ls hl => ?_)
  refine lv_iconst (v := nI 1) hx hb dL_isShadowed_20 (by decide +kernel) ?_
  exact hE _ _ _ _ _ dL_isShadowed_21 rfl rfl ⟨hz, hk⟩ hS
set_option maxHeartbeats 4000000 in
set_option maxRecDepth 100000 in
/-- its call returns -/
theorem hu_shadowedBy (l : Launch) {D : va_G} {Y : Nat → ClassId} {H0 : Heap} {F : Nat → Prop} {t0 x o : Nat} {fsx : List Value} {a0 : Int32} {r : Int32} {B : Heap → Prop} {w0 : Int64} {dM mM sM : Nat} (hM : UC l yX2_shadowedBy wsX2_shadowedBy dM mM sM D Y (eL t0 F (fun q => F q ∨ q = o)) [.ref x, .int a0] H0 F (bI_ r B)) (hO : oB D Y o w0 H0) (hoF : ¬ F o) (hX : va_P D aCl [(x, .inr (2, fsx))] H0) : UC l yL_shadowedBy wsL_shadowedBy (dM + 1) mM sM D Y (eL t0 F (fun q => F q ∨ q = o)) [.ref x, .int a0, .ref o] H0 (fun q => F q ∨ q = o) (bI_ (nI 0) (fun H1 => ∃ H2 : Heap, B H2 ∧ (∀ q, q ≠ o → H1[q]? = H2[q]?) ∧ H2.size = H1.size ∧ (∀ q : Nat, q < H0.size → ¬ F q → H2[q]? = H0[q]?) ∧ oB D Y o (r.toInt64) H1)) := by
  refine UCw.start (cc := cL_shadowedBy) (maxL := 4) (rt := .int) (hh := [(0, 9, 12, 21), (0, 9, 15, 48)]) (by decide) rfl (Nat.le_of_ble_eq_true rfl) ?_
  intro p e s m args below meth c ls Q S hK hH0 hE0 hl htab hE
  have S : CallFix p m c cL_shadowedBy 4 s args wsL_shadowedBy RL := S
  have hx := S.1
  have hb := S.2.1
  have hts := S.2.2.2.2
  have hl : lv_has ls 4 [(0, .ref x), (1, .int a0), (2, .ref o)] := hl
  have hS : va_S (fun q => F q ∨ q = o) H0 H0 [] := va_S.rf
  refine lv_aload_n hx hb dL_shadowedBy_0 rfl (lv_at hl 2 rfl) ?_
  refine lv_iconst (v := nI 0) hx hb dL_shadowedBy_1 (by decide +kernel) ?_
  refine lv_aload_n hx hb dL_shadowedBy_2 rfl (lv_at hl 0 rfl) ?_
  refine lv_iload_n hx hb dL_shadowedBy_3 rfl (lv_at hl 1 rfl) ?_
  refine UC.callV (As := [.int a0]) S hM (cwV 1 hts gL_shadowedBy_X2_shadowedBy rfl rfl rfl (by decide +kernel) ⟨Nat.le_refl _, (by show 8 + (4 + 11) + 40 * dM ≤ 40 * (dM + 1); omega)⟩) hK eL_bl (fun U hW hU => eL.go hE0 hW (hU.trans hH0.symm)) hS (fun q h => Or.inl h) (va_recv hK.1 hX (ci := 2) (q0 := 0) rfl rfl) rfl hl.1 rfl (Nat.le_of_ble_eq_true rfl) dL_shadowedBy_4 ⟨(by show 0 + mM ≤ mM; omega), (by show 0 + sM ≤ sM; omega)⟩ (fun v H locs hB hS hsz hkp => ?_)
  obtain ⟨rfl, hB⟩ := hB
  have hO1 := hO.kept (hkp o hO.lt hoF)
  refine lv_i2l (v := r.toInt64) hx hb dL_shadowedBy_7 rfl ?_
  refine nr_last0 S hK hO1 (Or.inr rfl) hS dL_shadowedBy_8 (fun H9 locs hO2 hne hsz2 hS => ?_)
  refine lv_goto (tgt := 18) hx hb dL_shadowedBy_9 (by decide) ?_
  refine lv_iconst (v := nI 0) hx hb dL_shadowedBy_18 (by decide +kernel) ?_
  refine W.widen (k := mM) (n := sM) (by omega) (by omega) ?_
  exact hE _ _ _ _ _ dL_shadowedBy_19 rfl rfl ⟨H, hB, hne, hsz2.symm, hkp, hO2⟩ hS
set_option maxHeartbeats 4000000 in
set_option maxRecDepth 100000 in
/-- its call throws -/
theorem ht_shadowedBy1 (l : Launch) {D : va_G} {Y : Nat → ClassId} {H0 : Heap} {F : Nat → Prop} {t0 x o : Nat} {fsx : List Value} {a0 : Int32} {dM : Nat} (hM : Th l yX2_shadowedBy wsX2_shadowedBy dM D Y (fun q => F q ∨ q = o) [.ref x, .int a0] H0 xIO) (hX : va_P D aCl [(x, .inr (2, fsx))] H0) : UC l yL_shadowedBy wsL_shadowedBy (dM + 1) 1 6 D Y (eL t0 F (fun q => F q ∨ q = o)) [.ref x, .int a0, .ref o] H0 (fun q => F q ∨ q = o) (bI_ (nI 1) (fun H1 => H0.size ≤ H1.size ∧ ∀ q : Nat, q < H0.size → H1[q]? = H0[q]?)) := by
  refine UCw.start (cc := cL_shadowedBy) (maxL := 4) (rt := .int) (hh := [(0, 9, 12, 21), (0, 9, 15, 48)]) (by decide) rfl (Nat.le_of_ble_eq_true rfl) ?_
  intro p e s m args below meth c ls Q S hK hH0 hE0 hl htab hE
  have S : CallFix p m c cL_shadowedBy 4 s args wsL_shadowedBy RL := S
  have hx := S.1
  have hb := S.2.1
  have hts := S.2.2.2.2
  have hl : lv_has ls 4 [(0, .ref x), (1, .int a0), (2, .ref o)] := hl
  have hS : va_S (fun q => F q ∨ q = o) H0 H0 [] := va_S.rf
  refine lv_aload_n hx hb dL_shadowedBy_0 rfl (lv_at hl 2 rfl) ?_
  refine lv_iconst (v := nI 0) hx hb dL_shadowedBy_1 (by decide +kernel) ?_
  refine lv_aload_n hx hb dL_shadowedBy_2 rfl (lv_at hl 0 rfl) ?_
  refine lv_iload_n hx hb dL_shadowedBy_3 rfl (lv_at hl 1 rfl) ?_
  refine Th.catchV (As := [.int a0]) (name := xIO) S hM (cwV 1 hts gL_shadowedBy_X2_shadowedBy rfl rfl rfl (by decide +kernel) ⟨Nat.le_refl _, (by show 8 + (4 + 11) + 40 * dM ≤ 40 * (dM + 1); omega)⟩) hK (by rw [← hH0]; exact hE0.2.1) hS (va_recv hK.1 hX (ci := 2) (q0 := 0) rfl rfl) rfl hl.1 rfl (Nat.le_of_ble_eq_true rfl) dL_shadowedBy_4 ⟨Nat.le_of_ble_eq_true rfl, Nat.le_of_ble_eq_true rfl⟩ [] ⟨0, 9, 12, 21⟩ [⟨0, 9, 15, 48⟩] (by rw [htab]; rfl) (fun z hz => absurd hz List.not_mem_nil) (by decide) (by decide) (hts _ (List.mem_of_getElem? (i := 1) rfl)) (va_Nw.use (xB_on _ (by decide +kernel)) (hE0.2.1.2.2.1 (.castable xIO xIO) (by decide +kernel))) (fun q9 H1 hz hk hS => ?_)
  refine lv_astore_n (lv' := [(3, .ref q9), (0, .ref x), (1, .int a0), (2, .ref o)]) hx hb dL_shadowedBy_12 rfl hl (by decide) rfl (fun ls hl => ?_)
  refine lv_iconst (v := nI 1) hx hb dL_shadowedBy_13 (by decide +kernel) ?_
  exact hE _ _ _ _ _ dL_shadowedBy_14 rfl rfl ⟨hz, hk⟩ hS
set_option maxHeartbeats 4000000 in
set_option maxRecDepth 100000 in
/-- its call throws -/
theorem ht_shadowedBy2 (l : Launch) {D : va_G} {Y : Nat → ClassId} {H0 : Heap} {F : Nat → Prop} {t0 x o : Nat} {fsx : List Value} {a0 : Int32} {dM : Nat} (hM : Th l yX2_shadowedBy wsX2_shadowedBy dM D Y (fun q => F q ∨ q = o) [.ref x, .int a0] H0 xNE) (hX : va_P D aCl [(x, .inr (2, fsx))] H0) : UC l yL_shadowedBy wsL_shadowedBy (dM + 1) 1 6 D Y (eL t0 F (fun q => F q ∨ q = o)) [.ref x, .int a0, .ref o] H0 (fun q => F q ∨ q = o) (bI_ (nI 2) (fun H1 => H0.size ≤ H1.size ∧ ∀ q : Nat, q < H0.size → H1[q]? = H0[q]?)) := by
  refine UCw.start (cc := cL_shadowedBy) (maxL := 4) (rt := .int) (hh := [(0, 9, 12, 21), (0, 9, 15, 48)]) (by decide) rfl (Nat.le_of_ble_eq_true rfl) ?_
  intro p e s m args below meth c ls Q S hK hH0 hE0 hl htab hE
  have S : CallFix p m c cL_shadowedBy 4 s args wsL_shadowedBy RL := S
  have hx := S.1
  have hb := S.2.1
  have hts := S.2.2.2.2
  have hl : lv_has ls 4 [(0, .ref x), (1, .int a0), (2, .ref o)] := hl
  have hS : va_S (fun q => F q ∨ q = o) H0 H0 [] := va_S.rf
  refine lv_aload_n hx hb dL_shadowedBy_0 rfl (lv_at hl 2 rfl) ?_
  refine lv_iconst (v := nI 0) hx hb dL_shadowedBy_1 (by decide +kernel) ?_
  refine lv_aload_n hx hb dL_shadowedBy_2 rfl (lv_at hl 0 rfl) ?_
  refine lv_iload_n hx hb dL_shadowedBy_3 rfl (lv_at hl 1 rfl) ?_
  refine Th.catchV (As := [.int a0]) (name := xNE) S hM (cwV 1 hts gL_shadowedBy_X2_shadowedBy rfl rfl rfl (by decide +kernel) ⟨Nat.le_refl _, (by show 8 + (4 + 11) + 40 * dM ≤ 40 * (dM + 1); omega)⟩) hK (by rw [← hH0]; exact hE0.2.1) hS (va_recv hK.1 hX (ci := 2) (q0 := 0) rfl rfl) rfl hl.1 rfl (Nat.le_of_ble_eq_true rfl) dL_shadowedBy_4 ⟨Nat.le_of_ble_eq_true rfl, Nat.le_of_ble_eq_true rfl⟩ [⟨0, 9, 12, 21⟩] ⟨0, 9, 15, 48⟩ [] (by rw [htab]; rfl) (fun z hz => by rcases List.mem_singleton.mp hz with rfl; exact Or.inr ⟨by decide, _, (hts _ (List.mem_of_getElem? (i := 1) rfl)), hE0.2.2.2.2⟩) (by decide) (by decide) (hts _ (List.mem_of_getElem? (i := 2) rfl)) (va_Nw.use (xB_on _ (by decide +kernel)) (hE0.2.1.2.2.1 (.castable xNE xNE) (by decide +kernel))) (fun q9 H1 hz hk hS => ?_)
  refine lv_astore_n (lv' := [(3, .ref q9), (0, .ref x), (1, .int a0), (2, .ref o)]) hx hb dL_shadowedBy_15 rfl hl (by decide) rfl (fun ls hl => ?_)
  refine lv_iconst (v := nI 2) hx hb dL_shadowedBy_16 (by decide +kernel) ?_
  exact hE _ _ _ _ _ dL_shadowedBy_17 rfl rfl ⟨hz, hk⟩ hS
set_option maxHeartbeats 4000000 in
set_option maxRecDepth 100000 in
/-- its call returns -/
theorem hu_isRedundant (l : Launch) {D : va_G} {Y : Nat → ClassId} {H0 : Heap} {F : Nat → Prop} {t0 x o : Nat} {fsx : List Value} {a0 : Int32} {r : Bool} {B : Heap → Prop} {w0 : Int64} {dM mM sM : Nat} (hM : UC l yX2_isRedundant wsX2_isRedundant dM mM sM D Y (eL t0 F (fun q => F q ∨ q = o)) [.ref x, .int a0] H0 F (bI_ (bI r) B)) (hO : oB D Y o w0 H0) (hoF : ¬ F o) (hX : va_P D aCl [(x, .inr (2, fsx))] H0) : UC l yL_isRedundant wsL_isRedundant (dM + 1) mM sM D Y (eL t0 F (fun q => F q ∨ q = o)) [.ref x, .int a0, .ref o] H0 (fun q => F q ∨ q = o) (bI_ (nI 0) (fun H1 => ∃ H2 : Heap, B H2 ∧ (∀ q, q ≠ o → H1[q]? = H2[q]?) ∧ H2.size = H1.size ∧ (∀ q : Nat, q < H0.size → ¬ F q → H2[q]? = H0[q]?) ∧ oB D Y o (bL r) H1)) := by
  refine UCw.start (cc := cL_isRedundant) (maxL := 4) (rt := .int) (hh := [(0, 16, 19, 21)]) (by decide) rfl (Nat.le_of_ble_eq_true rfl) ?_
  intro p e s m args below meth c ls Q S hK hH0 hE0 hl htab hE
  have S : CallFix p m c cL_isRedundant 4 s args wsL_isRedundant RL := S
  have hx := S.1
  have hb := S.2.1
  have hts := S.2.2.2.2
  have hl : lv_has ls 4 [(0, .ref x), (1, .int a0), (2, .ref o)] := hl
  have hS : va_S (fun q => F q ∨ q = o) H0 H0 [] := va_S.rf
  refine lv_aload_n hx hb dL_isRedundant_0 rfl (lv_at hl 2 rfl) ?_
  refine lv_iconst (v := nI 0) hx hb dL_isRedundant_1 (by decide +kernel) ?_
  refine lv_aload_n hx hb dL_isRedundant_2 rfl (lv_at hl 0 rfl) ?_
  refine lv_iload_n hx hb dL_isRedundant_3 rfl (lv_at hl 1 rfl) ?_
  refine UC.callV (As := [.int a0]) S hM (cwV 1 hts gL_isRedundant_X2_isRedundant rfl rfl rfl (by decide +kernel) ⟨Nat.le_refl _, (by show 8 + (2 + 11) + 40 * dM ≤ 40 * (dM + 1); omega)⟩) hK eL_bl (fun U hW hU => eL.go hE0 hW (hU.trans hH0.symm)) hS (fun q h => Or.inl h) (va_recv hK.1 hX (ci := 2) (q0 := 0) rfl rfl) rfl hl.1 rfl (Nat.le_of_ble_eq_true rfl) dL_isRedundant_4 ⟨(by show 0 + mM ≤ mM; omega), (by show 0 + sM ≤ sM; omega)⟩ (fun v H locs hB hS hsz hkp => ?_)
  obtain ⟨rfl, hB⟩ := hB
  have hO1 := hO.kept (hkp o hO.lt hoF)
  refine nr_ifB_eq (tgt := 14) hx hb dL_isRedundant_7 (by decide) (fun c_b => ?_) (fun c_b => ?_)
  · refine lv_lconst (v := 0) hx hb dL_isRedundant_14 (by decide +kernel) ?_
    refine nr_last0 S hK hO1 (Or.inr rfl) hS dL_isRedundant_15 (fun H9 locs hO2 hne hsz2 hS => ?_)
    refine lv_goto (tgt := 22) hx hb dL_isRedundant_16 (by decide) ?_
    refine lv_iconst (v := nI 0) hx hb dL_isRedundant_22 (by decide +kernel) ?_
    refine W.widen (k := mM) (n := sM) (by omega) (by omega) ?_
    exact hE _ _ _ _ _ dL_isRedundant_23 rfl rfl ⟨H, hB, hne, hsz2.symm, hkp, (by rw [c_b]; exact hO2)⟩ hS
  · refine lv_lconst (v := 1) hx hb dL_isRedundant_10 (by decide +kernel) ?_
    refine lv_goto (tgt := 15) hx hb dL_isRedundant_11 (by decide) ?_
    refine nr_last0 S hK hO1 (Or.inr rfl) hS dL_isRedundant_15 (fun H9 locs hO2 hne hsz2 hS => ?_)
    refine lv_goto (tgt := 22) hx hb dL_isRedundant_16 (by decide) ?_
    refine lv_iconst (v := nI 0) hx hb dL_isRedundant_22 (by decide +kernel) ?_
    refine W.widen (k := mM) (n := sM) (by omega) (by omega) ?_
    exact hE _ _ _ _ _ dL_isRedundant_23 rfl rfl ⟨H, hB, hne, hsz2.symm, hkp, (by rw [c_b]; exact hO2)⟩ hS
set_option maxHeartbeats 4000000 in
set_option maxRecDepth 100000 in
/-- its call throws -/
theorem ht_isRedundant1 (l : Launch) {D : va_G} {Y : Nat → ClassId} {H0 : Heap} {F : Nat → Prop} {t0 x o : Nat} {fsx : List Value} {a0 : Int32} {dM : Nat} (hM : Th l yX2_isRedundant wsX2_isRedundant dM D Y (fun q => F q ∨ q = o) [.ref x, .int a0] H0 xIO) (hX : va_P D aCl [(x, .inr (2, fsx))] H0) : UC l yL_isRedundant wsL_isRedundant (dM + 1) 1 6 D Y (eL t0 F (fun q => F q ∨ q = o)) [.ref x, .int a0, .ref o] H0 (fun q => F q ∨ q = o) (bI_ (nI 1) (fun H1 => H0.size ≤ H1.size ∧ ∀ q : Nat, q < H0.size → H1[q]? = H0[q]?)) := by
  refine UCw.start (cc := cL_isRedundant) (maxL := 4) (rt := .int) (hh := [(0, 16, 19, 21)]) (by decide) rfl (Nat.le_of_ble_eq_true rfl) ?_
  intro p e s m args below meth c ls Q S hK hH0 hE0 hl htab hE
  have S : CallFix p m c cL_isRedundant 4 s args wsL_isRedundant RL := S
  have hx := S.1
  have hb := S.2.1
  have hts := S.2.2.2.2
  have hl : lv_has ls 4 [(0, .ref x), (1, .int a0), (2, .ref o)] := hl
  have hS : va_S (fun q => F q ∨ q = o) H0 H0 [] := va_S.rf
  refine lv_aload_n hx hb dL_isRedundant_0 rfl (lv_at hl 2 rfl) ?_
  refine lv_iconst (v := nI 0) hx hb dL_isRedundant_1 (by decide +kernel) ?_
  refine lv_aload_n hx hb dL_isRedundant_2 rfl (lv_at hl 0 rfl) ?_
  refine lv_iload_n hx hb dL_isRedundant_3 rfl (lv_at hl 1 rfl) ?_
  refine Th.catchV (As := [.int a0]) (name := xIO) S hM (cwV 1 hts gL_isRedundant_X2_isRedundant rfl rfl rfl (by decide +kernel) ⟨Nat.le_refl _, (by show 8 + (2 + 11) + 40 * dM ≤ 40 * (dM + 1); omega)⟩) hK (by rw [← hH0]; exact hE0.2.1) hS (va_recv hK.1 hX (ci := 2) (q0 := 0) rfl rfl) rfl hl.1 rfl (Nat.le_of_ble_eq_true rfl) dL_isRedundant_4 ⟨Nat.le_of_ble_eq_true rfl, Nat.le_of_ble_eq_true rfl⟩ [] ⟨0, 16, 19, 21⟩ [] (by rw [htab]; rfl) (fun z hz => absurd hz List.not_mem_nil) (by decide) (by decide) (hts _ (List.mem_of_getElem? (i := 1) rfl)) (va_Nw.use (xB_on _ (by decide +kernel)) (hE0.2.1.2.2.1 (.castable xIO xIO) (by decide +kernel))) (fun q9 H1 hz hk hS => ?_)
  refine lv_astore_n (lv' := [(3, .ref q9), (0, .ref x), (1, .int a0), (2, .ref o)]) hx hb dL_isRedundant_19 rfl hl (by decide) rfl (fun ls hl => ?_)
  refine lv_iconst (v := nI 1) hx hb dL_isRedundant_20 (by decide +kernel) ?_
  exact hE _ _ _ _ _ dL_isRedundant_21 rfl rfl ⟨hz, hk⟩ hS
set_option maxHeartbeats 4000000 in
set_option maxRecDepth 100000 in
/-- its call returns -/
theorem hu_canMerge (l : Launch) {D : va_G} {Y : Nat → ClassId} {H0 : Heap} {F : Nat → Prop} {t0 x o : Nat} {fsx : List Value} {a0 : Int32} {r : Bool} {B : Heap → Prop} {w0 : Int64} {dM mM sM : Nat} (hM : UC l yX2_canMerge wsX2_canMerge dM mM sM D Y (eL t0 F (fun q => F q ∨ q = o)) [.ref x, .int a0] H0 F (bI_ (bI r) B)) (hO : oB D Y o w0 H0) (hoF : ¬ F o) (hX : va_P D aCl [(x, .inr (2, fsx))] H0) : UC l yL_canMerge wsL_canMerge (dM + 1) mM sM D Y (eL t0 F (fun q => F q ∨ q = o)) [.ref x, .int a0, .ref o] H0 (fun q => F q ∨ q = o) (bI_ (nI 0) (fun H1 => ∃ H2 : Heap, B H2 ∧ (∀ q, q ≠ o → H1[q]? = H2[q]?) ∧ H2.size = H1.size ∧ (∀ q : Nat, q < H0.size → ¬ F q → H2[q]? = H0[q]?) ∧ oB D Y o (bL r) H1)) := by
  refine UCw.start (cc := cL_canMerge) (maxL := 4) (rt := .int) (hh := [(0, 16, 19, 21)]) (by decide) rfl (Nat.le_of_ble_eq_true rfl) ?_
  intro p e s m args below meth c ls Q S hK hH0 hE0 hl htab hE
  have S : CallFix p m c cL_canMerge 4 s args wsL_canMerge RL := S
  have hx := S.1
  have hb := S.2.1
  have hts := S.2.2.2.2
  have hl : lv_has ls 4 [(0, .ref x), (1, .int a0), (2, .ref o)] := hl
  have hS : va_S (fun q => F q ∨ q = o) H0 H0 [] := va_S.rf
  refine lv_aload_n hx hb dL_canMerge_0 rfl (lv_at hl 2 rfl) ?_
  refine lv_iconst (v := nI 0) hx hb dL_canMerge_1 (by decide +kernel) ?_
  refine lv_aload_n hx hb dL_canMerge_2 rfl (lv_at hl 0 rfl) ?_
  refine lv_iload_n hx hb dL_canMerge_3 rfl (lv_at hl 1 rfl) ?_
  refine UC.callV (As := [.int a0]) S hM (cwV 1 hts gL_canMerge_X2_canMerge rfl rfl rfl (by decide +kernel) ⟨Nat.le_refl _, (by show 8 + (2 + 11) + 40 * dM ≤ 40 * (dM + 1); omega)⟩) hK eL_bl (fun U hW hU => eL.go hE0 hW (hU.trans hH0.symm)) hS (fun q h => Or.inl h) (va_recv hK.1 hX (ci := 2) (q0 := 0) rfl rfl) rfl hl.1 rfl (Nat.le_of_ble_eq_true rfl) dL_canMerge_4 ⟨(by show 0 + mM ≤ mM; omega), (by show 0 + sM ≤ sM; omega)⟩ (fun v H locs hB hS hsz hkp => ?_)
  obtain ⟨rfl, hB⟩ := hB
  have hO1 := hO.kept (hkp o hO.lt hoF)
  refine nr_ifB_eq (tgt := 14) hx hb dL_canMerge_7 (by decide) (fun c_b => ?_) (fun c_b => ?_)
  · refine lv_lconst (v := 0) hx hb dL_canMerge_14 (by decide +kernel) ?_
    refine nr_last0 S hK hO1 (Or.inr rfl) hS dL_canMerge_15 (fun H9 locs hO2 hne hsz2 hS => ?_)
    refine lv_goto (tgt := 22) hx hb dL_canMerge_16 (by decide) ?_
    refine lv_iconst (v := nI 0) hx hb dL_canMerge_22 (by decide +kernel) ?_
    refine W.widen (k := mM) (n := sM) (by omega) (by omega) ?_
    exact hE _ _ _ _ _ dL_canMerge_23 rfl rfl ⟨H, hB, hne, hsz2.symm, hkp, (by rw [c_b]; exact hO2)⟩ hS
  · refine lv_lconst (v := 1) hx hb dL_canMerge_10 (by decide +kernel) ?_
    refine lv_goto (tgt := 15) hx hb dL_canMerge_11 (by decide) ?_
    refine nr_last0 S hK hO1 (Or.inr rfl) hS dL_canMerge_15 (fun H9 locs hO2 hne hsz2 hS => ?_)
    refine lv_goto (tgt := 22) hx hb dL_canMerge_16 (by decide) ?_
    refine lv_iconst (v := nI 0) hx hb dL_canMerge_22 (by decide +kernel) ?_
    refine W.widen (k := mM) (n := sM) (by omega) (by omega) ?_
    exact hE _ _ _ _ _ dL_canMerge_23 rfl rfl ⟨H, hB, hne, hsz2.symm, hkp, (by rw [c_b]; exact hO2)⟩ hS
set_option maxHeartbeats 4000000 in
set_option maxRecDepth 100000 in
/-- its call throws -/
theorem ht_canMerge1 (l : Launch) {D : va_G} {Y : Nat → ClassId} {H0 : Heap} {F : Nat → Prop} {t0 x o : Nat} {fsx : List Value} {a0 : Int32} {dM : Nat} (hM : Th l yX2_canMerge wsX2_canMerge dM D Y (fun q => F q ∨ q = o) [.ref x, .int a0] H0 xIO) (hX : va_P D aCl [(x, .inr (2, fsx))] H0) : UC l yL_canMerge wsL_canMerge (dM + 1) 1 6 D Y (eL t0 F (fun q => F q ∨ q = o)) [.ref x, .int a0, .ref o] H0 (fun q => F q ∨ q = o) (bI_ (nI 1) (fun H1 => H0.size ≤ H1.size ∧ ∀ q : Nat, q < H0.size → H1[q]? = H0[q]?)) := by
  refine UCw.start (cc := cL_canMerge) (maxL := 4) (rt := .int) (hh := [(0, 16, 19, 21)]) (by decide) rfl (Nat.le_of_ble_eq_true rfl) ?_
  intro p e s m args below meth c ls Q S hK hH0 hE0 hl htab hE
  have S : CallFix p m c cL_canMerge 4 s args wsL_canMerge RL := S
  have hx := S.1
  have hb := S.2.1
  have hts := S.2.2.2.2
  have hl : lv_has ls 4 [(0, .ref x), (1, .int a0), (2, .ref o)] := hl
  have hS : va_S (fun q => F q ∨ q = o) H0 H0 [] := va_S.rf
  refine lv_aload_n hx hb dL_canMerge_0 rfl (lv_at hl 2 rfl) ?_
  refine lv_iconst (v := nI 0) hx hb dL_canMerge_1 (by decide +kernel) ?_
  refine lv_aload_n hx hb dL_canMerge_2 rfl (lv_at hl 0 rfl) ?_
  refine lv_iload_n hx hb dL_canMerge_3 rfl (lv_at hl 1 rfl) ?_
  refine Th.catchV (As := [.int a0]) (name := xIO) S hM (cwV 1 hts gL_canMerge_X2_canMerge rfl rfl rfl (by decide +kernel) ⟨Nat.le_refl _, (by show 8 + (2 + 11) + 40 * dM ≤ 40 * (dM + 1); omega)⟩) hK (by rw [← hH0]; exact hE0.2.1) hS (va_recv hK.1 hX (ci := 2) (q0 := 0) rfl rfl) rfl hl.1 rfl (Nat.le_of_ble_eq_true rfl) dL_canMerge_4 ⟨Nat.le_of_ble_eq_true rfl, Nat.le_of_ble_eq_true rfl⟩ [] ⟨0, 16, 19, 21⟩ [] (by rw [htab]; rfl) (fun z hz => absurd hz List.not_mem_nil) (by decide) (by decide) (hts _ (List.mem_of_getElem? (i := 1) rfl)) (va_Nw.use (xB_on _ (by decide +kernel)) (hE0.2.1.2.2.1 (.castable xIO xIO) (by decide +kernel))) (fun q9 H1 hz hk hS => ?_)
  refine lv_astore_n (lv' := [(3, .ref q9), (0, .ref x), (1, .int a0), (2, .ref o)]) hx hb dL_canMerge_19 rfl hl (by decide) rfl (fun ls hl => ?_)
  refine lv_iconst (v := nI 1) hx hb dL_canMerge_20 (by decide +kernel) ?_
  exact hE _ _ _ _ _ dL_canMerge_21 rfl rfl ⟨hz, hk⟩ hS
set_option maxHeartbeats 4000000 in
set_option maxRecDepth 100000 in
/-- its call returns -/
theorem hu_entries (l : Launch) {D : va_G} {Y : Nat → ClassId} {H0 : Heap} {F : Nat → Prop} {t0 x o : Nat} {fsx : List Value} {a0 : Int32} {r : Int32} {B : Heap → Prop} {w0 : Int64} {dM mM sM : Nat} (hM : UC l yX2_entries wsX2_entries dM mM sM D Y (eL t0 F (fun q => F q ∨ q = o)) [.ref x, .int a0] H0 F (bI_ r B)) (hO : oB D Y o w0 H0) (hoF : ¬ F o) (hX : va_P D aCl [(x, .inr (2, fsx))] H0) : UC l yL_entries wsL_entries (dM + 1) mM sM D Y (eL t0 F (fun q => F q ∨ q = o)) [.ref x, .int a0, .ref o] H0 (fun q => F q ∨ q = o) (bI_ (nI 0) (fun H1 => ∃ H2 : Heap, B H2 ∧ (∀ q, q ≠ o → H1[q]? = H2[q]?) ∧ H2.size = H1.size ∧ (∀ q : Nat, q < H0.size → ¬ F q → H2[q]? = H0[q]?) ∧ oB D Y o (r.toInt64) H1)) := by
  refine UCw.start (cc := cL_entries) (maxL := 4) (rt := .int) (hh := [(0, 9, 12, 21)]) (by decide) rfl (Nat.le_of_ble_eq_true rfl) ?_
  intro p e s m args below meth c ls Q S hK hH0 hE0 hl htab hE
  have S : CallFix p m c cL_entries 4 s args wsL_entries RL := S
  have hx := S.1
  have hb := S.2.1
  have hts := S.2.2.2.2
  have hl : lv_has ls 4 [(0, .ref x), (1, .int a0), (2, .ref o)] := hl
  have hS : va_S (fun q => F q ∨ q = o) H0 H0 [] := va_S.rf
  refine lv_aload_n hx hb dL_entries_0 rfl (lv_at hl 2 rfl) ?_
  refine lv_iconst (v := nI 0) hx hb dL_entries_1 (by decide +kernel) ?_
  refine lv_aload_n hx hb dL_entries_2 rfl (lv_at hl 0 rfl) ?_
  refine lv_iload_n hx hb dL_entries_3 rfl (lv_at hl 1 rfl) ?_
  refine UC.callV (As := [.int a0]) S hM (cwV 1 hts gL_entries_X2_entries rfl rfl rfl (by decide +kernel) ⟨Nat.le_refl _, (by show 8 + (2 + 11) + 40 * dM ≤ 40 * (dM + 1); omega)⟩) hK eL_bl (fun U hW hU => eL.go hE0 hW (hU.trans hH0.symm)) hS (fun q h => Or.inl h) (va_recv hK.1 hX (ci := 2) (q0 := 0) rfl rfl) rfl hl.1 rfl (Nat.le_of_ble_eq_true rfl) dL_entries_4 ⟨(by show 0 + mM ≤ mM; omega), (by show 0 + sM ≤ sM; omega)⟩ (fun v H locs hB hS hsz hkp => ?_)
  obtain ⟨rfl, hB⟩ := hB
  have hO1 := hO.kept (hkp o hO.lt hoF)
  refine lv_i2l (v := r.toInt64) hx hb dL_entries_7 rfl ?_
  refine nr_last0 S hK hO1 (Or.inr rfl) hS dL_entries_8 (fun H9 locs hO2 hne hsz2 hS => ?_)
  refine lv_goto (tgt := 15) hx hb dL_entries_9 (by decide) ?_
  refine lv_iconst (v := nI 0) hx hb dL_entries_15 (by decide +kernel) ?_
  refine W.widen (k := mM) (n := sM) (by omega) (by omega) ?_
  exact hE _ _ _ _ _ dL_entries_16 rfl rfl ⟨H, hB, hne, hsz2.symm, hkp, hO2⟩ hS
set_option maxHeartbeats 4000000 in
set_option maxRecDepth 100000 in
/-- its call throws -/
theorem ht_entries1 (l : Launch) {D : va_G} {Y : Nat → ClassId} {H0 : Heap} {F : Nat → Prop} {t0 x o : Nat} {fsx : List Value} {a0 : Int32} {dM : Nat} (hM : Th l yX2_entries wsX2_entries dM D Y (fun q => F q ∨ q = o) [.ref x, .int a0] H0 xIO) (hX : va_P D aCl [(x, .inr (2, fsx))] H0) : UC l yL_entries wsL_entries (dM + 1) 1 6 D Y (eL t0 F (fun q => F q ∨ q = o)) [.ref x, .int a0, .ref o] H0 (fun q => F q ∨ q = o) (bI_ (nI 1) (fun H1 => H0.size ≤ H1.size ∧ ∀ q : Nat, q < H0.size → H1[q]? = H0[q]?)) := by
  refine UCw.start (cc := cL_entries) (maxL := 4) (rt := .int) (hh := [(0, 9, 12, 21)]) (by decide) rfl (Nat.le_of_ble_eq_true rfl) ?_
  intro p e s m args below meth c ls Q S hK hH0 hE0 hl htab hE
  have S : CallFix p m c cL_entries 4 s args wsL_entries RL := S
  have hx := S.1
  have hb := S.2.1
  have hts := S.2.2.2.2
  have hl : lv_has ls 4 [(0, .ref x), (1, .int a0), (2, .ref o)] := hl
  have hS : va_S (fun q => F q ∨ q = o) H0 H0 [] := va_S.rf
  refine lv_aload_n hx hb dL_entries_0 rfl (lv_at hl 2 rfl) ?_
  refine lv_iconst (v := nI 0) hx hb dL_entries_1 (by decide +kernel) ?_
  refine lv_aload_n hx hb dL_entries_2 rfl (lv_at hl 0 rfl) ?_
  refine lv_iload_n hx hb dL_entries_3 rfl (lv_at hl 1 rfl) ?_
  refine Th.catchV (As := [.int a0]) (name := xIO) S hM (cwV 1 hts gL_entries_X2_entries rfl rfl rfl (by decide +kernel) ⟨Nat.le_refl _, (by show 8 + (2 + 11) + 40 * dM ≤ 40 * (dM + 1); omega)⟩) hK (by rw [← hH0]; exact hE0.2.1) hS (va_recv hK.1 hX (ci := 2) (q0 := 0) rfl rfl) rfl hl.1 rfl (Nat.le_of_ble_eq_true rfl) dL_entries_4 ⟨Nat.le_of_ble_eq_true rfl, Nat.le_of_ble_eq_true rfl⟩ [] ⟨0, 9, 12, 21⟩ [] (by rw [htab]; rfl) (fun z hz => absurd hz List.not_mem_nil) (by decide) (by decide) (hts _ (List.mem_of_getElem? (i := 1) rfl)) (va_Nw.use (xB_on _ (by decide +kernel)) (hE0.2.1.2.2.1 (.castable xIO xIO) (by decide +kernel))) (fun q9 H1 hz hk hS => ?_)
  refine lv_astore_n (lv' := [(3, .ref q9), (0, .ref x), (1, .int a0), (2, .ref o)]) hx hb dL_entries_12 rfl hl (by decide) rfl (fun ls hl => ?_)
  refine lv_iconst (v := nI 1) hx hb dL_entries_13 (by decide +kernel) ?_
  exact hE _ _ _ _ _ dL_entries_14 rfl rfl ⟨hz, hk⟩ hS
set_option maxHeartbeats 4000000 in
set_option maxRecDepth 100000 in
/-- its call returns -/
theorem hu_entryValue (l : Launch) {D : va_G} {Y : Nat → ClassId} {H0 : Heap} {F : Nat → Prop} {t0 x o : Nat} {fsx : List Value} {a0 : Int32} {a1 : Int32} {r : Int32} {B : Heap → Prop} {w0 : Int64} {dM mM sM : Nat} (hM : UC l yX2_entryValue wsX2_entryValue dM mM sM D Y (eL t0 F (fun q => F q ∨ q = o)) [.ref x, .int a0, .int a1] H0 F (bI_ r B)) (hO : oB D Y o w0 H0) (hoF : ¬ F o) (hX : va_P D aCl [(x, .inr (2, fsx))] H0) : UC l yL_entryValue wsL_entryValue (dM + 1) mM sM D Y (eL t0 F (fun q => F q ∨ q = o)) [.ref x, .int a0, .int a1, .ref o] H0 (fun q => F q ∨ q = o) (bI_ (nI 0) (fun H1 => ∃ H2 : Heap, B H2 ∧ (∀ q, q ≠ o → H1[q]? = H2[q]?) ∧ H2.size = H1.size ∧ (∀ q : Nat, q < H0.size → ¬ F q → H2[q]? = H0[q]?) ∧ oB D Y o (r.toInt64) H1)) := by
  refine UCw.start (cc := cL_entryValue) (maxL := 5) (rt := .int) (hh := [(0, 10, 13, 21)]) (by decide) rfl (Nat.le_of_ble_eq_true rfl) ?_
  intro p e s m args below meth c ls Q S hK hH0 hE0 hl htab hE
  have S : CallFix p m c cL_entryValue 5 s args wsL_entryValue RL := S
  have hx := S.1
  have hb := S.2.1
  have hts := S.2.2.2.2
  have hl : lv_has ls 5 [(0, .ref x), (1, .int a0), (2, .int a1), (3, .ref o)] := hl
  have hS : va_S (fun q => F q ∨ q = o) H0 H0 [] := va_S.rf
  refine lv_aload_n hx hb dL_entryValue_0 rfl (lv_at hl 3 rfl) ?_
  refine lv_iconst (v := nI 0) hx hb dL_entryValue_1 (by decide +kernel) ?_
  refine lv_aload_n hx hb dL_entryValue_2 rfl (lv_at hl 0 rfl) ?_
  refine lv_iload_n hx hb dL_entryValue_3 rfl (lv_at hl 1 rfl) ?_
  refine lv_iload_n hx hb dL_entryValue_4 rfl (lv_at hl 2 rfl) ?_
  refine UC.callV (As := [.int a0, .int a1]) S hM (cwV 2 hts gL_entryValue_X2_entryValue rfl rfl rfl (by decide +kernel) ⟨Nat.le_refl _, (by show 8 + (3 + 11) + 40 * dM ≤ 40 * (dM + 1); omega)⟩) hK eL_bl (fun U hW hU => eL.go hE0 hW (hU.trans hH0.symm)) hS (fun q h => Or.inl h) (va_recv hK.1 hX (ci := 2) (q0 := 0) rfl rfl) rfl hl.1 rfl (Nat.le_of_ble_eq_true rfl) dL_entryValue_5 ⟨(by show 0 + mM ≤ mM; omega), (by show 0 + sM ≤ sM; omega)⟩ (fun v H locs hB hS hsz hkp => ?_)
  obtain ⟨rfl, hB⟩ := hB
  have hO1 := hO.kept (hkp o hO.lt hoF)
  refine lv_i2l (v := r.toInt64) hx hb dL_entryValue_8 rfl ?_
  refine nr_last0 S hK hO1 (Or.inr rfl) hS dL_entryValue_9 (fun H9 locs hO2 hne hsz2 hS => ?_)
  refine lv_goto (tgt := 17) hx hb dL_entryValue_10 (by decide) ?_
  refine lv_iconst (v := nI 0) hx hb dL_entryValue_17 (by decide +kernel) ?_
  refine W.widen (k := mM) (n := sM) (by omega) (by omega) ?_
  exact hE _ _ _ _ _ dL_entryValue_18 rfl rfl ⟨H, hB, hne, hsz2.symm, hkp, hO2⟩ hS
set_option maxHeartbeats 4000000 in
set_option maxRecDepth 100000 in
/-- its call throws -/
theorem ht_entryValue1 (l : Launch) {D : va_G} {Y : Nat → ClassId} {H0 : Heap} {F : Nat → Prop} {t0 x o : Nat} {fsx : List Value} {a0 : Int32} {a1 : Int32} {dM : Nat} (hM : Th l yX2_entryValue wsX2_entryValue dM D Y (fun q => F q ∨ q = o) [.ref x, .int a0, .int a1] H0 xIO) (hX : va_P D aCl [(x, .inr (2, fsx))] H0) : UC l yL_entryValue wsL_entryValue (dM + 1) 1 6 D Y (eL t0 F (fun q => F q ∨ q = o)) [.ref x, .int a0, .int a1, .ref o] H0 (fun q => F q ∨ q = o) (bI_ (nI 1) (fun H1 => H0.size ≤ H1.size ∧ ∀ q : Nat, q < H0.size → H1[q]? = H0[q]?)) := by
  refine UCw.start (cc := cL_entryValue) (maxL := 5) (rt := .int) (hh := [(0, 10, 13, 21)]) (by decide) rfl (Nat.le_of_ble_eq_true rfl) ?_
  intro p e s m args below meth c ls Q S hK hH0 hE0 hl htab hE
  have S : CallFix p m c cL_entryValue 5 s args wsL_entryValue RL := S
  have hx := S.1
  have hb := S.2.1
  have hts := S.2.2.2.2
  have hl : lv_has ls 5 [(0, .ref x), (1, .int a0), (2, .int a1), (3, .ref o)] := hl
  have hS : va_S (fun q => F q ∨ q = o) H0 H0 [] := va_S.rf
  refine lv_aload_n hx hb dL_entryValue_0 rfl (lv_at hl 3 rfl) ?_
  refine lv_iconst (v := nI 0) hx hb dL_entryValue_1 (by decide +kernel) ?_
  refine lv_aload_n hx hb dL_entryValue_2 rfl (lv_at hl 0 rfl) ?_
  refine lv_iload_n hx hb dL_entryValue_3 rfl (lv_at hl 1 rfl) ?_
  refine lv_iload_n hx hb dL_entryValue_4 rfl (lv_at hl 2 rfl) ?_
  refine Th.catchV (As := [.int a0, .int a1]) (name := xIO) S hM (cwV 2 hts gL_entryValue_X2_entryValue rfl rfl rfl (by decide +kernel) ⟨Nat.le_refl _, (by show 8 + (3 + 11) + 40 * dM ≤ 40 * (dM + 1); omega)⟩) hK (by rw [← hH0]; exact hE0.2.1) hS (va_recv hK.1 hX (ci := 2) (q0 := 0) rfl rfl) rfl hl.1 rfl (Nat.le_of_ble_eq_true rfl) dL_entryValue_5 ⟨Nat.le_of_ble_eq_true rfl, Nat.le_of_ble_eq_true rfl⟩ [] ⟨0, 10, 13, 21⟩ [] (by rw [htab]; rfl) (fun z hz => absurd hz List.not_mem_nil) (by decide) (by decide) (hts _ (List.mem_of_getElem? (i := 1) rfl)) (va_Nw.use (xB_on _ (by decide +kernel)) (hE0.2.1.2.2.1 (.castable xIO xIO) (by decide +kernel))) (fun q9 H1 hz hk hS => ?_)
  refine lv_astore (lv' := [(4, .ref q9), (0, .ref x), (1, .int a0), (2, .int a1), (3, .ref o)]) hx hb dL_entryValue_13 hl (by decide) rfl (fun ls hl => ?_)
  refine lv_iconst (v := nI 1) hx hb dL_entryValue_15 (by decide +kernel) ?_
  exact hE _ _ _ _ _ dL_entryValue_16 rfl rfl ⟨hz, hk⟩ hS
set_option maxHeartbeats 4000000 in
set_option maxRecDepth 100000 in
/-- its call returns -/
theorem hu_entryMask (l : Launch) {D : va_G} {Y : Nat → ClassId} {H0 : Heap} {F : Nat → Prop} {t0 x o : Nat} {fsx : List Value} {a0 : Int32} {a1 : Int32} {r : Int32} {B : Heap → Prop} {w0 : Int64} {dM mM sM : Nat} (hM : UC l yX2_entryMask wsX2_entryMask dM mM sM D Y (eL t0 F (fun q => F q ∨ q = o)) [.ref x, .int a0, .int a1] H0 F (bI_ r B)) (hO : oB D Y o w0 H0) (hoF : ¬ F o) (hX : va_P D aCl [(x, .inr (2, fsx))] H0) : UC l yL_entryMask wsL_entryMask (dM + 1) mM sM D Y (eL t0 F (fun q => F q ∨ q = o)) [.ref x, .int a0, .int a1, .ref o] H0 (fun q => F q ∨ q = o) (bI_ (nI 0) (fun H1 => ∃ H2 : Heap, B H2 ∧ (∀ q, q ≠ o → H1[q]? = H2[q]?) ∧ H2.size = H1.size ∧ (∀ q : Nat, q < H0.size → ¬ F q → H2[q]? = H0[q]?) ∧ oB D Y o (r.toInt64) H1)) := by
  refine UCw.start (cc := cL_entryMask) (maxL := 5) (rt := .int) (hh := [(0, 10, 13, 21)]) (by decide) rfl (Nat.le_of_ble_eq_true rfl) ?_
  intro p e s m args below meth c ls Q S hK hH0 hE0 hl htab hE
  have S : CallFix p m c cL_entryMask 5 s args wsL_entryMask RL := S
  have hx := S.1
  have hb := S.2.1
  have hts := S.2.2.2.2
  have hl : lv_has ls 5 [(0, .ref x), (1, .int a0), (2, .int a1), (3, .ref o)] := hl
  have hS : va_S (fun q => F q ∨ q = o) H0 H0 [] := va_S.rf
  refine lv_aload_n hx hb dL_entryMask_0 rfl (lv_at hl 3 rfl) ?_
  refine lv_iconst (v := nI 0) hx hb dL_entryMask_1 (by decide +kernel) ?_
  refine lv_aload_n hx hb dL_entryMask_2 rfl (lv_at hl 0 rfl) ?_
  refine lv_iload_n hx hb dL_entryMask_3 rfl (lv_at hl 1 rfl) ?_
  refine lv_iload_n hx hb dL_entryMask_4 rfl (lv_at hl 2 rfl) ?_
  refine UC.callV (As := [.int a0, .int a1]) S hM (cwV 2 hts gL_entryMask_X2_entryMask rfl rfl rfl (by decide +kernel) ⟨Nat.le_refl _, (by show 8 + (8 + 11) + 40 * dM ≤ 40 * (dM + 1); omega)⟩) hK eL_bl (fun U hW hU => eL.go hE0 hW (hU.trans hH0.symm)) hS (fun q h => Or.inl h) (va_recv hK.1 hX (ci := 2) (q0 := 0) rfl rfl) rfl hl.1 rfl (Nat.le_of_ble_eq_true rfl) dL_entryMask_5 ⟨(by show 0 + mM ≤ mM; omega), (by show 0 + sM ≤ sM; omega)⟩ (fun v H locs hB hS hsz hkp => ?_)
  obtain ⟨rfl, hB⟩ := hB
  have hO1 := hO.kept (hkp o hO.lt hoF)
  refine lv_i2l (v := r.toInt64) hx hb dL_entryMask_8 rfl ?_
  refine nr_last0 S hK hO1 (Or.inr rfl) hS dL_entryMask_9 (fun H9 locs hO2 hne hsz2 hS => ?_)
  refine lv_goto (tgt := 17) hx hb dL_entryMask_10 (by decide) ?_
  refine lv_iconst (v := nI 0) hx hb dL_entryMask_17 (by decide +kernel) ?_
  refine W.widen (k := mM) (n := sM) (by omega) (by omega) ?_
  exact hE _ _ _ _ _ dL_entryMask_18 rfl rfl ⟨H, hB, hne, hsz2.symm, hkp, hO2⟩ hS
set_option maxHeartbeats 4000000 in
set_option maxRecDepth 100000 in
/-- its call throws -/
theorem ht_entryMask1 (l : Launch) {D : va_G} {Y : Nat → ClassId} {H0 : Heap} {F : Nat → Prop} {t0 x o : Nat} {fsx : List Value} {a0 : Int32} {a1 : Int32} {dM : Nat} (hM : Th l yX2_entryMask wsX2_entryMask dM D Y (fun q => F q ∨ q = o) [.ref x, .int a0, .int a1] H0 xIO) (hX : va_P D aCl [(x, .inr (2, fsx))] H0) : UC l yL_entryMask wsL_entryMask (dM + 1) 1 6 D Y (eL t0 F (fun q => F q ∨ q = o)) [.ref x, .int a0, .int a1, .ref o] H0 (fun q => F q ∨ q = o) (bI_ (nI 1) (fun H1 => H0.size ≤ H1.size ∧ ∀ q : Nat, q < H0.size → H1[q]? = H0[q]?)) := by
  refine UCw.start (cc := cL_entryMask) (maxL := 5) (rt := .int) (hh := [(0, 10, 13, 21)]) (by decide) rfl (Nat.le_of_ble_eq_true rfl) ?_
  intro p e s m args below meth c ls Q S hK hH0 hE0 hl htab hE
  have S : CallFix p m c cL_entryMask 5 s args wsL_entryMask RL := S
  have hx := S.1
  have hb := S.2.1
  have hts := S.2.2.2.2
  have hl : lv_has ls 5 [(0, .ref x), (1, .int a0), (2, .int a1), (3, .ref o)] := hl
  have hS : va_S (fun q => F q ∨ q = o) H0 H0 [] := va_S.rf
  refine lv_aload_n hx hb dL_entryMask_0 rfl (lv_at hl 3 rfl) ?_
  refine lv_iconst (v := nI 0) hx hb dL_entryMask_1 (by decide +kernel) ?_
  refine lv_aload_n hx hb dL_entryMask_2 rfl (lv_at hl 0 rfl) ?_
  refine lv_iload_n hx hb dL_entryMask_3 rfl (lv_at hl 1 rfl) ?_
  refine lv_iload_n hx hb dL_entryMask_4 rfl (lv_at hl 2 rfl) ?_
  refine Th.catchV (As := [.int a0, .int a1]) (name := xIO) S hM (cwV 2 hts gL_entryMask_X2_entryMask rfl rfl rfl (by decide +kernel) ⟨Nat.le_refl _, (by show 8 + (8 + 11) + 40 * dM ≤ 40 * (dM + 1); omega)⟩) hK (by rw [← hH0]; exact hE0.2.1) hS (va_recv hK.1 hX (ci := 2) (q0 := 0) rfl rfl) rfl hl.1 rfl (Nat.le_of_ble_eq_true rfl) dL_entryMask_5 ⟨Nat.le_of_ble_eq_true rfl, Nat.le_of_ble_eq_true rfl⟩ [] ⟨0, 10, 13, 21⟩ [] (by rw [htab]; rfl) (fun z hz => absurd hz List.not_mem_nil) (by decide) (by decide) (hts _ (List.mem_of_getElem? (i := 1) rfl)) (va_Nw.use (xB_on _ (by decide +kernel)) (hE0.2.1.2.2.1 (.castable xIO xIO) (by decide +kernel))) (fun q9 H1 hz hk hS => ?_)
  refine lv_astore (lv' := [(4, .ref q9), (0, .ref x), (1, .int a0), (2, .int a1), (3, .ref o)]) hx hb dL_entryMask_13 hl (by decide) rfl (fun ls hl => ?_)
  refine lv_iconst (v := nI 1) hx hb dL_entryMask_15 (by decide +kernel) ?_
  exact hE _ _ _ _ _ dL_entryMask_16 rfl rfl ⟨hz, hk⟩ hS
set_option maxHeartbeats 4000000 in
set_option maxRecDepth 100000 in
/-- its call returns -/
theorem hu_add (l : Launch) {D : va_G} {Y : Nat → ClassId} {H0 : Heap} {F : Nat → Prop} {t0 x o : Nat} {fsx : List Value} {a0 : Int32} {a1 : Int32} {a2 : Int32} {a3 : Int32} {a4 : Int32} {a5 : Bool} {r : Int32} {B : Heap → Prop} {w0 : Int64} {dM mM sM : Nat} (hM : UC l yX2_add wsX2_add dM mM sM D Y (eL t0 F (fun q => F q ∨ q = o)) [.ref x, .int a0, .int a1, .int a2, .int a3, .int a4, .int (bI a5)] H0 F (bI_ r B)) (hO : oB D Y o w0 H0) (hoF : ¬ F o) (hX : va_P D aCl [(x, .inr (2, fsx))] H0) : UC l yL_add wsL_add (dM + 1) mM sM D Y (eL t0 F (fun q => F q ∨ q = o)) [.ref x, .int a0, .int a1, .int a2, .int a3, .int a4, .int (bI a5), .ref o] H0 (fun q => F q ∨ q = o) (bI_ (nI 0) (fun H1 => ∃ H2 : Heap, B H2 ∧ (∀ q, q ≠ o → H1[q]? = H2[q]?) ∧ H2.size = H1.size ∧ (∀ q : Nat, q < H0.size → ¬ F q → H2[q]? = H0[q]?) ∧ oB D Y o (r.toInt64) H1)) := by
  refine UCw.start (cc := cL_add) (maxL := 9) (rt := .int) (hh := [(0, 18, 21, 13), (0, 18, 25, 15)]) (by decide) rfl (Nat.le_of_ble_eq_true rfl) ?_
  intro p e s m args below meth c ls Q S hK hH0 hE0 hl htab hE
  have S : CallFix p m c cL_add 9 s args wsL_add RL := S
  have hx := S.1
  have hb := S.2.1
  have hts := S.2.2.2.2
  have hl : lv_has ls 9 [(0, .ref x), (1, .int a0), (2, .int a1), (3, .int a2), (4, .int a3), (5, .int a4), (6, .int (bI a5)), (7, .ref o)] := hl
  have hS : va_S (fun q => F q ∨ q = o) H0 H0 [] := va_S.rf
  refine lv_aload hx hb dL_add_0 (lv_at hl 7 rfl) ?_
  refine lv_iconst (v := nI 0) hx hb dL_add_2 (by decide +kernel) ?_
  refine lv_aload_n hx hb dL_add_3 rfl (lv_at hl 0 rfl) ?_
  refine lv_iload_n hx hb dL_add_4 rfl (lv_at hl 1 rfl) ?_
  refine lv_iload_n hx hb dL_add_5 rfl (lv_at hl 2 rfl) ?_
  refine lv_iload_n hx hb dL_add_6 rfl (lv_at hl 3 rfl) ?_
  refine lv_iload hx hb dL_add_7 (lv_at hl 4 rfl) ?_
  refine lv_iload hx hb dL_add_9 (lv_at hl 5 rfl) ?_
  refine lv_iload hx hb dL_add_11 (lv_at hl 6 rfl) ?_
  refine UC.callV (As := [.int a0, .int a1, .int a2, .int a3, .int a4, .int (bI a5)]) S hM (cwV 6 hts gL_add_X2_add rfl rfl rfl (by decide +kernel) ⟨Nat.le_refl _, (by show 8 + (9 + 11) + 40 * dM ≤ 40 * (dM + 1); omega)⟩) hK eL_bl (fun U hW hU => eL.go hE0 hW (hU.trans hH0.symm)) hS (fun q h => Or.inl h) (va_recv hK.1 hX (ci := 2) (q0 := 0) rfl rfl) rfl hl.1 rfl (Nat.le_of_ble_eq_true rfl) dL_add_13 ⟨(by show 0 + mM ≤ mM; omega), (by show 0 + sM ≤ sM; omega)⟩ (fun v H locs hB hS hsz hkp => ?_)
  obtain ⟨rfl, hB⟩ := hB
  have hO1 := hO.kept (hkp o hO.lt hoF)
  refine lv_i2l (v := r.toInt64) hx hb dL_add_16 rfl ?_
  refine nr_last0 S hK hO1 (Or.inr rfl) hS dL_add_17 (fun H9 locs hO2 hne hsz2 hS => ?_)
  refine lv_goto (tgt := 29) hx hb dL_add_18 (by decide) ?_
  refine lv_iconst (v := nI 0) hx hb dL_add_29 (by decide +kernel) ?_
  refine W.widen (k := mM) (n := sM) (by omega) (by omega) ?_
  exact hE _ _ _ _ _ dL_add_30 rfl rfl ⟨H, hB, hne, hsz2.symm, hkp, hO2⟩ hS
set_option maxHeartbeats 4000000 in
set_option maxRecDepth 100000 in
/-- its call throws -/
theorem ht_add1 (l : Launch) {D : va_G} {Y : Nat → ClassId} {H0 : Heap} {F : Nat → Prop} {t0 x o : Nat} {fsx : List Value} {a0 : Int32} {a1 : Int32} {a2 : Int32} {a3 : Int32} {a4 : Int32} {a5 : Bool} {dM : Nat} (hM : Th l yX2_add wsX2_add dM D Y (fun q => F q ∨ q = o) [.ref x, .int a0, .int a1, .int a2, .int a3, .int a4, .int (bI a5)] H0 xIA) (hX : va_P D aCl [(x, .inr (2, fsx))] H0) : UC l yL_add wsL_add (dM + 1) 1 6 D Y (eL t0 F (fun q => F q ∨ q = o)) [.ref x, .int a0, .int a1, .int a2, .int a3, .int a4, .int (bI a5), .ref o] H0 (fun q => F q ∨ q = o) (bI_ (nI 1) (fun H1 => H0.size ≤ H1.size ∧ ∀ q : Nat, q < H0.size → H1[q]? = H0[q]?)) := by
  refine UCw.start (cc := cL_add) (maxL := 9) (rt := .int) (hh := [(0, 18, 21, 13), (0, 18, 25, 15)]) (by decide) rfl (Nat.le_of_ble_eq_true rfl) ?_
  intro p e s m args below meth c ls Q S hK hH0 hE0 hl htab hE
  have S : CallFix p m c cL_add 9 s args wsL_add RL := S
  have hx := S.1
  have hb := S.2.1
  have hts := S.2.2.2.2
  have hl : lv_has ls 9 [(0, .ref x), (1, .int a0), (2, .int a1), (3, .int a2), (4, .int a3), (5, .int a4), (6, .int (bI a5)), (7, .ref o)] := hl
  have hS : va_S (fun q => F q ∨ q = o) H0 H0 [] := va_S.rf
  refine lv_aload hx hb dL_add_0 (lv_at hl 7 rfl) ?_
  refine lv_iconst (v := nI 0) hx hb dL_add_2 (by decide +kernel) ?_
  refine lv_aload_n hx hb dL_add_3 rfl (lv_at hl 0 rfl) ?_
  refine lv_iload_n hx hb dL_add_4 rfl (lv_at hl 1 rfl) ?_
  refine lv_iload_n hx hb dL_add_5 rfl (lv_at hl 2 rfl) ?_
  refine lv_iload_n hx hb dL_add_6 rfl (lv_at hl 3 rfl) ?_
  refine lv_iload hx hb dL_add_7 (lv_at hl 4 rfl) ?_
  refine lv_iload hx hb dL_add_9 (lv_at hl 5 rfl) ?_
  refine lv_iload hx hb dL_add_11 (lv_at hl 6 rfl) ?_
  refine Th.catchV (As := [.int a0, .int a1, .int a2, .int a3, .int a4, .int (bI a5)]) (name := xIA) S hM (cwV 6 hts gL_add_X2_add rfl rfl rfl (by decide +kernel) ⟨Nat.le_refl _, (by show 8 + (9 + 11) + 40 * dM ≤ 40 * (dM + 1); omega)⟩) hK (by rw [← hH0]; exact hE0.2.1) hS (va_recv hK.1 hX (ci := 2) (q0 := 0) rfl rfl) rfl hl.1 rfl (Nat.le_of_ble_eq_true rfl) dL_add_13 ⟨Nat.le_of_ble_eq_true rfl, Nat.le_of_ble_eq_true rfl⟩ [] ⟨0, 18, 21, 13⟩ [⟨0, 18, 25, 15⟩] (by rw [htab]; rfl) (fun z hz => absurd hz List.not_mem_nil) (by decide) (by decide) (hts _ (List.mem_of_getElem? (i := 1) rfl)) (va_Nw.use (xB_on _ (by decide +kernel)) (hE0.2.1.2.2.1 (.castable xIA xIA) (by decide +kernel))) (fun q9 H1 hz hk hS => ?_)
  refine lv_astore (lv' := [(8, .ref q9), (0, .ref x), (1, .int a0), (2, .int a1), (3, .int a2), (4, .int a3), (5, .int a4), (6, .int (bI a5)), (7, .ref o)]) hx hb dL_add_21 hl (by decide) rfl (fun ls hl => ?_)
  refine lv_iconst (v := nI 1) hx hb dL_add_23 (by decide +kernel) ?_
  exact hE _ _ _ _ _ dL_add_24 rfl rfl ⟨hz, hk⟩ hS
set_option maxHeartbeats 4000000 in
set_option maxRecDepth 100000 in
/-- its call throws -/
theorem ht_add2 (l : Launch) {D : va_G} {Y : Nat → ClassId} {H0 : Heap} {F : Nat → Prop} {t0 x o : Nat} {fsx : List Value} {a0 : Int32} {a1 : Int32} {a2 : Int32} {a3 : Int32} {a4 : Int32} {a5 : Bool} {dM : Nat} (hM : Th l yX2_add wsX2_add dM D Y (fun q => F q ∨ q = o) [.ref x, .int a0, .int a1, .int a2, .int a3, .int a4, .int (bI a5)] H0 xIS) (hX : va_P D aCl [(x, .inr (2, fsx))] H0) : UC l yL_add wsL_add (dM + 1) 1 6 D Y (eL t0 F (fun q => F q ∨ q = o)) [.ref x, .int a0, .int a1, .int a2, .int a3, .int a4, .int (bI a5), .ref o] H0 (fun q => F q ∨ q = o) (bI_ (nI 2) (fun H1 => H0.size ≤ H1.size ∧ ∀ q : Nat, q < H0.size → H1[q]? = H0[q]?)) := by
  refine UCw.start (cc := cL_add) (maxL := 9) (rt := .int) (hh := [(0, 18, 21, 13), (0, 18, 25, 15)]) (by decide) rfl (Nat.le_of_ble_eq_true rfl) ?_
  intro p e s m args below meth c ls Q S hK hH0 hE0 hl htab hE
  have S : CallFix p m c cL_add 9 s args wsL_add RL := S
  have hx := S.1
  have hb := S.2.1
  have hts := S.2.2.2.2
  have hl : lv_has ls 9 [(0, .ref x), (1, .int a0), (2, .int a1), (3, .int a2), (4, .int a3), (5, .int a4), (6, .int (bI a5)), (7, .ref o)] := hl
  have hS : va_S (fun q => F q ∨ q = o) H0 H0 [] := va_S.rf
  refine lv_aload hx hb dL_add_0 (lv_at hl 7 rfl) ?_
  refine lv_iconst (v := nI 0) hx hb dL_add_2 (by decide +kernel) ?_
  refine lv_aload_n hx hb dL_add_3 rfl (lv_at hl 0 rfl) ?_
  refine lv_iload_n hx hb dL_add_4 rfl (lv_at hl 1 rfl) ?_
  refine lv_iload_n hx hb dL_add_5 rfl (lv_at hl 2 rfl) ?_
  refine lv_iload_n hx hb dL_add_6 rfl (lv_at hl 3 rfl) ?_
  refine lv_iload hx hb dL_add_7 (lv_at hl 4 rfl) ?_
  refine lv_iload hx hb dL_add_9 (lv_at hl 5 rfl) ?_
  refine lv_iload hx hb dL_add_11 (lv_at hl 6 rfl) ?_
  refine Th.catchV (As := [.int a0, .int a1, .int a2, .int a3, .int a4, .int (bI a5)]) (name := xIS) S hM (cwV 6 hts gL_add_X2_add rfl rfl rfl (by decide +kernel) ⟨Nat.le_refl _, (by show 8 + (9 + 11) + 40 * dM ≤ 40 * (dM + 1); omega)⟩) hK (by rw [← hH0]; exact hE0.2.1) hS (va_recv hK.1 hX (ci := 2) (q0 := 0) rfl rfl) rfl hl.1 rfl (Nat.le_of_ble_eq_true rfl) dL_add_13 ⟨Nat.le_of_ble_eq_true rfl, Nat.le_of_ble_eq_true rfl⟩ [⟨0, 18, 21, 13⟩] ⟨0, 18, 25, 15⟩ [] (by rw [htab]; rfl) (fun z hz => by rcases List.mem_singleton.mp hz with rfl; exact Or.inr ⟨by decide, _, (hts _ (List.mem_of_getElem? (i := 1) rfl)), hE0.2.2.1⟩) (by decide) (by decide) (hts _ (List.mem_of_getElem? (i := 2) rfl)) (va_Nw.use (xB_on _ (by decide +kernel)) (hE0.2.1.2.2.1 (.castable xIS xIS) (by decide +kernel))) (fun q9 H1 hz hk hS => ?_)
  refine lv_astore (lv' := [(8, .ref q9), (0, .ref x), (1, .int a0), (2, .int a1), (3, .int a2), (4, .int a3), (5, .int a4), (6, .int (bI a5)), (7, .ref o)]) hx hb dL_add_25 hl (by decide) rfl (fun ls hl => ?_)
  refine lv_iconst (v := nI 2) hx hb dL_add_27 (by decide +kernel) ?_
  exact hE _ _ _ _ _ dL_add_28 rfl rfl ⟨hz, hk⟩ hS
