/-! ranges and rules that are made of others -/
set_option maxHeartbeats 4000000 in
set_option maxRecDepth 100000 in
theorem k_X0_joined (l : Launch) {D : va_G} {Y : Nat → ClassId} {H0 : Heap} {F : Nat → Prop} {ws : va_W} {i1 i2 a1 a2 f1 t1 f2 t2 : Nat} (hP : va_P D aCl (ws) H0) (hD : va_D F (ws)) (hFr : ∀ q, H0.size ≤ q → F q) (h1 : ws[i1]? = some (a1, rgE f1 t1)) (h2 : ws[i2]? = some (a2, rgE f2 t2)) (hbd : f1 ≤ 31 ∧ t1 ≤ 31 ∧ f2 ≤ 31 ∧ t2 ≤ 31) : UC l yX0_joined wsX0_joined 2 1 3 D Y (eT) [.ref (a1), .ref (a2)] H0 F (bA_ (fun a H => va_P D aCl (ws ++ [(a, rgE (min f1 f2) (max t1 t2))]) H ∧ va_D F (ws ++ [(a, rgE (min f1 f2) (max t1 t2))]))) := by
  refine UCa.start (cc := cX0_joined) (maxL := 2) (rt := (.object "Aclsmith$Range")) (by decide) rfl (Nat.le_of_ble_eq_true rfl) (by first | exact Or.inl ⟨_, rfl⟩ | exact Or.inr ⟨_, rfl⟩) ?_
  intro p e s m args below meth c ls H locs Q S hK hH0 hE0 hHH hS hl hin hE
  rw [← hHH] at hP
  have S : CallFix p m c cX0_joined 2 s args wsX0_joined RX0 := S
  have hx := S.1
  have hb := S.2.1
  have hts := S.2.2.2.2
  have hl : lv_has ls 2 [(0, .ref (a1)), (1, .ref (a2))] := hl
  refine nr_new (C := RX0) (T := TX0) (N := 3) (ci := 0) (fs := [.int (nI (0)), .int (nI (0)), .int (nI (0))]) S (fun _ h => List.mem_cons_of_mem _ (List.mem_append_right _ (h))) tyX0 tyX0_ok (List.mem_of_getElem? (i := 1) rfl) (List.mem_of_getElem? (i := 2) rfl) (List.mem_of_getElem? (i := 3) rfl) hK hP hD hS hFr rfl dfX0 (Nat.le_of_ble_eq_true rfl) (Nat.le_of_ble_eq_true rfl) dX0_joined_0 (fun q0 H hP hD hS => ?_)
  have hP : va_P D aCl (ws ++ [(q0, .inr (0, [.int (nI (0)), .int (nI (0)), .int (nI (0))]))]) H := hP
  have hD : va_D F (ws ++ [(q0, .inr (0, [.int (nI (0)), .int (nI (0)), .int (nI (0))]))]) := hD
  refine lv_dup hx hb dX0_joined_3 rfl ?_
  refine lv_aload_n hx hb dX0_joined_4 rfl (lv_at hl 0 rfl) ?_
  refine nr_get (C := RX0) (T := TX0) (N := 3) (ci := 0) S (fun _ h => List.mem_cons_of_mem _ (List.mem_append_right _ (h))) hK hP i1 (atA h1) rfl 0 (by decide) (List.mem_of_getElem? (i := 4) rfl) rfl dX0_joined_5 ?_
  refine lv_aload_n hx hb dX0_joined_8 rfl (lv_at hl 1 rfl) ?_
  refine nr_get (C := RX0) (T := TX0) (N := 3) (ci := 0) S (fun _ h => List.mem_cons_of_mem _ (List.mem_append_right _ (h))) hK hP i2 (atA h2) rfl 0 (by decide) (List.mem_of_getElem? (i := 4) rfl) rfl dX0_joined_9 ?_
  refine va_mmin hx hb (S.2.2.1.trans hl.1.symm) S.2.2.2.1 (hts _ (List.mem_of_getElem? (i := 5) rfl)) (hts _ (List.mem_of_getElem? (i := 6) rfl)) (hts _ (List.mem_of_getElem? (i := 7) rfl)) (hts _ (List.mem_of_getElem? (i := 8) rfl)) (Nat.le_of_ble_eq_true rfl) (Nat.le_of_ble_eq_true rfl) (Nat.le_of_ble_eq_true rfl) (Nat.le_of_ble_eq_true rfl) dX0_joined_12 ?_
  refine nr_top (y := (nI (min (f1) (f2)))) (mn_N (by omega) (by omega)) ?_
  refine lv_aload_n hx hb dX0_joined_15 rfl (lv_at hl 0 rfl) ?_
  refine nr_get (C := RX0) (T := TX0) (N := 3) (ci := 0) S (fun _ h => List.mem_cons_of_mem _ (List.mem_append_right _ (h))) hK hP i1 (atA h1) rfl 1 (by decide) (List.mem_of_getElem? (i := 9) rfl) rfl dX0_joined_16 ?_
  refine lv_aload_n hx hb dX0_joined_19 rfl (lv_at hl 1 rfl) ?_
  refine nr_get (C := RX0) (T := TX0) (N := 3) (ci := 0) S (fun _ h => List.mem_cons_of_mem _ (List.mem_append_right _ (h))) hK hP i2 (atA h2) rfl 1 (by decide) (List.mem_of_getElem? (i := 9) rfl) rfl dX0_joined_20 ?_
  refine va_mmax hx hb (S.2.2.1.trans hl.1.symm) S.2.2.2.1 (hts _ (List.mem_of_getElem? (i := 10) rfl)) (hts _ (List.mem_of_getElem? (i := 11) rfl)) (hts _ (List.mem_of_getElem? (i := 7) rfl)) (hts _ (List.mem_of_getElem? (i := 12) rfl)) (Nat.le_of_ble_eq_true rfl) (Nat.le_of_ble_eq_true rfl) (Nat.le_of_ble_eq_true rfl) (Nat.le_of_ble_eq_true rfl) dX0_joined_23 ?_
  refine nr_top (y := (nI (max (t1) (t2)))) (mx_N (by omega) (by omega)) ?_
  refine UC.callI (As := [.int (nI (min (f1) (f2))), .int (nI (max (t1) (t2)))]) S (k_X0_init l hP hD (atE _ _) (by omega)) (cwI 2 hts gX0_joined_X0_init rfl rfl rfl (hts _ (List.mem_of_getElem? (i := 3) rfl)) (hts _ (List.mem_of_getElem? (i := 13) rfl)) (hts _ (List.mem_of_getElem? (i := 14) rfl)) rfl (by decide +kernel) ⟨Nat.le_of_ble_eq_true rfl, Nat.le_of_ble_eq_true rfl⟩) hK eT_bl (fun _ _ _ => trivial) hS (fun _ h => h) rfl hl.1 rfl (Nat.le_of_ble_eq_true rfl) dX0_joined_26 ⟨Nat.le_of_ble_eq_true rfl, Nat.le_of_ble_eq_true rfl⟩ (fun v H locs hB hS hsz hkp => ?_)
  obtain ⟨rfl, hB⟩ := hB
  rw [setE] at hB
  have hP : va_P D aCl (ws ++ [(q0, .inr (0, [.int (nI (min f1 f2)), .int (nI (max t1 t2)), .int (mkI (min f1 f2) (max t1 t2))]))]) H := hB
  have hD : va_D F (ws ++ [(q0, .inr (0, [.int (nI (min f1 f2)), .int (nI (max t1 t2)), .int (mkI (min f1 f2) (max t1 t2))]))]) := by have h9 := hD.set (e := rgE (min f1 f2) (max t1 t2)) (atE _ _); rw [setE] at h9; exact h9
  refine W.widen (k := 1) (n := 3) (by omega) (by omega) ?_
  exact hE _ _ _ _ _ dX0_joined_29 (⟨hP, hD⟩) hS
set_option maxHeartbeats 4000000 in
set_option maxRecDepth 100000 in
theorem k_X1_absorb (l : Launch) {D : va_G} {Y : Nat → ClassId} {H0 : Heap} {F : Nat → Prop} {ws : va_W} {i0 i1 i2 j0 j1 j2 : Nat} {r r2 : RV} {ad ad2 : Nat × Nat × Nat} (hP : va_P D aCl (ws) H0) (hD : va_D F (ws)) (hFr : ∀ q, H0.size ≤ q → F q) (h0 : ws[i0]? = some (ad.1, .inr (1, [.int (bI (pM r)), .ref ad.2.1, .ref ad.2.2, .int (nI (pR r)), .int (hT r)]))) (h1 : ws[i1]? = some (ad.2.1, rgE (sF r) (sT r))) (h2 : ws[i2]? = some (ad.2.2, rgE (dF r) (dT r))) (g0 : ws[j0]? = some (ad2.1, .inr (1, [.int (bI (pM r2)), .ref ad2.2.1, .ref ad2.2.2, .int (nI (pR r2)), .int (hT r2)]))) (g1 : ws[j1]? = some (ad2.2.1, rgE (sF r2) (sT r2))) (g2 : ws[j2]? = some (ad2.2.2, rgE (dF r2) (dT r2))) (hn : i1 ≠ i0 ∧ i2 ≠ i0 ∧ j0 ≠ i0 ∧ j1 ≠ i0 ∧ j2 ≠ i0) (ho : rvOk r) (ho2 : rvOk r2) : UC l yX1_absorb wsX1_absorb 3 2 6 D Y (eT) [.ref (ad.1), .ref (ad2.1)] H0 F (bV_ (fun H => ∃ a1 a2, va_P D aCl (ws.set i0 (ad.1, .inr (1, [.int (bI (pM r)), .ref a1, .ref a2, .int (nI (pR r ||| pR r2)), .int (hT r + hT r2)])) ++ [(a1, rgE (min (sF r) (sF r2)) (max (sT r) (sT r2)))] ++ [(a2, rgE (min (dF r) (dF r2)) (max (dT r) (dT r2)))]) H ∧ va_D F (ws.set i0 (ad.1, .inr (1, [.int (bI (pM r)), .ref a1, .ref a2, .int (nI (pR r ||| pR r2)), .int (hT r + hT r2)])) ++ [(a1, rgE (min (sF r) (sF r2)) (max (sT r) (sT r2)))] ++ [(a2, rgE (min (dF r) (dF r2)) (max (dT r) (dT r2)))]))) := by
  refine UCv.start (cc := cX1_absorb) (maxL := 2) (by decide) rfl (Nat.le_of_ble_eq_true rfl) ?_
  intro p e s m args below meth c ls H locs Q S hK hH0 hE0 hHH hS hl hin hE
  rw [← hHH] at hP
  have S : CallFix p m c cX1_absorb 2 s args wsX1_absorb RX1 := S
  have hx := S.1
  have hb := S.2.1
  have hts := S.2.2.2.2
  have hl : lv_has ls 2 [(0, .ref (ad.1)), (1, .ref (ad2.1))] := hl
  have hP : va_P D aCl (ws.set i0 (ad.1, .inr (1, [.int (bI (pM r)), .ref (ad.2.1), .ref (ad.2.2), .int (nI (pR r)), .int (hT r)]))) H := by rw [setSelf h0]; exact hP
  have hD : va_D F (ws.set i0 (ad.1, .inr (1, [.int (bI (pM r)), .ref (ad.2.1), .ref (ad.2.2), .int (nI (pR r)), .int (hT r)]))) := by rw [setSelf h0]; exact hD
  have hv := ho
  unfold rvOk at hv
  have hv2 := ho2
  unfold rvOk at hv2
  refine lv_aload_n hx hb dX1_absorb_0 rfl (lv_at hl 0 rfl) ?_
  refine lv_aload_n hx hb dX1_absorb_1 rfl (lv_at hl 0 rfl) ?_
  refine nr_get (C := RX1) (T := TX1) (N := 5) (ci := 1) S (fun _ h => List.mem_cons_of_mem _ (List.mem_append_left _ (List.mem_append_right _ (h)))) hK hP i0 (atSS h0) rfl 1 (by decide) (List.mem_of_getElem? (i := 1) rfl) rfl dX1_absorb_2 ?_
  refine lv_aload_n hx hb dX1_absorb_5 rfl (lv_at hl 1 rfl) ?_
  refine nr_get (C := RX1) (T := TX1) (N := 5) (ci := 1) S (fun _ h => List.mem_cons_of_mem _ (List.mem_append_left _ (List.mem_append_right _ (h)))) hK hP j0 (atS g0 hn.2.2.1) rfl 1 (by decide) (List.mem_of_getElem? (i := 1) rfl) rfl dX1_absorb_6 ?_
  refine UC.callV (As := [.ref (ad2.2.1)]) S (k_X0_joined l hP hD (fun q hq => hFr q (Nat.le_trans hS.1 hq)) (atS h1 hn.1) (atS g1 hn.2.2.2.1) (by omega)) (cwV 1 hts gX1_absorb_X0_joined rfl rfl rfl (by decide +kernel) ⟨Nat.le_of_ble_eq_true rfl, Nat.le_of_ble_eq_true rfl⟩) hK eT_bl (fun _ _ _ => trivial) hS (fun _ h => h) (va_recv hK.1 hP (ci := 0) (q0 := i1) rfl (atS h1 hn.1)) rfl hl.1 rfl (Nat.le_of_ble_eq_true rfl) dX1_absorb_9 ⟨Nat.le_of_ble_eq_true rfl, Nat.le_of_ble_eq_true rfl⟩ (fun v H locs hB hS hsz hkp => ?_)
  obtain ⟨b1, rfl, hB⟩ := hB
  obtain ⟨hP, hD⟩ := hB
  have hP : va_P D aCl (ws.set i0 (ad.1, .inr (1, [.int (bI (pM r)), .ref (ad.2.1), .ref (ad.2.2), .int (nI (pR r)), .int (hT r)])) ++ [(b1, .inr (0, [.int (nI (min (sF r) (sF r2))), .int (nI (max (sT r) (sT r2))), .int (mkI (min (sF r) (sF r2)) (max (sT r) (sT r2)))]))]) H := hP
  have hD : va_D F (ws.set i0 (ad.1, .inr (1, [.int (bI (pM r)), .ref (ad.2.1), .ref (ad.2.2), .int (nI (pR r)), .int (hT r)])) ++ [(b1, .inr (0, [.int (nI (min (sF r) (sF r2))), .int (nI (max (sT r) (sT r2))), .int (mkI (min (sF r) (sF r2)) (max (sT r) (sT r2)))]))]) := hD
  refine nr_put (C := RX1) (T := TX1) (N := 5) (ci := 1) (v := .ref (b1)) S (fun _ h => List.mem_cons_of_mem _ (List.mem_append_left _ (List.mem_append_right _ (h)))) tyX1 tyX1_ok nmX1 hK hP hD hS i0 (atA (atSS h0)) rfl 1 (by decide) (List.mem_of_getElem? (i := 1) rfl) rfl rfl rfl (Nat.le_of_ble_eq_true rfl) dX1_absorb_12 (fun H locs hP hD hS => ?_)
  first | rw [set2 h0] at hP | rw [set1 h0] at hP | rw [List.set_set] at hP
  first | rw [set2 h0] at hD | rw [set1 h0] at hD | rw [List.set_set] at hD
  have hP : va_P D aCl (ws.set i0 (ad.1, .inr (1, [.int (bI (pM r)), .ref (b1), .ref (ad.2.2), .int (nI (pR r)), .int (hT r)])) ++ [(b1, .inr (0, [.int (nI (min (sF r) (sF r2))), .int (nI (max (sT r) (sT r2))), .int (mkI (min (sF r) (sF r2)) (max (sT r) (sT r2)))]))]) H := hP
  have hD : va_D F (ws.set i0 (ad.1, .inr (1, [.int (bI (pM r)), .ref (b1), .ref (ad.2.2), .int (nI (pR r)), .int (hT r)])) ++ [(b1, .inr (0, [.int (nI (min (sF r) (sF r2))), .int (nI (max (sT r) (sT r2))), .int (mkI (min (sF r) (sF r2)) (max (sT r) (sT r2)))]))]) := hD
  refine lv_aload_n hx hb dX1_absorb_15 rfl (lv_at hl 0 rfl) ?_
  refine lv_aload_n hx hb dX1_absorb_16 rfl (lv_at hl 0 rfl) ?_
  refine nr_get (C := RX1) (T := TX1) (N := 5) (ci := 1) S (fun _ h => List.mem_cons_of_mem _ (List.mem_append_left _ (List.mem_append_right _ (h)))) hK hP i0 (atA (atSS h0)) rfl 2 (by decide) (List.mem_of_getElem? (i := 2) rfl) rfl dX1_absorb_17 ?_
  refine lv_aload_n hx hb dX1_absorb_20 rfl (lv_at hl 1 rfl) ?_
  refine nr_get (C := RX1) (T := TX1) (N := 5) (ci := 1) S (fun _ h => List.mem_cons_of_mem _ (List.mem_append_left _ (List.mem_append_right _ (h)))) hK hP j0 (atA (atS g0 hn.2.2.1)) rfl 2 (by decide) (List.mem_of_getElem? (i := 2) rfl) rfl dX1_absorb_21 ?_
  refine UC.callV (As := [.ref (ad2.2.2)]) S (k_X0_joined l hP hD (fun q hq => hFr q (Nat.le_trans hS.1 hq)) (atA (atS h2 hn.2.1)) (atA (atS g2 hn.2.2.2.2)) (by omega)) (cwV 1 hts gX1_absorb_X0_joined rfl rfl rfl (by decide +kernel) ⟨Nat.le_of_ble_eq_true rfl, Nat.le_of_ble_eq_true rfl⟩) hK eT_bl (fun _ _ _ => trivial) hS (fun _ h => h) (va_recv hK.1 hP (ci := 0) (q0 := i2) rfl (atA (atS h2 hn.2.1))) rfl hl.1 rfl (Nat.le_of_ble_eq_true rfl) dX1_absorb_24 ⟨Nat.le_of_ble_eq_true rfl, Nat.le_of_ble_eq_true rfl⟩ (fun v H locs hB hS hsz hkp => ?_)
  obtain ⟨b2, rfl, hB⟩ := hB
  obtain ⟨hP, hD⟩ := hB
  have hP : va_P D aCl (ws.set i0 (ad.1, .inr (1, [.int (bI (pM r)), .ref (b1), .ref (ad.2.2), .int (nI (pR r)), .int (hT r)])) ++ [(b1, .inr (0, [.int (nI (min (sF r) (sF r2))), .int (nI (max (sT r) (sT r2))), .int (mkI (min (sF r) (sF r2)) (max (sT r) (sT r2)))]))] ++ [(b2, .inr (0, [.int (nI (min (dF r) (dF r2))), .int (nI (max (dT r) (dT r2))), .int (mkI (min (dF r) (dF r2)) (max (dT r) (dT r2)))]))]) H := hP
  have hD : va_D F (ws.set i0 (ad.1, .inr (1, [.int (bI (pM r)), .ref (b1), .ref (ad.2.2), .int (nI (pR r)), .int (hT r)])) ++ [(b1, .inr (0, [.int (nI (min (sF r) (sF r2))), .int (nI (max (sT r) (sT r2))), .int (mkI (min (sF r) (sF r2)) (max (sT r) (sT r2)))]))] ++ [(b2, .inr (0, [.int (nI (min (dF r) (dF r2))), .int (nI (max (dT r) (dT r2))), .int (mkI (min (dF r) (dF r2)) (max (dT r) (dT r2)))]))]) := hD
  refine nr_put (C := RX1) (T := TX1) (N := 5) (ci := 1) (v := .ref (b2)) S (fun _ h => List.mem_cons_of_mem _ (List.mem_append_left _ (List.mem_append_right _ (h)))) tyX1 tyX1_ok nmX1 hK hP hD hS i0 (atA (atA (atSS h0))) rfl 2 (by decide) (List.mem_of_getElem? (i := 2) rfl) rfl rfl rfl (Nat.le_of_ble_eq_true rfl) dX1_absorb_27 (fun H locs hP hD hS => ?_)
  first | rw [set2 h0] at hP | rw [set1 h0] at hP | rw [List.set_set] at hP
  first | rw [set2 h0] at hD | rw [set1 h0] at hD | rw [List.set_set] at hD
  have hP : va_P D aCl (ws.set i0 (ad.1, .inr (1, [.int (bI (pM r)), .ref (b1), .ref (b2), .int (nI (pR r)), .int (hT r)])) ++ [(b1, .inr (0, [.int (nI (min (sF r) (sF r2))), .int (nI (max (sT r) (sT r2))), .int (mkI (min (sF r) (sF r2)) (max (sT r) (sT r2)))]))] ++ [(b2, .inr (0, [.int (nI (min (dF r) (dF r2))), .int (nI (max (dT r) (dT r2))), .int (mkI (min (dF r) (dF r2)) (max (dT r) (dT r2)))]))]) H := hP
  have hD : va_D F (ws.set i0 (ad.1, .inr (1, [.int (bI (pM r)), .ref (b1), .ref (b2), .int (nI (pR r)), .int (hT r)])) ++ [(b1, .inr (0, [.int (nI (min (sF r) (sF r2))), .int (nI (max (sT r) (sT r2))), .int (mkI (min (sF r) (sF r2)) (max (sT r) (sT r2)))]))] ++ [(b2, .inr (0, [.int (nI (min (dF r) (dF r2))), .int (nI (max (dT r) (dT r2))), .int (mkI (min (dF r) (dF r2)) (max (dT r) (dT r2)))]))]) := hD
  refine lv_aload_n hx hb dX1_absorb_30 rfl (lv_at hl 0 rfl) ?_
  refine lv_dup hx hb dX1_absorb_31 rfl ?_
  refine nr_get (C := RX1) (T := TX1) (N := 5) (ci := 1) S (fun _ h => List.mem_cons_of_mem _ (List.mem_append_left _ (List.mem_append_right _ (h)))) hK hP i0 (atA (atA (atSS h0))) rfl 3 (by decide) (List.mem_of_getElem? (i := 3) rfl) rfl dX1_absorb_32 ?_
  refine lv_aload_n hx hb dX1_absorb_35 rfl (lv_at hl 1 rfl) ?_
  refine nr_get (C := RX1) (T := TX1) (N := 5) (ci := 1) S (fun _ h => List.mem_cons_of_mem _ (List.mem_append_left _ (List.mem_append_right _ (h)))) hK hP j0 (atA (atA (atS g0 hn.2.2.1))) rfl 3 (by decide) (List.mem_of_getElem? (i := 3) rfl) rfl dX1_absorb_36 ?_
  refine lv_ior hx hb dX1_absorb_39 ?_
  refine nr_top (y := (nI (pR r ||| pR r2))) (nx_or _ _) ?_
  refine nr_put (C := RX1) (T := TX1) (N := 5) (ci := 1) (v := .int (nI (pR r ||| pR r2))) S (fun _ h => List.mem_cons_of_mem _ (List.mem_append_left _ (List.mem_append_right _ (h)))) tyX1 tyX1_ok nmX1 hK hP hD hS i0 (atA (atA (atSS h0))) rfl 3 (by decide) (List.mem_of_getElem? (i := 3) rfl) rfl rfl rfl (Nat.le_of_ble_eq_true rfl) dX1_absorb_40 (fun H locs hP hD hS => ?_)
  first | rw [set2 h0] at hP | rw [set1 h0] at hP | rw [List.set_set] at hP
  first | rw [set2 h0] at hD | rw [set1 h0] at hD | rw [List.set_set] at hD
  have hP : va_P D aCl (ws.set i0 (ad.1, .inr (1, [.int (bI (pM r)), .ref (b1), .ref (b2), .int (nI (pR r ||| pR r2)), .int (hT r)])) ++ [(b1, .inr (0, [.int (nI (min (sF r) (sF r2))), .int (nI (max (sT r) (sT r2))), .int (mkI (min (sF r) (sF r2)) (max (sT r) (sT r2)))]))] ++ [(b2, .inr (0, [.int (nI (min (dF r) (dF r2))), .int (nI (max (dT r) (dT r2))), .int (mkI (min (dF r) (dF r2)) (max (dT r) (dT r2)))]))]) H := hP
  have hD : va_D F (ws.set i0 (ad.1, .inr (1, [.int (bI (pM r)), .ref (b1), .ref (b2), .int (nI (pR r ||| pR r2)), .int (hT r)])) ++ [(b1, .inr (0, [.int (nI (min (sF r) (sF r2))), .int (nI (max (sT r) (sT r2))), .int (mkI (min (sF r) (sF r2)) (max (sT r) (sT r2)))]))] ++ [(b2, .inr (0, [.int (nI (min (dF r) (dF r2))), .int (nI (max (dT r) (dT r2))), .int (mkI (min (dF r) (dF r2)) (max (dT r) (dT r2)))]))]) := hD
  refine lv_aload_n hx hb dX1_absorb_43 rfl (lv_at hl 0 rfl) ?_
  refine lv_dup hx hb dX1_absorb_44 rfl ?_
  refine nr_get (C := RX1) (T := TX1) (N := 5) (ci := 1) S (fun _ h => List.mem_cons_of_mem _ (List.mem_append_left _ (List.mem_append_right _ (h)))) hK hP i0 (atA (atA (atSS h0))) rfl 4 (by decide) (List.mem_of_getElem? (i := 4) rfl) rfl dX1_absorb_45 ?_
  refine lv_aload_n hx hb dX1_absorb_48 rfl (lv_at hl 1 rfl) ?_
  refine nr_get (C := RX1) (T := TX1) (N := 5) (ci := 1) S (fun _ h => List.mem_cons_of_mem _ (List.mem_append_left _ (List.mem_append_right _ (h)))) hK hP j0 (atA (atA (atS g0 hn.2.2.1))) rfl 4 (by decide) (List.mem_of_getElem? (i := 4) rfl) rfl dX1_absorb_49 ?_
  refine lv_iadd hx hb dX1_absorb_52 ?_
  refine nr_put (C := RX1) (T := TX1) (N := 5) (ci := 1) (v := .int (((hT r) + (hT r2)))) S (fun _ h => List.mem_cons_of_mem _ (List.mem_append_left _ (List.mem_append_right _ (h)))) tyX1 tyX1_ok nmX1 hK hP hD hS i0 (atA (atA (atSS h0))) rfl 4 (by decide) (List.mem_of_getElem? (i := 4) rfl) rfl rfl rfl (Nat.le_of_ble_eq_true rfl) dX1_absorb_53 (fun H locs hP hD hS => ?_)
  first | rw [set2 h0] at hP | rw [set1 h0] at hP | rw [List.set_set] at hP
  first | rw [set2 h0] at hD | rw [set1 h0] at hD | rw [List.set_set] at hD
  have hP : va_P D aCl (ws.set i0 (ad.1, .inr (1, [.int (bI (pM r)), .ref (b1), .ref (b2), .int (nI (pR r ||| pR r2)), .int (((hT r) + (hT r2)))])) ++ [(b1, .inr (0, [.int (nI (min (sF r) (sF r2))), .int (nI (max (sT r) (sT r2))), .int (mkI (min (sF r) (sF r2)) (max (sT r) (sT r2)))]))] ++ [(b2, .inr (0, [.int (nI (min (dF r) (dF r2))), .int (nI (max (dT r) (dT r2))), .int (mkI (min (dF r) (dF r2)) (max (dT r) (dT r2)))]))]) H := hP
  have hD : va_D F (ws.set i0 (ad.1, .inr (1, [.int (bI (pM r)), .ref (b1), .ref (b2), .int (nI (pR r ||| pR r2)), .int (((hT r) + (hT r2)))])) ++ [(b1, .inr (0, [.int (nI (min (sF r) (sF r2))), .int (nI (max (sT r) (sT r2))), .int (mkI (min (sF r) (sF r2)) (max (sT r) (sT r2)))]))] ++ [(b2, .inr (0, [.int (nI (min (dF r) (dF r2))), .int (nI (max (dT r) (dT r2))), .int (mkI (min (dF r) (dF r2)) (max (dT r) (dT r2)))]))]) := hD
  refine W.widen (k := 2) (n := 6) (by omega) (by omega) ?_
  exact hE _ _ _ _ dX1_absorb_56 (⟨b1, b2, hP, hD⟩) hS
