/-! ArrayList: growing, adding at the end -/
set_option maxHeartbeats 4000000 in
set_option maxRecDepth 100000 in
theorem k_Jx4a65c_grow_92f84 (l : Launch) {D : va_G} {Y : Nat → ClassId} {H0 : Heap} {F : Nat → Prop} {la ea n : Nat} {mod : Int32} {es : Nat → Option Nat} {w1 w2 : Nat × va_E} {tl : va_W} (hP : va_P D aCl ([(la, .inr (4, [.int (mod), .ref (ea), .int (nI (n))])), w1, w2, (ea, .inl (Y 1, n, .inr (.inr (.inr (.inr es)))))] ++ tl) H0) (hD : va_D F ([(la, .inr (4, [.int (mod), .ref (ea), .int (nI (n))])), w1, w2, (ea, .inl (Y 1, n, .inr (.inr (.inr (.inr es)))))] ++ tl)) (hFr : ∀ q, H0.size ≤ q → F q) (hes : ∀ j, j < n → ∃ (y k : Nat) (fs : List Value), es j = some y ∧ tl[k]? = some (y, .inr (1, fs))) (hn : 1 ≤ n ∧ n ≤ 30) : UC l yJx4a65c_grow_92f84 wsJx4a65c_grow_92f84 3 1 64 D Y (eT) [.ref (la), .int (nI (n + 1))] H0 F (bA_ (fun a H => ∃ es2 : Nat → Option Nat, (∀ j, j < n → es2 j = es j) ∧ va_P D aCl ([(la, .inr (4, [.int (mod), .ref a, .int (nI (n))])), w1, w2, (a, .inl (Y 1, n + max (n + 1 - n) (n / 2 ^ 1), .inr (.inr (.inr (.inr es2)))))] ++ tl) H ∧ va_D F ([(la, .inr (4, [.int (mod), .ref a, .int (nI (n))])), w1, w2, (a, .inl (Y 1, n + max (n + 1 - n) (n / 2 ^ 1), .inr (.inr (.inr (.inr es2)))))] ++ tl))) := by
  refine UCa.start (cc := cJx4a65c_grow_92f84) (maxL := 4) (rt := (.array (.object "java/lang/Object"))) (by decide) rfl (Nat.le_of_ble_eq_true rfl) (by first | exact Or.inl ⟨_, rfl⟩ | exact Or.inr ⟨_, rfl⟩) ?_
  intro p e s m args below meth c ls H locs Q S hK hH0 hE0 hHH hS hl hin hE
  rw [← hHH] at hP
  have S : CallFix p m c cJx4a65c_grow_92f84 4 s args wsJx4a65c_grow_92f84 RJx4a65c := S
  have hx := S.1
  have hb := S.2.1
  have hts := S.2.2.2.2
  have hl : lv_has ls 4 [(0, .ref (la)), (1, .int (nI (n + 1)))] := hl
  refine lv_aload_n hx hb dJx4a65c_grow_92f84_0 rfl (lv_at hl 0 rfl) ?_
  refine nr_get (C := RJx4a65c) (T := TJx4a65c) (N := 3) (ci := 4) S (fun _ h => List.mem_cons_of_mem _ (List.mem_append_right _ (h))) hK hP 0 rfl rfl 1 (by decide) (List.mem_of_getElem? (i := 1) rfl) rfl dJx4a65c_grow_92f84_1 ?_
  refine va_alen (v := (nI (n))) (ty := .object _) hx hb hK.1 hP 3 1 rfl rfl rfl dJx4a65c_grow_92f84_4 ?_
  refine lv_istore_n (lv' := [(2, .int (nI (n))), (0, .ref (la)), (1, .int (nI (n + 1)))]) hx hb dJx4a65c_grow_92f84_5 rfl hl (by decide) rfl (fun ls hl => ?_)
  refine lv_iload_n hx hb dJx4a65c_grow_92f84_6 rfl (lv_at hl 0 rfl) ?_
  refine lv_if_gt (tgt := 20) hx hb dJx4a65c_grow_92f84_7 (by decide) (fun c_7 => ?_) (fun c_7 => absurd c_7 (fun q => q ((nI_ltI (a := 0) (by decide) (by omega)).mpr hn.1)))
  refine lv_iload_n hx hb dJx4a65c_grow_92f84_20 rfl (lv_at hl 0 rfl) ?_
  refine lv_iload_n hx hb dJx4a65c_grow_92f84_21 rfl (lv_at hl 2 rfl) ?_
  refine lv_iload_n hx hb dJx4a65c_grow_92f84_22 rfl (lv_at hl 0 rfl) ?_
  refine nr_isub hx hb (by omega) dJx4a65c_grow_92f84_23 ?_
  refine lv_iload_n hx hb dJx4a65c_grow_92f84_24 rfl (lv_at hl 0 rfl) ?_
  refine lv_iconst (v := (nI (1))) hx hb dJx4a65c_grow_92f84_25 (by decide +kernel) ?_
  refine lv_ishr hx hb dJx4a65c_grow_92f84_26 ?_
  refine nr_top (y := (nI (n / 2 ^ 1))) (pk_shrN (by omega) _ 1 (by decide)) ?_
  refine Rd.callS (r := (nI (n + max (n + 1 - n) (n / 2 ^ 1)))) (As := [.int (nI (n)), .int (nI ((n + 1) - n)), .int (nI (n / 2 ^ 1))]) S (k_J8_newLength_cabcc l (a := n) (b := n + 1 - n) (c0 := n / 2 ^ 1) (by omega)) (va_cwS 3 hts gJx4a65c_grow_92f84_J8_newLength_cabcc rfl rfl rfl (by decide +kernel) ⟨Nat.le_of_ble_eq_true rfl, Nat.le_of_ble_eq_true rfl⟩) hK rfl hl.1 rfl (Nat.le_of_ble_eq_true rfl) dJx4a65c_grow_92f84_27 ⟨(by show _ ≤ 1; omega), (by show _ ≤ 64; omega)⟩ ?_
  refine lv_istore_n (lv' := [(3, .int (nI (n + max (n + 1 - n) (n / 2 ^ 1)))), (2, .int (nI (n))), (0, .ref (la)), (1, .int (nI (n + 1)))]) hx hb dJx4a65c_grow_92f84_30 rfl hl (by decide) rfl (fun ls hl => ?_)
  refine lv_aload_n hx hb dJx4a65c_grow_92f84_31 rfl (lv_at hl 2 rfl) ?_
  refine lv_aload_n hx hb dJx4a65c_grow_92f84_32 rfl (lv_at hl 2 rfl) ?_
  refine nr_get (C := RJx4a65c) (T := TJx4a65c) (N := 3) (ci := 4) S (fun _ h => List.mem_cons_of_mem _ (List.mem_append_right _ (h))) hK hP 0 rfl rfl 1 (by decide) (List.mem_of_getElem? (i := 1) rfl) rfl dJx4a65c_grow_92f84_33 ?_
  refine lv_iload_n hx hb dJx4a65c_grow_92f84_36 rfl (lv_at hl 0 rfl) ?_
  refine UC.callS (As := [.ref (ea), .int (nI (n + max (n + 1 - n) (n / 2 ^ 1)))]) S (k_J7_copyOf_1904c l hP hD (fun q hq => hFr q (Nat.le_trans hS.1 hq)) (i1 := 3) (n := n) (es := es) rfl (fun j hj => by obtain ⟨y, k, fs, e1, e2⟩ := hes j hj; exact ⟨y, k + 4, fs, e1, e2⟩) (by omega)) (va_cwS 2 hts gJx4a65c_grow_92f84_J7_copyOf_1904c rfl rfl rfl (by decide +kernel) ⟨Nat.le_of_ble_eq_true rfl, Nat.le_of_ble_eq_true rfl⟩) hK eT_bl (fun _ _ _ => trivial) hS (fun _ h => h) rfl hl.1 rfl (Nat.le_of_ble_eq_true rfl) dJx4a65c_grow_92f84_37 ⟨(by show _ ≤ 1; omega), (by show _ ≤ 64; omega)⟩ (fun v H locs hB hS hsz hkp => ?_)
  obtain ⟨a9, rfl, hB⟩ := hB
  obtain ⟨es2, he2, hP, hD⟩ := hB
  have hP : va_P D aCl ([(la, .inr (4, [.int (mod), .ref (ea), .int (nI (n))])), w1, w2, (a9, .inl (Y 1, n + max (n + 1 - n) (n / 2 ^ 1), .inr (.inr (.inr (.inr es2)))))] ++ tl) H := swP1 (p1 := 3) (by rw [List.length_append]; show 3 < 4 + _; omega) hP
  have hD : va_D F ([(la, .inr (4, [.int (mod), .ref (ea), .int (nI (n))])), w1, w2, (a9, .inl (Y 1, n + max (n + 1 - n) (n / 2 ^ 1), .inr (.inr (.inr (.inr es2)))))] ++ tl) := swD1 (p1 := 3) (by rw [List.length_append]; show 3 < 4 + _; omega) hD
  refine lv_dup_x1 hx hb dJx4a65c_grow_92f84_40 rfl rfl ?_
  refine nr_put (C := RJx4a65c) (T := TJx4a65c) (N := 3) (ci := 4) (v := .ref (a9)) S (fun _ h => List.mem_cons_of_mem _ (List.mem_append_right _ (h))) tyJx4a65c tyJx4a65c_ok nmJx4a65c hK hP hD hS 0 rfl rfl 1 (by decide) (List.mem_of_getElem? (i := 1) rfl) rfl rfl rfl (Nat.le_of_ble_eq_true rfl) dJx4a65c_grow_92f84_41 (fun H locs hP hD hS => ?_)
  have hP : va_P D aCl ([(la, .inr (4, [.int (mod), .ref (a9), .int (nI (n))])), w1, w2, (a9, .inl (Y 1, n + max (n + 1 - n) (n / 2 ^ 1), .inr (.inr (.inr (.inr es2)))))] ++ tl) H := hP
  have hD : va_D F ([(la, .inr (4, [.int (mod), .ref (a9), .int (nI (n))])), w1, w2, (a9, .inl (Y 1, n + max (n + 1 - n) (n / 2 ^ 1), .inr (.inr (.inr (.inr es2)))))] ++ tl) := hD
  refine W.widen (k := 1) (n := 64) (by omega) (by omega) ?_
  exact hE _ _ _ _ _ dJx4a65c_grow_92f84_44 (⟨es2, he2, hP, hD⟩) hS
set_option maxHeartbeats 4000000 in
set_option maxRecDepth 100000 in
theorem k_Jx4a65c_grow_92f84_z (l : Launch) {D : va_G} {Y : Nat → ClassId} {H0 : Heap} {F : Nat → Prop} {la t0 : Nat} {mod : Int32} {w1 w2 : Nat × va_E} {tl : va_W} (hP : va_P D aCl ([(la, .inr (4, [.int (mod), .ref (t0), .int (nI (0))])), w1, w2] ++ tl) H0) (hD : va_D F ([(la, .inr (4, [.int (mod), .ref (t0), .int (nI (0))])), w1, w2] ++ tl)) (hFr : ∀ q, H0.size ≤ q → F q) : UC l yJx4a65c_grow_92f84 wsJx4a65c_grow_92f84 3 1 64 D Y (eZ t0 F) [.ref (la), .int (nI (1))] H0 F (bA_ (fun a H => va_P D aCl ([(la, .inr (4, [.int (mod), .ref a, .int (nI (0))])), w1, w2, (a, .inl (Y 1, 10, .inr (.inr (.inr (.inr (fun _ => none))))))] ++ tl) H ∧ va_D F ([(la, .inr (4, [.int (mod), .ref a, .int (nI (0))])), w1, w2, (a, .inl (Y 1, 10, .inr (.inr (.inr (.inr (fun _ => none))))))] ++ tl))) := by
  refine UCa.start (cc := cJx4a65c_grow_92f84) (maxL := 4) (rt := (.array (.object "java/lang/Object"))) (by decide) rfl (Nat.le_of_ble_eq_true rfl) (by first | exact Or.inl ⟨_, rfl⟩ | exact Or.inr ⟨_, rfl⟩) ?_
  intro p e s m args below meth c ls H locs Q S hK hH0 hE0 hHH hS hl hin hE
  rw [← hHH] at hP
  have S : CallFix p m c cJx4a65c_grow_92f84 4 s args wsJx4a65c_grow_92f84 RJx4a65c := S
  have hx := S.1
  have hb := S.2.1
  have hts := S.2.2.2.2
  have hl : lv_has ls 4 [(0, .ref (la)), (1, .int (nI (1)))] := hl
  subst hH0
  refine lv_aload_n hx hb dJx4a65c_grow_92f84_0 rfl (lv_at hl 0 rfl) ?_
  refine nr_get (C := RJx4a65c) (T := TJx4a65c) (N := 3) (ci := 4) S (fun _ h => List.mem_cons_of_mem _ (List.mem_append_right _ (h))) hK hP 0 rfl rfl 1 (by decide) (List.mem_of_getElem? (i := 1) rfl) rfl dJx4a65c_grow_92f84_1 ?_
  refine nr_alen0 S hE0 hS dJx4a65c_grow_92f84_4 ?_
  refine lv_istore_n (lv' := [(2, .int (nI (0))), (0, .ref (la)), (1, .int (nI (1)))]) hx hb dJx4a65c_grow_92f84_5 rfl hl (by decide) rfl (fun ls hl => ?_)
  refine lv_iload_n hx hb dJx4a65c_grow_92f84_6 rfl (lv_at hl 0 rfl) ?_
  refine lv_if_gt (tgt := 20) hx hb dJx4a65c_grow_92f84_7 (by decide) (fun c_7 => absurd c_7 (by decide)) (fun c_7 => ?_)
  refine lv_aload_n hx hb dJx4a65c_grow_92f84_10 rfl (lv_at hl 1 rfl) ?_
  refine nr_get (C := RJx4a65c) (T := TJx4a65c) (N := 3) (ci := 4) S (fun _ h => List.mem_cons_of_mem _ (List.mem_append_right _ (h))) hK hP 0 rfl rfl 1 (by decide) (List.mem_of_getElem? (i := 1) rfl) rfl dJx4a65c_grow_92f84_11 ?_
  refine nr_gets0 S (List.mem_of_getElem? (i := 2) rfl) hE0 hS dJx4a65c_grow_92f84_14 ?_
  refine lv_acmp_eq (rx := some t0) (ry := some t0) (tgt := 45) hx hb dJx4a65c_grow_92f84_17 (by decide) (fun _ => ?_) (fun h9 => absurd rfl h9)
  refine lv_aload_n hx hb dJx4a65c_grow_92f84_45 rfl (lv_at hl 1 rfl) ?_
  refine lv_bipush (v := (nI (10))) hx hb dJx4a65c_grow_92f84_46 (by decide +kernel) ?_
  refine lv_iload_n hx hb dJx4a65c_grow_92f84_48 rfl (lv_at hl 2 rfl) ?_
  refine va_mmax hx hb (S.2.2.1.trans hl.1.symm) S.2.2.2.1 (hts _ (List.mem_of_getElem? (i := 3) rfl)) (hts _ (List.mem_of_getElem? (i := 4) rfl)) (hts _ (List.mem_of_getElem? (i := 5) rfl)) (hts _ (List.mem_of_getElem? (i := 6) rfl)) (Nat.le_of_ble_eq_true rfl) (Nat.le_of_ble_eq_true rfl) (by show _ ≤ 1; omega) (by show _ ≤ 64; omega) dJx4a65c_grow_92f84_49 ?_
  refine nr_top (y := (nI (max (10) (1)))) (mx_N (by omega) (by omega)) ?_
  refine nr_top (y := (nI (10))) (rfl) ?_
  refine nr_newq (N := 10) S (List.mem_of_getElem? (i := 7) rfl) hK hP hD hS hFr (by omega) (by show 0 + 1 ≤ 1; decide) (by show 0 + 10 ≤ 64; decide) dJx4a65c_grow_92f84_52 (fun q52 H hP hD hS => ?_)
  have hP : va_P D aCl ([(la, .inr (4, [.int (mod), .ref (t0), .int (nI (0))])), w1, w2, (q52, .inl (Y 1, 10, .inr (.inr (.inr (.inr (fun _ => none))))))] ++ tl) H := mvP hP
  have hD : va_D F ([(la, .inr (4, [.int (mod), .ref (t0), .int (nI (0))])), w1, w2, (q52, .inl (Y 1, 10, .inr (.inr (.inr (.inr (fun _ => none))))))] ++ tl) := mvD hD
  refine lv_dup_x1 hx hb dJx4a65c_grow_92f84_55 rfl rfl ?_
  refine nr_put (C := RJx4a65c) (T := TJx4a65c) (N := 3) (ci := 4) (v := .ref (q52)) S (fun _ h => List.mem_cons_of_mem _ (List.mem_append_right _ (h))) tyJx4a65c tyJx4a65c_ok nmJx4a65c hK hP hD hS 0 rfl rfl 1 (by decide) (List.mem_of_getElem? (i := 1) rfl) rfl rfl rfl (Nat.le_of_ble_eq_true rfl) dJx4a65c_grow_92f84_56 (fun H locs hP hD hS => ?_)
  have hP : va_P D aCl ([(la, .inr (4, [.int (mod), .ref (q52), .int (nI (0))])), w1, w2, (q52, .inl (Y 1, 10, .inr (.inr (.inr (.inr (fun _ => none))))))] ++ tl) H := hP
  have hD : va_D F ([(la, .inr (4, [.int (mod), .ref (q52), .int (nI (0))])), w1, w2, (q52, .inl (Y 1, 10, .inr (.inr (.inr (.inr (fun _ => none))))))] ++ tl) := hD
  refine W.widen (k := 1) (n := 64) (by omega) (by omega) ?_
  exact hE _ _ _ _ _ dJx4a65c_grow_92f84_59 (⟨hP, hD⟩) hS
set_option maxHeartbeats 4000000 in
set_option maxRecDepth 100000 in
theorem k_Jx4a65c_grow_d5877 (l : Launch) {D : va_G} {Y : Nat → ClassId} {H0 : Heap} {F : Nat → Prop} {la ea n : Nat} {mod : Int32} {es : Nat → Option Nat} {w1 w2 : Nat × va_E} {tl : va_W} (hP : va_P D aCl ([(la, .inr (4, [.int (mod), .ref (ea), .int (nI (n))])), w1, w2, (ea, .inl (Y 1, n, .inr (.inr (.inr (.inr es)))))] ++ tl) H0) (hD : va_D F ([(la, .inr (4, [.int (mod), .ref (ea), .int (nI (n))])), w1, w2, (ea, .inl (Y 1, n, .inr (.inr (.inr (.inr es)))))] ++ tl)) (hFr : ∀ q, H0.size ≤ q → F q) (hes : ∀ j, j < n → ∃ (y k : Nat) (fs : List Value), es j = some y ∧ tl[k]? = some (y, .inr (1, fs))) (hn : 1 ≤ n ∧ n ≤ 30) : UC l yJx4a65c_grow_d5877 wsJx4a65c_grow_d5877 4 1 64 D Y (eT) [.ref (la)] H0 F (bA_ (fun a H => ∃ es2 : Nat → Option Nat, (∀ j, j < n → es2 j = es j) ∧ va_P D aCl ([(la, .inr (4, [.int (mod), .ref a, .int (nI (n))])), w1, w2, (a, .inl (Y 1, n + max (n + 1 - n) (n / 2 ^ 1), .inr (.inr (.inr (.inr es2)))))] ++ tl) H ∧ va_D F ([(la, .inr (4, [.int (mod), .ref a, .int (nI (n))])), w1, w2, (a, .inl (Y 1, n + max (n + 1 - n) (n / 2 ^ 1), .inr (.inr (.inr (.inr es2)))))] ++ tl))) := by
  refine UCa.start (cc := cJx4a65c_grow_d5877) (maxL := 1) (rt := (.array (.object "java/lang/Object"))) (by decide) rfl (Nat.le_of_ble_eq_true rfl) (by first | exact Or.inl ⟨_, rfl⟩ | exact Or.inr ⟨_, rfl⟩) ?_
  intro p e s m args below meth c ls H locs Q S hK hH0 hE0 hHH hS hl hin hE
  rw [← hHH] at hP
  have S : CallFix p m c cJx4a65c_grow_d5877 1 s args wsJx4a65c_grow_d5877 RJx4a65c := S
  have hx := S.1
  have hb := S.2.1
  have hts := S.2.2.2.2
  have hl : lv_has ls 1 [(0, .ref (la))] := hl
  refine lv_aload_n hx hb dJx4a65c_grow_d5877_0 rfl (lv_at hl 0 rfl) ?_
  refine lv_aload_n hx hb dJx4a65c_grow_d5877_1 rfl (lv_at hl 0 rfl) ?_
  refine nr_get (C := RJx4a65c) (T := TJx4a65c) (N := 3) (ci := 4) S (fun _ h => List.mem_cons_of_mem _ (List.mem_append_right _ (h))) hK hP 0 rfl rfl 2 (by decide) (List.mem_of_getElem? (i := 1) rfl) rfl dJx4a65c_grow_d5877_2 ?_
  refine lv_iconst (v := (nI (1))) hx hb dJx4a65c_grow_d5877_5 (by decide +kernel) ?_
  refine nr_iadd hx hb dJx4a65c_grow_d5877_6 ?_
  refine UC.callV (As := [.int (nI (n + 1))]) S (k_Jx4a65c_grow_92f84 l hP hD (fun q hq => hFr q (Nat.le_trans hS.1 hq)) hes hn) (cwV 1 hts gJx4a65c_grow_d5877_Jx4a65c_grow_92f84 rfl rfl rfl (by decide +kernel) ⟨Nat.le_of_ble_eq_true rfl, Nat.le_of_ble_eq_true rfl⟩) hK eT_bl (fun _ _ _ => trivial) hS (fun _ h => h) (va_recv hK.1 hP (ci := 4) (q0 := 0) rfl rfl) rfl hl.1 rfl (Nat.le_of_ble_eq_true rfl) dJx4a65c_grow_d5877_7 ⟨(by show _ ≤ 1; omega), (by show _ ≤ 64; omega)⟩ (fun v H locs hB hS hsz hkp => ?_)
  obtain ⟨a9, rfl, hB⟩ := hB
  obtain ⟨es2, he2, hP, hD⟩ := hB
  refine W.widen (k := 1) (n := 64) (by omega) (by omega) ?_
  exact hE _ _ _ _ _ dJx4a65c_grow_d5877_10 (⟨es2, he2, hP, hD⟩) hS
set_option maxHeartbeats 4000000 in
set_option maxRecDepth 100000 in
theorem k_Jx4a65c_grow_d5877_z (l : Launch) {D : va_G} {Y : Nat → ClassId} {H0 : Heap} {F : Nat → Prop} {la t0 : Nat} {mod : Int32} {w1 w2 : Nat × va_E} {tl : va_W} (hP : va_P D aCl ([(la, .inr (4, [.int (mod), .ref (t0), .int (nI (0))])), w1, w2] ++ tl) H0) (hD : va_D F ([(la, .inr (4, [.int (mod), .ref (t0), .int (nI (0))])), w1, w2] ++ tl)) (hFr : ∀ q, H0.size ≤ q → F q) : UC l yJx4a65c_grow_d5877 wsJx4a65c_grow_d5877 4 1 64 D Y (eZ t0 F) [.ref (la)] H0 F (bA_ (fun a H => va_P D aCl ([(la, .inr (4, [.int (mod), .ref a, .int (nI (0))])), w1, w2, (a, .inl (Y 1, 10, .inr (.inr (.inr (.inr (fun _ => none))))))] ++ tl) H ∧ va_D F ([(la, .inr (4, [.int (mod), .ref a, .int (nI (0))])), w1, w2, (a, .inl (Y 1, 10, .inr (.inr (.inr (.inr (fun _ => none))))))] ++ tl))) := by
  refine UCa.start (cc := cJx4a65c_grow_d5877) (maxL := 1) (rt := (.array (.object "java/lang/Object"))) (by decide) rfl (Nat.le_of_ble_eq_true rfl) (by first | exact Or.inl ⟨_, rfl⟩ | exact Or.inr ⟨_, rfl⟩) ?_
  intro p e s m args below meth c ls H locs Q S hK hH0 hE0 hHH hS hl hin hE
  rw [← hHH] at hP
  have S : CallFix p m c cJx4a65c_grow_d5877 1 s args wsJx4a65c_grow_d5877 RJx4a65c := S
  have hx := S.1
  have hb := S.2.1
  have hts := S.2.2.2.2
  have hl : lv_has ls 1 [(0, .ref (la))] := hl
  subst hH0
  refine lv_aload_n hx hb dJx4a65c_grow_d5877_0 rfl (lv_at hl 0 rfl) ?_
  refine lv_aload_n hx hb dJx4a65c_grow_d5877_1 rfl (lv_at hl 0 rfl) ?_
  refine nr_get (C := RJx4a65c) (T := TJx4a65c) (N := 3) (ci := 4) S (fun _ h => List.mem_cons_of_mem _ (List.mem_append_right _ (h))) hK hP 0 rfl rfl 2 (by decide) (List.mem_of_getElem? (i := 1) rfl) rfl dJx4a65c_grow_d5877_2 ?_
  refine lv_iconst (v := (nI (1))) hx hb dJx4a65c_grow_d5877_5 (by decide +kernel) ?_
  refine nr_iadd hx hb dJx4a65c_grow_d5877_6 ?_
  refine UC.callV (As := [.int (nI (1))]) S (k_Jx4a65c_grow_92f84_z l hP hD (fun q hq => hFr q (Nat.le_trans hS.1 hq))) (cwV 1 hts gJx4a65c_grow_d5877_Jx4a65c_grow_92f84 rfl rfl rfl (by decide +kernel) ⟨Nat.le_of_ble_eq_true rfl, Nat.le_of_ble_eq_true rfl⟩) hK eZ_bl (fun U hW hU => eZ_go hE0 hS hW hU) hS (fun _ h => h) (va_recv hK.1 hP (ci := 4) (q0 := 0) rfl rfl) rfl hl.1 rfl (Nat.le_of_ble_eq_true rfl) dJx4a65c_grow_d5877_7 ⟨(by show _ ≤ 1; omega), (by show _ ≤ 64; omega)⟩ (fun v H locs hB hS hsz hkp => ?_)
  obtain ⟨a9, rfl, hB⟩ := hB
  obtain ⟨hP, hD⟩ := hB
  refine W.widen (k := 1) (n := 64) (by omega) (by omega) ?_
  exact hE _ _ _ _ _ dJx4a65c_grow_d5877_10 (⟨hP, hD⟩) hS
set_option maxHeartbeats 4000000 in
set_option maxRecDepth 100000 in
theorem k_Jx4a65c_add_72be8 (l : Launch) {D : va_G} {Y : Nat → ClassId} {H0 : Heap} {F : Nat → Prop} {la ea n : Nat} {mod : Int32} {es : Nat → Option Nat} {w1 w2 : Nat × va_E} {tl : va_W} {cap : Nat} {v kv : Nat} {fsv : List Value} (hP : va_P D aCl ([(la, .inr (4, [.int (mod), .ref (ea), .int (nI (n))])), w1, w2, (ea, .inl (Y 1, cap, .inr (.inr (.inr (.inr es)))))] ++ tl) H0) (hD : va_D F ([(la, .inr (4, [.int (mod), .ref (ea), .int (nI (n))])), w1, w2, (ea, .inl (Y 1, cap, .inr (.inr (.inr (.inr es)))))] ++ tl)) (hFr : ∀ q, H0.size ≤ q → F q) (hv : tl[kv]? = some (v, .inr (1, fsv))) (hroom : n < cap ∧ cap < 2 ^ 30) : UC l yJx4a65c_add_72be8 wsJx4a65c_add_72be8 5 1 64 D Y (eT) [.ref (la), .ref (v), .ref (ea), .int (nI (n))] H0 F (bV_ (fun H => ∃ (ea2 cap2 : Nat) (es2 : Nat → Option Nat), (n < cap2 ∧ cap2 < 2 ^ 30) ∧ (∀ j, j < n → es2 j = es j) ∧ es2 (n) = some v ∧ va_P D aCl ([(la, .inr (4, [.int (mod), .ref ea2, .int (nI (n + 1))])), w1, w2, (ea2, .inl (Y 1, cap2, .inr (.inr (.inr (.inr es2)))))] ++ tl) H ∧ va_D F ([(la, .inr (4, [.int (mod), .ref ea2, .int (nI (n + 1))])), w1, w2, (ea2, .inl (Y 1, cap2, .inr (.inr (.inr (.inr es2)))))] ++ tl))) := by
  refine UCv.start (cc := cJx4a65c_add_72be8) (maxL := 4) (by decide) rfl (Nat.le_of_ble_eq_true rfl) ?_
  intro p e s m args below meth c ls H locs Q S hK hH0 hE0 hHH hS hl hin hE
  rw [← hHH] at hP
  have S : CallFix p m c cJx4a65c_add_72be8 4 s args wsJx4a65c_add_72be8 RJx4a65c := S
  have hx := S.1
  have hb := S.2.1
  have hts := S.2.2.2.2
  have hl : lv_has ls 4 [(0, .ref (la)), (1, .ref (v)), (2, .ref (ea)), (3, .int (nI (n)))] := hl
  refine lv_iload_n hx hb dJx4a65c_add_72be8_0 rfl (lv_at hl 3 rfl) ?_
  refine lv_aload_n hx hb dJx4a65c_add_72be8_1 rfl (lv_at hl 2 rfl) ?_
  refine va_alen (v := (nI (cap))) (ty := .object _) hx hb hK.1 hP 3 1 rfl rfl rfl dJx4a65c_add_72be8_2 ?_
  refine nr_icmp_ne (tgt := 11) hx hb (by omega) (by omega) dJx4a65c_add_72be8_3 (by decide) (fun c_3 => ?_) (fun c_3 => absurd c_3 (by omega))
  refine lv_aload_n hx hb dJx4a65c_add_72be8_11 rfl (lv_at hl 2 rfl) ?_
  refine lv_iload_n hx hb dJx4a65c_add_72be8_12 rfl (lv_at hl 3 rfl) ?_
  refine lv_aload_n hx hb dJx4a65c_add_72be8_13 rfl (lv_at hl 1 rfl) ?_
  refine nr_aast (n := cap) (f := es) (v := v) S hK hP hD hS 3 rfl (va_recv hK.1 hP (ci := 1) (q0 := kv + 4) rfl hv) (by omega) (by omega) dJx4a65c_add_72be8_14 (fun H locs hP hD hS => ?_)
  have hP : va_P D aCl ([(la, .inr (4, [.int (mod), .ref (ea), .int (nI (n))])), w1, w2, (ea, .inl (Y 1, cap, .inr (.inr (.inr (.inr (va_up es (n) (some (v))))))))] ++ tl) H := hP
  have hD : va_D F ([(la, .inr (4, [.int (mod), .ref (ea), .int (nI (n))])), w1, w2, (ea, .inl (Y 1, cap, .inr (.inr (.inr (.inr (va_up es (n) (some (v))))))))] ++ tl) := hD
  refine lv_aload_n hx hb dJx4a65c_add_72be8_15 rfl (lv_at hl 0 rfl) ?_
  refine lv_iload_n hx hb dJx4a65c_add_72be8_16 rfl (lv_at hl 3 rfl) ?_
  refine lv_iconst (v := (nI (1))) hx hb dJx4a65c_add_72be8_17 (by decide +kernel) ?_
  refine nr_iadd hx hb dJx4a65c_add_72be8_18 ?_
  refine nr_put (C := RJx4a65c) (T := TJx4a65c) (N := 3) (ci := 4) (v := .int (nI (n + 1))) S (fun _ h => List.mem_cons_of_mem _ (List.mem_append_right _ (h))) tyJx4a65c tyJx4a65c_ok nmJx4a65c hK hP hD hS 0 rfl rfl 2 (by decide) (List.mem_of_getElem? (i := 1) rfl) rfl rfl rfl (Nat.le_of_ble_eq_true rfl) dJx4a65c_add_72be8_19 (fun H locs hP hD hS => ?_)
  have hP : va_P D aCl ([(la, .inr (4, [.int (mod), .ref (ea), .int (nI (n + 1))])), w1, w2, (ea, .inl (Y 1, cap, .inr (.inr (.inr (.inr (va_up es (n) (some (v))))))))] ++ tl) H := hP
  have hD : va_D F ([(la, .inr (4, [.int (mod), .ref (ea), .int (nI (n + 1))])), w1, w2, (ea, .inl (Y 1, cap, .inr (.inr (.inr (.inr (va_up es (n) (some (v))))))))] ++ tl) := hD
  refine W.widen (k := 1) (n := 64) (by omega) (by omega) ?_
  exact hE _ _ _ _ dJx4a65c_add_72be8_22 (⟨_, _, _, by omega, fun j hj => up_ne (by omega), up_same, hP, hD⟩) hS
set_option maxHeartbeats 4000000 in
set_option maxRecDepth 100000 in
theorem k_Jx4a65c_add_72be8_f (l : Launch) {D : va_G} {Y : Nat → ClassId} {H0 : Heap} {F : Nat → Prop} {la ea n : Nat} {mod : Int32} {es : Nat → Option Nat} {w1 w2 : Nat × va_E} {tl : va_W} {v kv : Nat} {fsv : List Value} (hP : va_P D aCl ([(la, .inr (4, [.int (mod), .ref (ea), .int (nI (n))])), w1, w2, (ea, .inl (Y 1, n, .inr (.inr (.inr (.inr es)))))] ++ tl) H0) (hD : va_D F ([(la, .inr (4, [.int (mod), .ref (ea), .int (nI (n))])), w1, w2, (ea, .inl (Y 1, n, .inr (.inr (.inr (.inr es)))))] ++ tl)) (hFr : ∀ q, H0.size ≤ q → F q) (hv : tl[kv]? = some (v, .inr (1, fsv))) (hes : ∀ j, j < n → ∃ (y k : Nat) (fs : List Value), es j = some y ∧ tl[k]? = some (y, .inr (1, fs))) (hn : 1 ≤ n ∧ n ≤ 30) : UC l yJx4a65c_add_72be8 wsJx4a65c_add_72be8 5 1 64 D Y (eT) [.ref (la), .ref (v), .ref (ea), .int (nI (n))] H0 F (bV_ (fun H => ∃ (ea2 cap2 : Nat) (es2 : Nat → Option Nat), (n < cap2 ∧ cap2 < 2 ^ 30) ∧ (∀ j, j < n → es2 j = es j) ∧ es2 (n) = some v ∧ va_P D aCl ([(la, .inr (4, [.int (mod), .ref ea2, .int (nI (n + 1))])), w1, w2, (ea2, .inl (Y 1, cap2, .inr (.inr (.inr (.inr es2)))))] ++ tl) H ∧ va_D F ([(la, .inr (4, [.int (mod), .ref ea2, .int (nI (n + 1))])), w1, w2, (ea2, .inl (Y 1, cap2, .inr (.inr (.inr (.inr es2)))))] ++ tl))) := by
  refine UCv.start (cc := cJx4a65c_add_72be8) (maxL := 4) (by decide) rfl (Nat.le_of_ble_eq_true rfl) ?_
  intro p e s m args below meth c ls H locs Q S hK hH0 hE0 hHH hS hl hin hE
  rw [← hHH] at hP
  have S : CallFix p m c cJx4a65c_add_72be8 4 s args wsJx4a65c_add_72be8 RJx4a65c := S
  have hx := S.1
  have hb := S.2.1
  have hts := S.2.2.2.2
  have hl : lv_has ls 4 [(0, .ref (la)), (1, .ref (v)), (2, .ref (ea)), (3, .int (nI (n)))] := hl
  refine lv_iload_n hx hb dJx4a65c_add_72be8_0 rfl (lv_at hl 3 rfl) ?_
  refine lv_aload_n hx hb dJx4a65c_add_72be8_1 rfl (lv_at hl 2 rfl) ?_
  refine va_alen (v := (nI (n))) (ty := .object _) hx hb hK.1 hP 3 1 rfl rfl rfl dJx4a65c_add_72be8_2 ?_
  refine nr_icmp_ne (tgt := 11) hx hb (by omega) (by omega) dJx4a65c_add_72be8_3 (by decide) (fun c_3 => absurd c_3 (by omega)) (fun c_3 => ?_)
  refine lv_aload_n hx hb dJx4a65c_add_72be8_6 rfl (lv_at hl 0 rfl) ?_
  refine UC.callV (As := []) S (k_Jx4a65c_grow_d5877 l hP hD (fun q hq => hFr q (Nat.le_trans hS.1 hq)) hes hn) (cwV 0 hts gJx4a65c_add_72be8_Jx4a65c_grow_d5877 rfl rfl rfl (by decide +kernel) ⟨Nat.le_of_ble_eq_true rfl, Nat.le_of_ble_eq_true rfl⟩) hK eT_bl (fun _ _ _ => trivial) hS (fun _ h => h) (va_recv hK.1 hP (ci := 4) (q0 := 0) rfl rfl) rfl hl.1 rfl (Nat.le_of_ble_eq_true rfl) dJx4a65c_add_72be8_7 ⟨(by show _ ≤ 1; omega), (by show _ ≤ 64; omega)⟩ (fun v H locs hB hS hsz hkp => ?_)
  obtain ⟨a9, rfl, hB⟩ := hB
  obtain ⟨es2, he2, hP, hD⟩ := hB
  refine lv_astore_n (lv' := [(2, .ref (a9)), (0, .ref (la)), (1, .ref (v)), (3, .int (nI (n)))]) hx hb dJx4a65c_add_72be8_10 rfl hl (by decide) rfl (fun ls hl => ?_)
  refine lv_aload_n hx hb dJx4a65c_add_72be8_11 rfl (lv_at hl 0 rfl) ?_
  refine lv_iload_n hx hb dJx4a65c_add_72be8_12 rfl (lv_at hl 3 rfl) ?_
  refine lv_aload_n hx hb dJx4a65c_add_72be8_13 rfl (lv_at hl 2 rfl) ?_
  refine nr_aast (n := n + max (n + 1 - n) (n / 2 ^ 1)) (f := es2) (v := v) S hK hP hD hS 3 rfl (va_recv hK.1 hP (ci := 1) (q0 := kv + 4) rfl hv) (by omega) (by omega) dJx4a65c_add_72be8_14 (fun H locs hP hD hS => ?_)
  have hP : va_P D aCl ([(la, .inr (4, [.int (mod), .ref (a9), .int (nI (n))])), w1, w2, (a9, .inl (Y 1, n + max (n + 1 - n) (n / 2 ^ 1), .inr (.inr (.inr (.inr (va_up es2 (n) (some (v))))))))] ++ tl) H := hP
  have hD : va_D F ([(la, .inr (4, [.int (mod), .ref (a9), .int (nI (n))])), w1, w2, (a9, .inl (Y 1, n + max (n + 1 - n) (n / 2 ^ 1), .inr (.inr (.inr (.inr (va_up es2 (n) (some (v))))))))] ++ tl) := hD
  refine lv_aload_n hx hb dJx4a65c_add_72be8_15 rfl (lv_at hl 1 rfl) ?_
  refine lv_iload_n hx hb dJx4a65c_add_72be8_16 rfl (lv_at hl 3 rfl) ?_
  refine lv_iconst (v := (nI (1))) hx hb dJx4a65c_add_72be8_17 (by decide +kernel) ?_
  refine nr_iadd hx hb dJx4a65c_add_72be8_18 ?_
  refine nr_put (C := RJx4a65c) (T := TJx4a65c) (N := 3) (ci := 4) (v := .int (nI (n + 1))) S (fun _ h => List.mem_cons_of_mem _ (List.mem_append_right _ (h))) tyJx4a65c tyJx4a65c_ok nmJx4a65c hK hP hD hS 0 rfl rfl 2 (by decide) (List.mem_of_getElem? (i := 1) rfl) rfl rfl rfl (Nat.le_of_ble_eq_true rfl) dJx4a65c_add_72be8_19 (fun H locs hP hD hS => ?_)
  have hP : va_P D aCl ([(la, .inr (4, [.int (mod), .ref (a9), .int (nI (n + 1))])), w1, w2, (a9, .inl (Y 1, n + max (n + 1 - n) (n / 2 ^ 1), .inr (.inr (.inr (.inr (va_up es2 (n) (some (v))))))))] ++ tl) H := hP
  have hD : va_D F ([(la, .inr (4, [.int (mod), .ref (a9), .int (nI (n + 1))])), w1, w2, (a9, .inl (Y 1, n + max (n + 1 - n) (n / 2 ^ 1), .inr (.inr (.inr (.inr (va_up es2 (n) (some (v))))))))] ++ tl) := hD
  refine W.widen (k := 1) (n := 64) (by omega) (by omega) ?_
  exact hE _ _ _ _ dJx4a65c_add_72be8_22 (⟨_, _, _, by omega, fun j hj => (up_ne (by omega)).trans (he2 j hj), up_same, hP, hD⟩) hS
set_option maxHeartbeats 4000000 in
set_option maxRecDepth 100000 in
theorem k_Jx4a65c_add_72be8_z (l : Launch) {D : va_G} {Y : Nat → ClassId} {H0 : Heap} {F : Nat → Prop} {la t0 : Nat} {mod : Int32} {w1 w2 : Nat × va_E} {tl : va_W} {v kv : Nat} {fsv : List Value} (hP : va_P D aCl ([(la, .inr (4, [.int (mod), .ref (t0), .int (nI (0))])), w1, w2] ++ tl) H0) (hD : va_D F ([(la, .inr (4, [.int (mod), .ref (t0), .int (nI (0))])), w1, w2] ++ tl)) (hFr : ∀ q, H0.size ≤ q → F q) (hv : tl[kv]? = some (v, .inr (1, fsv))) : UC l yJx4a65c_add_72be8 wsJx4a65c_add_72be8 5 1 64 D Y (eZ t0 F) [.ref (la), .ref (v), .ref (t0), .int (nI (0))] H0 F (bV_ (fun H => ∃ (ea2 cap2 : Nat) (es2 : Nat → Option Nat), (0 < cap2 ∧ cap2 < 2 ^ 30) ∧ (∀ j, j < 0 → es2 j = (fun _ => none) j) ∧ es2 (0) = some v ∧ va_P D aCl ([(la, .inr (4, [.int (mod), .ref ea2, .int (nI (0 + 1))])), w1, w2, (ea2, .inl (Y 1, cap2, .inr (.inr (.inr (.inr es2)))))] ++ tl) H ∧ va_D F ([(la, .inr (4, [.int (mod), .ref ea2, .int (nI (0 + 1))])), w1, w2, (ea2, .inl (Y 1, cap2, .inr (.inr (.inr (.inr es2)))))] ++ tl))) := by
  refine UCv.start (cc := cJx4a65c_add_72be8) (maxL := 4) (by decide) rfl (Nat.le_of_ble_eq_true rfl) ?_
  intro p e s m args below meth c ls H locs Q S hK hH0 hE0 hHH hS hl hin hE
  rw [← hHH] at hP
  have S : CallFix p m c cJx4a65c_add_72be8 4 s args wsJx4a65c_add_72be8 RJx4a65c := S
  have hx := S.1
  have hb := S.2.1
  have hts := S.2.2.2.2
  have hl : lv_has ls 4 [(0, .ref (la)), (1, .ref (v)), (2, .ref (t0)), (3, .int (nI (0)))] := hl
  subst hH0
  refine lv_iload_n hx hb dJx4a65c_add_72be8_0 rfl (lv_at hl 3 rfl) ?_
  refine lv_aload_n hx hb dJx4a65c_add_72be8_1 rfl (lv_at hl 2 rfl) ?_
  refine nr_alen0 S hE0 hS dJx4a65c_add_72be8_2 ?_
  refine nr_icmp_ne (tgt := 11) hx hb (by omega) (by omega) dJx4a65c_add_72be8_3 (by decide) (fun c_3 => absurd c_3 (by decide)) (fun c_3 => ?_)
  refine lv_aload_n hx hb dJx4a65c_add_72be8_6 rfl (lv_at hl 0 rfl) ?_
  refine UC.callV (As := []) S (k_Jx4a65c_grow_d5877_z l hP hD (fun q hq => hFr q (Nat.le_trans hS.1 hq))) (cwV 0 hts gJx4a65c_add_72be8_Jx4a65c_grow_d5877 rfl rfl rfl (by decide +kernel) ⟨Nat.le_of_ble_eq_true rfl, Nat.le_of_ble_eq_true rfl⟩) hK eZ_bl (fun U hW hU => eZ_go hE0 hS hW hU) hS (fun _ h => h) (va_recv hK.1 hP (ci := 4) (q0 := 0) rfl rfl) rfl hl.1 rfl (Nat.le_of_ble_eq_true rfl) dJx4a65c_add_72be8_7 ⟨(by show _ ≤ 1; omega), (by show _ ≤ 64; omega)⟩ (fun v H locs hB hS hsz hkp => ?_)
  obtain ⟨a9, rfl, hB⟩ := hB
  obtain ⟨hP, hD⟩ := hB
  refine lv_astore_n (lv' := [(2, .ref (a9)), (0, .ref (la)), (1, .ref (v)), (3, .int (nI (0)))]) hx hb dJx4a65c_add_72be8_10 rfl hl (by decide) rfl (fun ls hl => ?_)
  refine lv_aload_n hx hb dJx4a65c_add_72be8_11 rfl (lv_at hl 0 rfl) ?_
  refine lv_iload_n hx hb dJx4a65c_add_72be8_12 rfl (lv_at hl 3 rfl) ?_
  refine lv_aload_n hx hb dJx4a65c_add_72be8_13 rfl (lv_at hl 2 rfl) ?_
  refine nr_aast (n := 10) (f := (fun _ => none)) (v := v) S hK hP hD hS 3 rfl (va_recv hK.1 hP (ci := 1) (q0 := kv + 4) rfl hv) (by omega) (by omega) dJx4a65c_add_72be8_14 (fun H locs hP hD hS => ?_)
  have hP : va_P D aCl ([(la, .inr (4, [.int (mod), .ref (a9), .int (nI (0))])), w1, w2, (a9, .inl (Y 1, 10, .inr (.inr (.inr (.inr (va_up (fun _ => none) (0) (some (v))))))))] ++ tl) H := hP
  have hD : va_D F ([(la, .inr (4, [.int (mod), .ref (a9), .int (nI (0))])), w1, w2, (a9, .inl (Y 1, 10, .inr (.inr (.inr (.inr (va_up (fun _ => none) (0) (some (v))))))))] ++ tl) := hD
  refine lv_aload_n hx hb dJx4a65c_add_72be8_15 rfl (lv_at hl 1 rfl) ?_
  refine lv_iload_n hx hb dJx4a65c_add_72be8_16 rfl (lv_at hl 3 rfl) ?_
  refine lv_iconst (v := (nI (1))) hx hb dJx4a65c_add_72be8_17 (by decide +kernel) ?_
  refine nr_iadd hx hb dJx4a65c_add_72be8_18 ?_
  refine nr_put (C := RJx4a65c) (T := TJx4a65c) (N := 3) (ci := 4) (v := .int (nI (1))) S (fun _ h => List.mem_cons_of_mem _ (List.mem_append_right _ (h))) tyJx4a65c tyJx4a65c_ok nmJx4a65c hK hP hD hS 0 rfl rfl 2 (by decide) (List.mem_of_getElem? (i := 1) rfl) rfl rfl rfl (Nat.le_of_ble_eq_true rfl) dJx4a65c_add_72be8_19 (fun H locs hP hD hS => ?_)
  have hP : va_P D aCl ([(la, .inr (4, [.int (mod), .ref (a9), .int (nI (1))])), w1, w2, (a9, .inl (Y 1, 10, .inr (.inr (.inr (.inr (va_up (fun _ => none) (0) (some (v))))))))] ++ tl) H := hP
  have hD : va_D F ([(la, .inr (4, [.int (mod), .ref (a9), .int (nI (1))])), w1, w2, (a9, .inl (Y 1, 10, .inr (.inr (.inr (.inr (va_up (fun _ => none) (0) (some (v))))))))] ++ tl) := hD
  refine W.widen (k := 1) (n := 64) (by omega) (by omega) ?_
  exact hE _ _ _ _ dJx4a65c_add_72be8_22 (⟨_, _, _, by omega, fun j hj => absurd hj (Nat.not_lt_zero _), up_same, hP, hD⟩) hS
set_option maxHeartbeats 4000000 in
set_option maxRecDepth 100000 in
theorem k_Jx4a65c_add_9ea2d (l : Launch) {D : va_G} {Y : Nat → ClassId} {H0 : Heap} {F : Nat → Prop} {la ea n : Nat} {mod : Int32} {es : Nat → Option Nat} {w1 w2 : Nat × va_E} {tl : va_W} {cap : Nat} {v kv : Nat} {fsv : List Value} (hP : va_P D aCl ([(la, .inr (4, [.int (mod), .ref (ea), .int (nI (n))])), w1, w2, (ea, .inl (Y 1, cap, .inr (.inr (.inr (.inr es)))))] ++ tl) H0) (hD : va_D F ([(la, .inr (4, [.int (mod), .ref (ea), .int (nI (n))])), w1, w2, (ea, .inl (Y 1, cap, .inr (.inr (.inr (.inr es)))))] ++ tl)) (hFr : ∀ q, H0.size ≤ q → F q) (hv : tl[kv]? = some (v, .inr (1, fsv))) (hroom : n < cap ∧ cap < 2 ^ 30) : UC l yJx4a65c_add_9ea2d wsJx4a65c_add_9ea2d 6 1 64 D Y (eT) [.ref (la), .ref (v)] H0 F (bI_ (nI 1) (fun H => ∃ (ea2 cap2 : Nat) (es2 : Nat → Option Nat), (n < cap2 ∧ cap2 < 2 ^ 30) ∧ (∀ j, j < n → es2 j = es j) ∧ es2 (n) = some v ∧ va_P D aCl ([(la, .inr (4, [.int (mod + nI 1), .ref ea2, .int (nI (n + 1))])), w1, w2, (ea2, .inl (Y 1, cap2, .inr (.inr (.inr (.inr es2)))))] ++ tl) H ∧ va_D F ([(la, .inr (4, [.int (mod + nI 1), .ref ea2, .int (nI (n + 1))])), w1, w2, (ea2, .inl (Y 1, cap2, .inr (.inr (.inr (.inr es2)))))] ++ tl))) := by
  refine UCi.start (cc := cJx4a65c_add_9ea2d) (maxL := 2) (rt := .boolean) (by decide) rfl (Nat.le_of_ble_eq_true rfl) ?_
  intro p e s m args below meth c ls H locs Q S hK hH0 hE0 hHH hS hl hin hE
  rw [← hHH] at hP
  have S : CallFix p m c cJx4a65c_add_9ea2d 2 s args wsJx4a65c_add_9ea2d RJx4a65c := S
  have hx := S.1
  have hb := S.2.1
  have hts := S.2.2.2.2
  have hl : lv_has ls 2 [(0, .ref (la)), (1, .ref (v))] := hl
  refine lv_aload_n hx hb dJx4a65c_add_9ea2d_0 rfl (lv_at hl 0 rfl) ?_
  refine lv_dup hx hb dJx4a65c_add_9ea2d_1 rfl ?_
  refine nr_getS (C := RJx4a65c) (T := TJx4a65c) (N := 3) (ci := 4) S (fun _ h => List.mem_cons_of_mem _ (List.mem_append_right _ (h))) hK hP 0 rfl rfl 0 (by decide) (List.mem_of_getElem? (i := 1) rfl) (List.mem_of_getElem? (i := 2) rfl) rfl dJx4a65c_add_9ea2d_2 ?_
  refine lv_iconst (v := (nI (1))) hx hb dJx4a65c_add_9ea2d_5 (by decide +kernel) ?_
  refine lv_iadd hx hb dJx4a65c_add_9ea2d_6 ?_
  refine nr_putS (C := RJx4a65c) (T := TJx4a65c) (N := 3) (ci := 4) (v := .int (((mod) + (nI (1))))) S (fun _ h => List.mem_cons_of_mem _ (List.mem_append_right _ (h))) tyJx4a65c tyJx4a65c_ok nmJx4a65c hK hP hD hS 0 rfl rfl 0 (by decide) (List.mem_of_getElem? (i := 1) rfl) (List.mem_of_getElem? (i := 2) rfl) rfl rfl rfl (Nat.le_of_ble_eq_true rfl) dJx4a65c_add_9ea2d_7 (fun H locs hP hD hS => ?_)
  have hP : va_P D aCl ([(la, .inr (4, [.int (((mod) + (nI (1)))), .ref (ea), .int (nI (n))])), w1, w2, (ea, .inl (Y 1, cap, .inr (.inr (.inr (.inr es)))))] ++ tl) H := hP
  have hD : va_D F ([(la, .inr (4, [.int (((mod) + (nI (1)))), .ref (ea), .int (nI (n))])), w1, w2, (ea, .inl (Y 1, cap, .inr (.inr (.inr (.inr es)))))] ++ tl) := hD
  refine lv_aload_n hx hb dJx4a65c_add_9ea2d_10 rfl (lv_at hl 0 rfl) ?_
  refine lv_aload_n hx hb dJx4a65c_add_9ea2d_11 rfl (lv_at hl 1 rfl) ?_
  refine lv_aload_n hx hb dJx4a65c_add_9ea2d_12 rfl (lv_at hl 0 rfl) ?_
  refine nr_get (C := RJx4a65c) (T := TJx4a65c) (N := 3) (ci := 4) S (fun _ h => List.mem_cons_of_mem _ (List.mem_append_right _ (h))) hK hP 0 rfl rfl 1 (by decide) (List.mem_of_getElem? (i := 3) rfl) rfl dJx4a65c_add_9ea2d_13 ?_
  refine lv_aload_n hx hb dJx4a65c_add_9ea2d_16 rfl (lv_at hl 0 rfl) ?_
  refine nr_get (C := RJx4a65c) (T := TJx4a65c) (N := 3) (ci := 4) S (fun _ h => List.mem_cons_of_mem _ (List.mem_append_right _ (h))) hK hP 0 rfl rfl 2 (by decide) (List.mem_of_getElem? (i := 4) rfl) rfl dJx4a65c_add_9ea2d_17 ?_
  refine UC.callV (As := [.ref (v), .ref (ea), .int (nI (n))]) S (k_Jx4a65c_add_72be8 l hP hD (fun q hq => hFr q (Nat.le_trans hS.1 hq)) hv hroom) (cwV 3 hts gJx4a65c_add_9ea2d_Jx4a65c_add_72be8 rfl rfl rfl (by decide +kernel) ⟨Nat.le_of_ble_eq_true rfl, Nat.le_of_ble_eq_true rfl⟩) hK eT_bl (fun _ _ _ => trivial) hS (fun _ h => h) (va_recv hK.1 hP (ci := 4) (q0 := 0) rfl rfl) rfl hl.1 rfl (Nat.le_of_ble_eq_true rfl) dJx4a65c_add_9ea2d_20 ⟨(by show _ ≤ 1; omega), (by show _ ≤ 64; omega)⟩ (fun v H locs hB hS hsz hkp => ?_)
  obtain ⟨rfl, hB⟩ := hB
  obtain ⟨ea2, cap2, es2, hc2, he2, hv2, hP, hD⟩ := hB
  refine lv_iconst (v := (nI (1))) hx hb dJx4a65c_add_9ea2d_23 (by decide +kernel) ?_
  refine W.widen (k := 1) (n := 64) (by omega) (by omega) ?_
  exact hE _ _ _ _ _ dJx4a65c_add_9ea2d_24 (rfl) (rfl) (⟨ea2, cap2, es2, hc2, he2, hv2, hP, hD⟩) hS
set_option maxHeartbeats 4000000 in
set_option maxRecDepth 100000 in
theorem k_Jx4a65c_add_9ea2d_f (l : Launch) {D : va_G} {Y : Nat → ClassId} {H0 : Heap} {F : Nat → Prop} {la ea n : Nat} {mod : Int32} {es : Nat → Option Nat} {w1 w2 : Nat × va_E} {tl : va_W} {v kv : Nat} {fsv : List Value} (hP : va_P D aCl ([(la, .inr (4, [.int (mod), .ref (ea), .int (nI (n))])), w1, w2, (ea, .inl (Y 1, n, .inr (.inr (.inr (.inr es)))))] ++ tl) H0) (hD : va_D F ([(la, .inr (4, [.int (mod), .ref (ea), .int (nI (n))])), w1, w2, (ea, .inl (Y 1, n, .inr (.inr (.inr (.inr es)))))] ++ tl)) (hFr : ∀ q, H0.size ≤ q → F q) (hv : tl[kv]? = some (v, .inr (1, fsv))) (hes : ∀ j, j < n → ∃ (y k : Nat) (fs : List Value), es j = some y ∧ tl[k]? = some (y, .inr (1, fs))) (hn : 1 ≤ n ∧ n ≤ 30) : UC l yJx4a65c_add_9ea2d wsJx4a65c_add_9ea2d 6 1 64 D Y (eT) [.ref (la), .ref (v)] H0 F (bI_ (nI 1) (fun H => ∃ (ea2 cap2 : Nat) (es2 : Nat → Option Nat), (n < cap2 ∧ cap2 < 2 ^ 30) ∧ (∀ j, j < n → es2 j = es j) ∧ es2 (n) = some v ∧ va_P D aCl ([(la, .inr (4, [.int (mod + nI 1), .ref ea2, .int (nI (n + 1))])), w1, w2, (ea2, .inl (Y 1, cap2, .inr (.inr (.inr (.inr es2)))))] ++ tl) H ∧ va_D F ([(la, .inr (4, [.int (mod + nI 1), .ref ea2, .int (nI (n + 1))])), w1, w2, (ea2, .inl (Y 1, cap2, .inr (.inr (.inr (.inr es2)))))] ++ tl))) := by
  refine UCi.start (cc := cJx4a65c_add_9ea2d) (maxL := 2) (rt := .boolean) (by decide) rfl (Nat.le_of_ble_eq_true rfl) ?_
  intro p e s m args below meth c ls H locs Q S hK hH0 hE0 hHH hS hl hin hE
  rw [← hHH] at hP
  have S : CallFix p m c cJx4a65c_add_9ea2d 2 s args wsJx4a65c_add_9ea2d RJx4a65c := S
  have hx := S.1
  have hb := S.2.1
  have hts := S.2.2.2.2
  have hl : lv_has ls 2 [(0, .ref (la)), (1, .ref (v))] := hl
  refine lv_aload_n hx hb dJx4a65c_add_9ea2d_0 rfl (lv_at hl 0 rfl) ?_
  refine lv_dup hx hb dJx4a65c_add_9ea2d_1 rfl ?_
  refine nr_getS (C := RJx4a65c) (T := TJx4a65c) (N := 3) (ci := 4) S (fun _ h => List.mem_cons_of_mem _ (List.mem_append_right _ (h))) hK hP 0 rfl rfl 0 (by decide) (List.mem_of_getElem? (i := 1) rfl) (List.mem_of_getElem? (i := 2) rfl) rfl dJx4a65c_add_9ea2d_2 ?_
  refine lv_iconst (v := (nI (1))) hx hb dJx4a65c_add_9ea2d_5 (by decide +kernel) ?_
  refine lv_iadd hx hb dJx4a65c_add_9ea2d_6 ?_
  refine nr_putS (C := RJx4a65c) (T := TJx4a65c) (N := 3) (ci := 4) (v := .int (((mod) + (nI (1))))) S (fun _ h => List.mem_cons_of_mem _ (List.mem_append_right _ (h))) tyJx4a65c tyJx4a65c_ok nmJx4a65c hK hP hD hS 0 rfl rfl 0 (by decide) (List.mem_of_getElem? (i := 1) rfl) (List.mem_of_getElem? (i := 2) rfl) rfl rfl rfl (Nat.le_of_ble_eq_true rfl) dJx4a65c_add_9ea2d_7 (fun H locs hP hD hS => ?_)
  have hP : va_P D aCl ([(la, .inr (4, [.int (((mod) + (nI (1)))), .ref (ea), .int (nI (n))])), w1, w2, (ea, .inl (Y 1, n, .inr (.inr (.inr (.inr es)))))] ++ tl) H := hP
  have hD : va_D F ([(la, .inr (4, [.int (((mod) + (nI (1)))), .ref (ea), .int (nI (n))])), w1, w2, (ea, .inl (Y 1, n, .inr (.inr (.inr (.inr es)))))] ++ tl) := hD
  refine lv_aload_n hx hb dJx4a65c_add_9ea2d_10 rfl (lv_at hl 0 rfl) ?_
  refine lv_aload_n hx hb dJx4a65c_add_9ea2d_11 rfl (lv_at hl 1 rfl) ?_
  refine lv_aload_n hx hb dJx4a65c_add_9ea2d_12 rfl (lv_at hl 0 rfl) ?_
  refine nr_get (C := RJx4a65c) (T := TJx4a65c) (N := 3) (ci := 4) S (fun _ h => List.mem_cons_of_mem _ (List.mem_append_right _ (h))) hK hP 0 rfl rfl 1 (by decide) (List.mem_of_getElem? (i := 3) rfl) rfl dJx4a65c_add_9ea2d_13 ?_
  refine lv_aload_n hx hb dJx4a65c_add_9ea2d_16 rfl (lv_at hl 0 rfl) ?_
  refine nr_get (C := RJx4a65c) (T := TJx4a65c) (N := 3) (ci := 4) S (fun _ h => List.mem_cons_of_mem _ (List.mem_append_right _ (h))) hK hP 0 rfl rfl 2 (by decide) (List.mem_of_getElem? (i := 4) rfl) rfl dJx4a65c_add_9ea2d_17 ?_
  refine UC.callV (As := [.ref (v), .ref (ea), .int (nI (n))]) S (k_Jx4a65c_add_72be8_f l hP hD (fun q hq => hFr q (Nat.le_trans hS.1 hq)) hv hes hn) (cwV 3 hts gJx4a65c_add_9ea2d_Jx4a65c_add_72be8 rfl rfl rfl (by decide +kernel) ⟨Nat.le_of_ble_eq_true rfl, Nat.le_of_ble_eq_true rfl⟩) hK eT_bl (fun _ _ _ => trivial) hS (fun _ h => h) (va_recv hK.1 hP (ci := 4) (q0 := 0) rfl rfl) rfl hl.1 rfl (Nat.le_of_ble_eq_true rfl) dJx4a65c_add_9ea2d_20 ⟨(by show _ ≤ 1; omega), (by show _ ≤ 64; omega)⟩ (fun v H locs hB hS hsz hkp => ?_)
  obtain ⟨rfl, hB⟩ := hB
  obtain ⟨ea2, cap2, es2, hc2, he2, hv2, hP, hD⟩ := hB
  refine lv_iconst (v := (nI (1))) hx hb dJx4a65c_add_9ea2d_23 (by decide +kernel) ?_
  refine W.widen (k := 1) (n := 64) (by omega) (by omega) ?_
  exact hE _ _ _ _ _ dJx4a65c_add_9ea2d_24 (rfl) (rfl) (⟨ea2, cap2, es2, hc2, he2, hv2, hP, hD⟩) hS
set_option maxHeartbeats 4000000 in
set_option maxRecDepth 100000 in
theorem k_Jx4a65c_add_9ea2d_z (l : Launch) {D : va_G} {Y : Nat → ClassId} {H0 : Heap} {F : Nat → Prop} {la t0 : Nat} {mod : Int32} {w1 w2 : Nat × va_E} {tl : va_W} {v kv : Nat} {fsv : List Value} (hP : va_P D aCl ([(la, .inr (4, [.int (mod), .ref (t0), .int (nI (0))])), w1, w2] ++ tl) H0) (hD : va_D F ([(la, .inr (4, [.int (mod), .ref (t0), .int (nI (0))])), w1, w2] ++ tl)) (hFr : ∀ q, H0.size ≤ q → F q) (hv : tl[kv]? = some (v, .inr (1, fsv))) : UC l yJx4a65c_add_9ea2d wsJx4a65c_add_9ea2d 6 1 64 D Y (eZ t0 F) [.ref (la), .ref (v)] H0 F (bI_ (nI 1) (fun H => ∃ (ea2 cap2 : Nat) (es2 : Nat → Option Nat), (0 < cap2 ∧ cap2 < 2 ^ 30) ∧ (∀ j, j < 0 → es2 j = (fun _ => none) j) ∧ es2 (0) = some v ∧ va_P D aCl ([(la, .inr (4, [.int (mod + nI 1), .ref ea2, .int (nI (0 + 1))])), w1, w2, (ea2, .inl (Y 1, cap2, .inr (.inr (.inr (.inr es2)))))] ++ tl) H ∧ va_D F ([(la, .inr (4, [.int (mod + nI 1), .ref ea2, .int (nI (0 + 1))])), w1, w2, (ea2, .inl (Y 1, cap2, .inr (.inr (.inr (.inr es2)))))] ++ tl))) := by
  refine UCi.start (cc := cJx4a65c_add_9ea2d) (maxL := 2) (rt := .boolean) (by decide) rfl (Nat.le_of_ble_eq_true rfl) ?_
  intro p e s m args below meth c ls H locs Q S hK hH0 hE0 hHH hS hl hin hE
  rw [← hHH] at hP
  have S : CallFix p m c cJx4a65c_add_9ea2d 2 s args wsJx4a65c_add_9ea2d RJx4a65c := S
  have hx := S.1
  have hb := S.2.1
  have hts := S.2.2.2.2
  have hl : lv_has ls 2 [(0, .ref (la)), (1, .ref (v))] := hl
  subst hH0
  refine lv_aload_n hx hb dJx4a65c_add_9ea2d_0 rfl (lv_at hl 0 rfl) ?_
  refine lv_dup hx hb dJx4a65c_add_9ea2d_1 rfl ?_
  refine nr_getS (C := RJx4a65c) (T := TJx4a65c) (N := 3) (ci := 4) S (fun _ h => List.mem_cons_of_mem _ (List.mem_append_right _ (h))) hK hP 0 rfl rfl 0 (by decide) (List.mem_of_getElem? (i := 1) rfl) (List.mem_of_getElem? (i := 2) rfl) rfl dJx4a65c_add_9ea2d_2 ?_
  refine lv_iconst (v := (nI (1))) hx hb dJx4a65c_add_9ea2d_5 (by decide +kernel) ?_
  refine lv_iadd hx hb dJx4a65c_add_9ea2d_6 ?_
  refine nr_putS (C := RJx4a65c) (T := TJx4a65c) (N := 3) (ci := 4) (v := .int (((mod) + (nI (1))))) S (fun _ h => List.mem_cons_of_mem _ (List.mem_append_right _ (h))) tyJx4a65c tyJx4a65c_ok nmJx4a65c hK hP hD hS 0 rfl rfl 0 (by decide) (List.mem_of_getElem? (i := 1) rfl) (List.mem_of_getElem? (i := 2) rfl) rfl rfl rfl (Nat.le_of_ble_eq_true rfl) dJx4a65c_add_9ea2d_7 (fun H locs hP hD hS => ?_)
  have hP : va_P D aCl ([(la, .inr (4, [.int (((mod) + (nI (1)))), .ref (t0), .int (nI (0))])), w1, w2] ++ tl) H := hP
  have hD : va_D F ([(la, .inr (4, [.int (((mod) + (nI (1)))), .ref (t0), .int (nI (0))])), w1, w2] ++ tl) := hD
  refine lv_aload_n hx hb dJx4a65c_add_9ea2d_10 rfl (lv_at hl 0 rfl) ?_
  refine lv_aload_n hx hb dJx4a65c_add_9ea2d_11 rfl (lv_at hl 1 rfl) ?_
  refine lv_aload_n hx hb dJx4a65c_add_9ea2d_12 rfl (lv_at hl 0 rfl) ?_
  refine nr_get (C := RJx4a65c) (T := TJx4a65c) (N := 3) (ci := 4) S (fun _ h => List.mem_cons_of_mem _ (List.mem_append_right _ (h))) hK hP 0 rfl rfl 1 (by decide) (List.mem_of_getElem? (i := 3) rfl) rfl dJx4a65c_add_9ea2d_13 ?_
  refine lv_aload_n hx hb dJx4a65c_add_9ea2d_16 rfl (lv_at hl 0 rfl) ?_
  refine nr_get (C := RJx4a65c) (T := TJx4a65c) (N := 3) (ci := 4) S (fun _ h => List.mem_cons_of_mem _ (List.mem_append_right _ (h))) hK hP 0 rfl rfl 2 (by decide) (List.mem_of_getElem? (i := 4) rfl) rfl dJx4a65c_add_9ea2d_17 ?_
  refine UC.callV (As := [.ref (v), .ref (t0), .int (nI (0))]) S (k_Jx4a65c_add_72be8_z l hP hD (fun q hq => hFr q (Nat.le_trans hS.1 hq)) hv) (cwV 3 hts gJx4a65c_add_9ea2d_Jx4a65c_add_72be8 rfl rfl rfl (by decide +kernel) ⟨Nat.le_of_ble_eq_true rfl, Nat.le_of_ble_eq_true rfl⟩) hK eZ_bl (fun U hW hU => eZ_go hE0 hS hW hU) hS (fun _ h => h) (va_recv hK.1 hP (ci := 4) (q0 := 0) rfl rfl) rfl hl.1 rfl (Nat.le_of_ble_eq_true rfl) dJx4a65c_add_9ea2d_20 ⟨(by show _ ≤ 1; omega), (by show _ ≤ 64; omega)⟩ (fun v H locs hB hS hsz hkp => ?_)
  obtain ⟨rfl, hB⟩ := hB
  obtain ⟨ea2, cap2, es2, hc2, he2, hv2, hP, hD⟩ := hB
  refine lv_iconst (v := (nI (1))) hx hb dJx4a65c_add_9ea2d_23 (by decide +kernel) ?_
  refine W.widen (k := 1) (n := 64) (by omega) (by omega) ?_
  exact hE _ _ _ _ _ dJx4a65c_add_9ea2d_24 (rfl) (rfl) (⟨ea2, cap2, es2, hc2, he2, hv2, hP, hD⟩) hS
