/-! ArrayList's members that change it, over any world that holds it -/
theorem cpy_in {α : Type} {f g : Nat → α} {sp dp n j : Nat} (h : dp ≤ j) (h2 : j < dp + n) : va_cpy f g sp dp n j = f (sp + (j - dp)) := pk_cpy_in h h2
theorem up_same {α : Type} {f : Nat → α} {k : Nat} {x : α} : va_up f k x k = x := by unfold va_up; rw [if_pos rfl]
theorem up_ne {α : Type} {f : Nat → α} {k j : Nat} {x : α} (h : j ≠ k) : va_up f k x j = f j := by unfold va_up; rw [if_neg h]
set_option maxHeartbeats 4000000 in
set_option maxRecDepth 100000 in
theorem k_Jx4a65c_fastRemove_b59b0 (l : Launch) {D : va_G} {Y : Nat → ClassId} {H0 : Heap} {F : Nat → Prop} {la ea n cap : Nat} {mod : Int32} {es : Nat → Option Nat} {w1 w2 : Nat × va_E} {tl : va_W} {i : Nat} (hP : va_P D aCl ([(la, .inr (4, [.int (mod), .ref (ea), .int (nI (n))])), w1, w2, (ea, .inl (Y 1, cap, .inr (.inr (.inr (.inr es)))))] ++ tl) H0) (hD : va_D F ([(la, .inr (4, [.int (mod), .ref (ea), .int (nI (n))])), w1, w2, (ea, .inl (Y 1, cap, .inr (.inr (.inr (.inr es)))))] ++ tl)) (hes : ∀ j, j < n → ∃ (y k : Nat) (fs : List Value), es j = some y ∧ tl[k]? = some (y, .inr (1, fs))) (hnc : n ≤ cap) (hcap : cap < 2 ^ 30) (hi : i < n) : UC l yJx4a65c_fastRemove_b59b0 wsJx4a65c_fastRemove_b59b0 2 0 0 D Y (eT) [.ref (la), .ref (ea), .int (nI (i))] H0 F (bV_ (fun H => ∃ (es2 : Nat → Option Nat), (∀ j, j < n - 1 → es2 j = es (if j < i then j else j + 1)) ∧ va_P D aCl ([(la, .inr (4, [.int (mod + nI 1), .ref (ea), .int (nI (n - 1))])), w1, w2, (ea, .inl (Y 1, cap, .inr (.inr (.inr (.inr es2)))))] ++ tl) H)) := by
  refine UCv.start (cc := cJx4a65c_fastRemove_b59b0) (maxL := 4) (by decide) rfl (Nat.le_of_ble_eq_true rfl) ?_
  intro p e s m args below meth c ls H locs Q S hK hH0 hE0 hHH hS hl hin hE
  rw [← hHH] at hP
  have S : CallFix p m c cJx4a65c_fastRemove_b59b0 4 s args wsJx4a65c_fastRemove_b59b0 RJx4a65c := S
  have hx := S.1
  have hb := S.2.1
  have hts := S.2.2.2.2
  have hl : lv_has ls 4 [(0, .ref (la)), (1, .ref (ea)), (2, .int (nI (i)))] := hl
  refine lv_aload_n hx hb dJx4a65c_fastRemove_b59b0_0 rfl (lv_at hl 0 rfl) ?_
  refine lv_dup hx hb dJx4a65c_fastRemove_b59b0_1 rfl ?_
  refine nr_getS (C := RJx4a65c) (T := TJx4a65c) (N := 3) (ci := 4) S (fun _ h => List.mem_cons_of_mem _ (List.mem_append_right _ (h))) hK hP 0 rfl rfl 0 (by decide) (List.mem_of_getElem? (i := 1) rfl) (List.mem_of_getElem? (i := 2) rfl) rfl dJx4a65c_fastRemove_b59b0_2 ?_
  refine lv_iconst (v := (nI (1))) hx hb dJx4a65c_fastRemove_b59b0_5 (by decide +kernel) ?_
  refine lv_iadd hx hb dJx4a65c_fastRemove_b59b0_6 ?_
  refine nr_putS (C := RJx4a65c) (T := TJx4a65c) (N := 3) (ci := 4) (v := .int (((mod) + (nI (1))))) S (fun _ h => List.mem_cons_of_mem _ (List.mem_append_right _ (h))) tyJx4a65c tyJx4a65c_ok nmJx4a65c hK hP hD hS 0 rfl rfl 0 (by decide) (List.mem_of_getElem? (i := 1) rfl) (List.mem_of_getElem? (i := 2) rfl) rfl rfl rfl (Nat.le_of_ble_eq_true rfl) dJx4a65c_fastRemove_b59b0_7 (fun H locs hP hD hS => ?_)
  have hP : va_P D aCl ([(la, .inr (4, [.int (((mod) + (nI (1)))), .ref (ea), .int (nI (n))])), w1, w2, (ea, .inl (Y 1, cap, .inr (.inr (.inr (.inr es)))))] ++ tl) H := hP
  have hD : va_D F ([(la, .inr (4, [.int (((mod) + (nI (1)))), .ref (ea), .int (nI (n))])), w1, w2, (ea, .inl (Y 1, cap, .inr (.inr (.inr (.inr es)))))] ++ tl) := hD
  refine lv_aload_n hx hb dJx4a65c_fastRemove_b59b0_10 rfl (lv_at hl 0 rfl) ?_
  refine nr_get (C := RJx4a65c) (T := TJx4a65c) (N := 3) (ci := 4) S (fun _ h => List.mem_cons_of_mem _ (List.mem_append_right _ (h))) hK hP 0 rfl rfl 2 (by decide) (List.mem_of_getElem? (i := 3) rfl) rfl dJx4a65c_fastRemove_b59b0_11 ?_
  refine lv_iconst (v := (nI (1))) hx hb dJx4a65c_fastRemove_b59b0_14 (by decide +kernel) ?_
  refine nr_isub hx hb (by omega) dJx4a65c_fastRemove_b59b0_15 ?_
  refine lv_dup hx hb dJx4a65c_fastRemove_b59b0_16 rfl ?_
  refine lv_istore_n (lv' := [(3, .int (nI (n - 1))), (0, .ref (la)), (1, .ref (ea)), (2, .int (nI (i)))]) hx hb dJx4a65c_fastRemove_b59b0_17 rfl hl (by decide) rfl (fun ls hl => ?_)
  refine lv_iload_n hx hb dJx4a65c_fastRemove_b59b0_18 rfl (lv_at hl 3 rfl) ?_
  refine nr_icmp_le (tgt := 34) hx hb (by omega) (by omega) dJx4a65c_fastRemove_b59b0_19 (by decide) (fun c_19 => ?_) (fun c_19 => ?_)
  · refine lv_aload_n hx hb dJx4a65c_fastRemove_b59b0_34 rfl (lv_at hl 2 rfl) ?_
    refine lv_aload_n hx hb dJx4a65c_fastRemove_b59b0_35 rfl (lv_at hl 1 rfl) ?_
    refine lv_iload_n hx hb dJx4a65c_fastRemove_b59b0_36 rfl (lv_at hl 0 rfl) ?_
    refine lv_dup_x1 hx hb dJx4a65c_fastRemove_b59b0_37 rfl rfl ?_
    refine nr_put (C := RJx4a65c) (T := TJx4a65c) (N := 3) (ci := 4) (v := .int (nI (n - 1))) S (fun _ h => List.mem_cons_of_mem _ (List.mem_append_right _ (h))) tyJx4a65c tyJx4a65c_ok nmJx4a65c hK hP hD hS 0 rfl rfl 2 (by decide) (List.mem_of_getElem? (i := 3) rfl) rfl rfl rfl (Nat.le_of_ble_eq_true rfl) dJx4a65c_fastRemove_b59b0_38 (fun H locs hP hD hS => ?_)
    have hP : va_P D aCl ([(la, .inr (4, [.int (((mod) + (nI (1)))), .ref (ea), .int (nI (n - 1))])), w1, w2, (ea, .inl (Y 1, cap, .inr (.inr (.inr (.inr es)))))] ++ tl) H := hP
    have hD : va_D F ([(la, .inr (4, [.int (((mod) + (nI (1)))), .ref (ea), .int (nI (n - 1))])), w1, w2, (ea, .inl (Y 1, cap, .inr (.inr (.inr (.inr es)))))] ++ tl) := hD
    refine lv_null hx hb dJx4a65c_fastRemove_b59b0_41 ?_
    refine nr_aastN (n := cap) (f := es) S hK hP hD hS 3 rfl (by omega) (by omega) dJx4a65c_fastRemove_b59b0_42 (fun H locs hP hD hS => ?_)
    have hP : va_P D aCl ([(la, .inr (4, [.int (((mod) + (nI (1)))), .ref (ea), .int (nI (n - 1))])), w1, w2, (ea, .inl (Y 1, cap, .inr (.inr (.inr (.inr (va_up es (n - 1) none))))))] ++ tl) H := hP
    have hD : va_D F ([(la, .inr (4, [.int (((mod) + (nI (1)))), .ref (ea), .int (nI (n - 1))])), w1, w2, (ea, .inl (Y 1, cap, .inr (.inr (.inr (.inr (va_up es (n - 1) none))))))] ++ tl) := hD
    refine W.widen (k := 0) (n := 0) (by omega) (by omega) ?_
    exact hE _ _ _ _ dJx4a65c_fastRemove_b59b0_43 (⟨_, fun j hj => (up_ne (by omega)).trans (by first | (by_cases h9 : j < i; (rw [if_pos h9, pk_cpy_out (Or.inl h9)]); (rw [if_neg h9, cpy_in (by omega) (by omega), show i + 1 + (j - i) = j + 1 from by omega])) | (rw [if_pos (show j < i by omega)])), hP⟩) hS
  · refine lv_aload_n hx hb dJx4a65c_fastRemove_b59b0_22 rfl (lv_at hl 2 rfl) ?_
    refine lv_iload_n hx hb dJx4a65c_fastRemove_b59b0_23 rfl (lv_at hl 3 rfl) ?_
    refine lv_iconst (v := (nI (1))) hx hb dJx4a65c_fastRemove_b59b0_24 (by decide +kernel) ?_
    refine nr_iadd hx hb dJx4a65c_fastRemove_b59b0_25 ?_
    refine lv_aload_n hx hb dJx4a65c_fastRemove_b59b0_26 rfl (lv_at hl 2 rfl) ?_
    refine lv_iload_n hx hb dJx4a65c_fastRemove_b59b0_27 rfl (lv_at hl 3 rfl) ?_
    refine lv_iload_n hx hb dJx4a65c_fastRemove_b59b0_28 rfl (lv_at hl 0 rfl) ?_
    refine lv_iload_n hx hb dJx4a65c_fastRemove_b59b0_29 rfl (lv_at hl 3 rfl) ?_
    refine nr_isub hx hb (by omega) dJx4a65c_fastRemove_b59b0_30 ?_
    refine nr_copy (n0 := cap) (n1 := cap) (f := es) (g := es) (sp := i + 1) (dp := i) (k := (n - 1) - i) S hl.1 (fun w hw => by simp only [List.mem_cons, List.mem_nil_iff, or_false] at hw; rcases hw with rfl | rfl | rfl | rfl; exact List.mem_of_getElem? (i := 4) rfl; exact List.mem_of_getElem? (i := 5) rfl; exact List.mem_of_getElem? (i := 6) rfl; exact List.mem_of_getElem? (i := 7) rfl) hK hP hD hS 3 3 rfl rfl (by omega) (by omega) (by omega) (fun iz hiz y hy => by obtain ⟨y2, k2, fs2, h1, h2⟩ := hes ((i + 1) + iz) (by omega); rw [h1] at hy; obtain rfl := Option.some.inj hy; exact va_recv hK.1 hP (ci := 1) (q0 := k2 + 4) rfl h2) (Nat.le_of_ble_eq_true rfl) (Nat.le_of_ble_eq_true rfl) dJx4a65c_fastRemove_b59b0_31 (fun H locs hP hD hS => ?_)
    have hP : va_P D aCl ([(la, .inr (4, [.int (((mod) + (nI (1)))), .ref (ea), .int (nI (n))])), w1, w2, (ea, .inl (Y 1, cap, .inr (.inr (.inr (.inr (va_cpy es es (i + 1) (i) ((n - 1) - i)))))))] ++ tl) H := hP
    have hD : va_D F ([(la, .inr (4, [.int (((mod) + (nI (1)))), .ref (ea), .int (nI (n))])), w1, w2, (ea, .inl (Y 1, cap, .inr (.inr (.inr (.inr (va_cpy es es (i + 1) (i) ((n - 1) - i)))))))] ++ tl) := hD
    refine lv_aload_n hx hb dJx4a65c_fastRemove_b59b0_34 rfl (lv_at hl 2 rfl) ?_
    refine lv_aload_n hx hb dJx4a65c_fastRemove_b59b0_35 rfl (lv_at hl 1 rfl) ?_
    refine lv_iload_n hx hb dJx4a65c_fastRemove_b59b0_36 rfl (lv_at hl 0 rfl) ?_
    refine lv_dup_x1 hx hb dJx4a65c_fastRemove_b59b0_37 rfl rfl ?_
    refine nr_put (C := RJx4a65c) (T := TJx4a65c) (N := 3) (ci := 4) (v := .int (nI (n - 1))) S (fun _ h => List.mem_cons_of_mem _ (List.mem_append_right _ (h))) tyJx4a65c tyJx4a65c_ok nmJx4a65c hK hP hD hS 0 rfl rfl 2 (by decide) (List.mem_of_getElem? (i := 3) rfl) rfl rfl rfl (Nat.le_of_ble_eq_true rfl) dJx4a65c_fastRemove_b59b0_38 (fun H locs hP hD hS => ?_)
    have hP : va_P D aCl ([(la, .inr (4, [.int (((mod) + (nI (1)))), .ref (ea), .int (nI (n - 1))])), w1, w2, (ea, .inl (Y 1, cap, .inr (.inr (.inr (.inr (va_cpy es es (i + 1) (i) ((n - 1) - i)))))))] ++ tl) H := hP
    have hD : va_D F ([(la, .inr (4, [.int (((mod) + (nI (1)))), .ref (ea), .int (nI (n - 1))])), w1, w2, (ea, .inl (Y 1, cap, .inr (.inr (.inr (.inr (va_cpy es es (i + 1) (i) ((n - 1) - i)))))))] ++ tl) := hD
    refine lv_null hx hb dJx4a65c_fastRemove_b59b0_41 ?_
    refine nr_aastN (n := cap) (f := (va_cpy es es (i + 1) (i) ((n - 1) - i))) S hK hP hD hS 3 rfl (by omega) (by omega) dJx4a65c_fastRemove_b59b0_42 (fun H locs hP hD hS => ?_)
    have hP : va_P D aCl ([(la, .inr (4, [.int (((mod) + (nI (1)))), .ref (ea), .int (nI (n - 1))])), w1, w2, (ea, .inl (Y 1, cap, .inr (.inr (.inr (.inr (va_up (va_cpy es es (i + 1) (i) ((n - 1) - i)) (n - 1) none))))))] ++ tl) H := hP
    have hD : va_D F ([(la, .inr (4, [.int (((mod) + (nI (1)))), .ref (ea), .int (nI (n - 1))])), w1, w2, (ea, .inl (Y 1, cap, .inr (.inr (.inr (.inr (va_up (va_cpy es es (i + 1) (i) ((n - 1) - i)) (n - 1) none))))))] ++ tl) := hD
    refine W.widen (k := 0) (n := 0) (by omega) (by omega) ?_
    exact hE _ _ _ _ dJx4a65c_fastRemove_b59b0_43 (⟨_, fun j hj => (up_ne (by omega)).trans (by first | (by_cases h9 : j < i; (rw [if_pos h9, pk_cpy_out (Or.inl h9)]); (rw [if_neg h9, cpy_in (by omega) (by omega), show i + 1 + (j - i) = j + 1 from by omega])) | (rw [if_pos (show j < i by omega)])), hP⟩) hS
set_option maxHeartbeats 4000000 in
set_option maxRecDepth 100000 in
theorem k_Jx4a65c_remove_915e3 (l : Launch) {D : va_G} {Y : Nat → ClassId} {H0 : Heap} {F : Nat → Prop} {la ea n cap : Nat} {mod : Int32} {es : Nat → Option Nat} {w1 w2 : Nat × va_E} {tl : va_W} {i a0 : Nat} (hP : va_P D aCl ([(la, .inr (4, [.int (mod), .ref (ea), .int (nI (n))])), w1, w2, (ea, .inl (Y 1, cap, .inr (.inr (.inr (.inr es)))))] ++ tl) H0) (hD : va_D F ([(la, .inr (4, [.int (mod), .ref (ea), .int (nI (n))])), w1, w2, (ea, .inl (Y 1, cap, .inr (.inr (.inr (.inr es)))))] ++ tl)) (hes : ∀ j, j < n → ∃ (y k : Nat) (fs : List Value), es j = some y ∧ tl[k]? = some (y, .inr (1, fs))) (hnc : n ≤ cap) (hcap : cap < 2 ^ 30) (hi : i < n) (ha0 : es i = some a0) : UC l yJx4a65c_remove_915e3 wsJx4a65c_remove_915e3 3 0 0 D Y (eT) [.ref (la), .int (nI (i))] H0 F (bA_ (fun a H => a = a0 ∧ (fun H => ∃ (es2 : Nat → Option Nat), (∀ j, j < n - 1 → es2 j = es (if j < i then j else j + 1)) ∧ va_P D aCl ([(la, .inr (4, [.int (mod + nI 1), .ref (ea), .int (nI (n - 1))])), w1, w2, (ea, .inl (Y 1, cap, .inr (.inr (.inr (.inr es2)))))] ++ tl) H) H)) := by
  refine UCa.start (cc := cJx4a65c_remove_915e3) (maxL := 4) (rt := (.object "java/lang/Object")) (by decide) rfl (Nat.le_of_ble_eq_true rfl) (by first | exact Or.inl ⟨_, rfl⟩ | exact Or.inr ⟨_, rfl⟩) ?_
  intro p e s m args below meth c ls H locs Q S hK hH0 hE0 hHH hS hl hin hE
  rw [← hHH] at hP
  have S : CallFix p m c cJx4a65c_remove_915e3 4 s args wsJx4a65c_remove_915e3 RJx4a65c := S
  have hx := S.1
  have hb := S.2.1
  have hts := S.2.2.2.2
  have hl : lv_has ls 4 [(0, .ref (la)), (1, .int (nI (i)))] := hl
  refine lv_iload_n hx hb dJx4a65c_remove_915e3_0 rfl (lv_at hl 1 rfl) ?_
  refine lv_aload_n hx hb dJx4a65c_remove_915e3_1 rfl (lv_at hl 0 rfl) ?_
  refine nr_get (C := RJx4a65c) (T := TJx4a65c) (N := 3) (ci := 4) S (fun _ h => List.mem_cons_of_mem _ (List.mem_append_right _ (h))) hK hP 0 rfl rfl 2 (by decide) (List.mem_of_getElem? (i := 1) rfl) rfl dJx4a65c_remove_915e3_2 ?_
  refine Rd.callS (r := (nI (i))) (As := [.int (nI (i)), .int (nI (n))]) S (k_J15_checkIndex_7cf53 l (by omega) (by omega)) (va_cwS 2 hts gJx4a65c_remove_915e3_J15_checkIndex_7cf53 rfl rfl rfl (by decide +kernel) ⟨Nat.le_of_ble_eq_true rfl, Nat.le_of_ble_eq_true rfl⟩) hK rfl hl.1 rfl (Nat.le_of_ble_eq_true rfl) dJx4a65c_remove_915e3_5 ⟨Nat.le_of_ble_eq_true rfl, Nat.le_of_ble_eq_true rfl⟩ ?_
  refine lv_pop hx hb dJx4a65c_remove_915e3_8 rfl ?_
  refine lv_aload_n hx hb dJx4a65c_remove_915e3_9 rfl (lv_at hl 0 rfl) ?_
  refine nr_get (C := RJx4a65c) (T := TJx4a65c) (N := 3) (ci := 4) S (fun _ h => List.mem_cons_of_mem _ (List.mem_append_right _ (h))) hK hP 0 rfl rfl 1 (by decide) (List.mem_of_getElem? (i := 2) rfl) rfl dJx4a65c_remove_915e3_10 ?_
  refine lv_astore_n (lv' := [(2, .ref (ea)), (0, .ref (la)), (1, .int (nI (i)))]) hx hb dJx4a65c_remove_915e3_13 rfl hl (by decide) rfl (fun ls hl => ?_)
  refine lv_aload_n hx hb dJx4a65c_remove_915e3_14 rfl (lv_at hl 0 rfl) ?_
  refine lv_iload_n hx hb dJx4a65c_remove_915e3_15 rfl (lv_at hl 2 rfl) ?_
  refine nr_aald (n := cap) (f := es) (v := a0) S hK hP 3 rfl (by omega) (by omega) (ha0) dJx4a65c_remove_915e3_16 ?_
  refine lv_astore_n (lv' := [(3, .ref (a0)), (2, .ref (ea)), (0, .ref (la)), (1, .int (nI (i)))]) hx hb dJx4a65c_remove_915e3_17 rfl hl (by decide) rfl (fun ls hl => ?_)
  refine lv_aload_n hx hb dJx4a65c_remove_915e3_18 rfl (lv_at hl 2 rfl) ?_
  refine lv_aload_n hx hb dJx4a65c_remove_915e3_19 rfl (lv_at hl 1 rfl) ?_
  refine lv_iload_n hx hb dJx4a65c_remove_915e3_20 rfl (lv_at hl 3 rfl) ?_
  refine UC.callV (As := [.ref (ea), .int (nI (i))]) S (k_Jx4a65c_fastRemove_b59b0 l hP hD hes hnc hcap hi) (cwV 2 hts gJx4a65c_remove_915e3_Jx4a65c_fastRemove_b59b0 rfl rfl rfl (by decide +kernel) ⟨Nat.le_of_ble_eq_true rfl, Nat.le_of_ble_eq_true rfl⟩) hK eT_bl (fun _ _ _ => trivial) hS (fun _ h => h) (va_recv hK.1 hP (ci := 4) (q0 := 0) rfl rfl) rfl hl.1 rfl (Nat.le_of_ble_eq_true rfl) dJx4a65c_remove_915e3_21 ⟨Nat.le_of_ble_eq_true rfl, Nat.le_of_ble_eq_true rfl⟩ (fun v H locs hB hS hsz hkp => ?_)
  obtain ⟨rfl, hB⟩ := hB
  obtain ⟨es2, hes2, hP⟩ := hB
  have hD : va_D F ([(la, .inr (4, [.int (mod + nI 1), .ref (ea), .int (nI (n - 1))])), w1, w2, (ea, .inl (Y 1, cap, .inr (.inr (.inr (.inr es2)))))] ++ tl) := va_D.same hD rfl
  refine lv_aload_n hx hb dJx4a65c_remove_915e3_24 rfl (lv_at hl 0 rfl) ?_
  refine W.widen (k := 0) (n := 0) (by omega) (by omega) ?_
  exact hE _ _ _ _ _ dJx4a65c_remove_915e3_25 (⟨rfl, es2, hes2, hP⟩) hS
set_option maxHeartbeats 4000000 in
set_option maxRecDepth 100000 in
theorem k_Jx4a65c_set_bcc79 (l : Launch) {D : va_G} {Y : Nat → ClassId} {H0 : Heap} {F : Nat → Prop} {la ea n cap : Nat} {mod : Int32} {es : Nat → Option Nat} {w1 w2 : Nat × va_E} {tl : va_W} {i a0 : Nat} (hP : va_P D aCl ([(la, .inr (4, [.int (mod), .ref (ea), .int (nI (n))])), w1, w2, (ea, .inl (Y 1, cap, .inr (.inr (.inr (.inr es)))))] ++ tl) H0) (hD : va_D F ([(la, .inr (4, [.int (mod), .ref (ea), .int (nI (n))])), w1, w2, (ea, .inl (Y 1, cap, .inr (.inr (.inr (.inr es)))))] ++ tl)) (hes : ∀ j, j < n → ∃ (y k : Nat) (fs : List Value), es j = some y ∧ tl[k]? = some (y, .inr (1, fs))) (hnc : n ≤ cap) (hcap : cap < 2 ^ 30) (hi : i < n) (ha0 : es i = some a0) {v kv : Nat} {fsv : List Value} (hv : tl[kv]? = some (v, .inr (1, fsv))) : UC l yJx4a65c_set_bcc79 wsJx4a65c_set_bcc79 2 0 0 D Y (eT) [.ref (la), .int (nI (i)), .ref (v)] H0 F (bA_ (fun _ H => va_P D aCl ([(la, .inr (4, [.int (mod), .ref (ea), .int (nI (n))])), w1, w2, (ea, .inl (Y 1, cap, .inr (.inr (.inr (.inr (va_up es i (some v)))))))] ++ tl) H)) := by
  refine UCa.start (cc := cJx4a65c_set_bcc79) (maxL := 4) (rt := (.object "java/lang/Object")) (by decide) rfl (Nat.le_of_ble_eq_true rfl) (by first | exact Or.inl ⟨_, rfl⟩ | exact Or.inr ⟨_, rfl⟩) ?_
  intro p e s m args below meth c ls H locs Q S hK hH0 hE0 hHH hS hl hin hE
  rw [← hHH] at hP
  have S : CallFix p m c cJx4a65c_set_bcc79 4 s args wsJx4a65c_set_bcc79 RJx4a65c := S
  have hx := S.1
  have hb := S.2.1
  have hts := S.2.2.2.2
  have hl : lv_has ls 4 [(0, .ref (la)), (1, .int (nI (i))), (2, .ref (v))] := hl
  refine lv_iload_n hx hb dJx4a65c_set_bcc79_0 rfl (lv_at hl 1 rfl) ?_
  refine lv_aload_n hx hb dJx4a65c_set_bcc79_1 rfl (lv_at hl 0 rfl) ?_
  refine nr_get (C := RJx4a65c) (T := TJx4a65c) (N := 3) (ci := 4) S (fun _ h => List.mem_cons_of_mem _ (List.mem_append_right _ (h))) hK hP 0 rfl rfl 2 (by decide) (List.mem_of_getElem? (i := 1) rfl) rfl dJx4a65c_set_bcc79_2 ?_
  refine Rd.callS (r := (nI (i))) (As := [.int (nI (i)), .int (nI (n))]) S (k_J15_checkIndex_7cf53 l (by omega) (by omega)) (va_cwS 2 hts gJx4a65c_set_bcc79_J15_checkIndex_7cf53 rfl rfl rfl (by decide +kernel) ⟨Nat.le_of_ble_eq_true rfl, Nat.le_of_ble_eq_true rfl⟩) hK rfl hl.1 rfl (Nat.le_of_ble_eq_true rfl) dJx4a65c_set_bcc79_5 ⟨Nat.le_of_ble_eq_true rfl, Nat.le_of_ble_eq_true rfl⟩ ?_
  refine lv_pop hx hb dJx4a65c_set_bcc79_8 rfl ?_
  refine lv_aload_n hx hb dJx4a65c_set_bcc79_9 rfl (lv_at hl 0 rfl) ?_
  refine lv_iload_n hx hb dJx4a65c_set_bcc79_10 rfl (lv_at hl 1 rfl) ?_
  refine RdA.callV (x := a0) (As := [.int (nI (i))]) S (k_Jx4a65c_elementData_915e3 l (hP.sub [0] rfl) (hP.sub [3] rfl) (by omega) (by omega) ha0) (cwV 1 hts gJx4a65c_set_bcc79_Jx4a65c_elementData_915e3 rfl rfl rfl (by decide +kernel) ⟨Nat.le_of_ble_eq_true rfl, Nat.le_of_ble_eq_true rfl⟩) hK (va_recv hK.1 hP (ci := 4) (q0 := 0) rfl rfl) rfl hl.1 rfl (Nat.le_of_ble_eq_true rfl) dJx4a65c_set_bcc79_11 ⟨Nat.le_of_ble_eq_true rfl, Nat.le_of_ble_eq_true rfl⟩ ?_
  refine lv_astore_n (lv' := [(3, .ref (a0)), (0, .ref (la)), (1, .int (nI (i))), (2, .ref (v))]) hx hb dJx4a65c_set_bcc79_14 rfl hl (by decide) rfl (fun ls hl => ?_)
  refine lv_aload_n hx hb dJx4a65c_set_bcc79_15 rfl (lv_at hl 1 rfl) ?_
  refine nr_get (C := RJx4a65c) (T := TJx4a65c) (N := 3) (ci := 4) S (fun _ h => List.mem_cons_of_mem _ (List.mem_append_right _ (h))) hK hP 0 rfl rfl 1 (by decide) (List.mem_of_getElem? (i := 2) rfl) rfl dJx4a65c_set_bcc79_16 ?_
  refine lv_iload_n hx hb dJx4a65c_set_bcc79_19 rfl (lv_at hl 2 rfl) ?_
  refine lv_aload_n hx hb dJx4a65c_set_bcc79_20 rfl (lv_at hl 3 rfl) ?_
  refine nr_aast (n := cap) (f := es) (v := v) S hK hP hD hS 3 rfl (va_recv hK.1 hP (ci := 1) (q0 := kv + 4) rfl hv) (by omega) (by omega) dJx4a65c_set_bcc79_21 (fun H locs hP hD hS => ?_)
  have hP : va_P D aCl ([(la, .inr (4, [.int (mod), .ref (ea), .int (nI (n))])), w1, w2, (ea, .inl (Y 1, cap, .inr (.inr (.inr (.inr (va_up es (i) (some (v))))))))] ++ tl) H := hP
  have hD : va_D F ([(la, .inr (4, [.int (mod), .ref (ea), .int (nI (n))])), w1, w2, (ea, .inl (Y 1, cap, .inr (.inr (.inr (.inr (va_up es (i) (some (v))))))))] ++ tl) := hD
  refine lv_aload_n hx hb dJx4a65c_set_bcc79_22 rfl (lv_at hl 0 rfl) ?_
  refine W.widen (k := 0) (n := 0) (by omega) (by omega) ?_
  exact hE _ _ _ _ _ dJx4a65c_set_bcc79_23 (hP) hS
set_option maxHeartbeats 4000000 in
set_option maxRecDepth 100000 in
theorem k_Jx4a65c_rangeCheckForAdd_d00df (l : Launch) {D : va_G} {Y : Nat → ClassId} {H : Heap} {la ea n : Nat} {mod : Int32} {i : Nat}  (hL : va_P D aCl [(la, .inr (4, [.int mod, .ref ea, .int (nI n)]))] H) (hi : i ≤ n) (hn : n < 2 ^ 31) : RdO l yJx4a65c_rangeCheckForAdd_d00df wsJx4a65c_rangeCheckForAdd_d00df 0 D Y [.ref (la), .int (nI (i))] H (none) := by
  refine RdU.start (cc := cJx4a65c_rangeCheckForAdd_d00df) (maxL := 2) (by decide) rfl (Nat.le_of_ble_eq_true rfl) ?_
  intro p e s m args below meth c ls Q S hK hl hE
  have S : CallFix p m c cJx4a65c_rangeCheckForAdd_d00df 2 s args wsJx4a65c_rangeCheckForAdd_d00df RJx4a65c := S
  have hx := S.1
  have hb := S.2.1
  have hts := S.2.2.2.2
  have hl : lv_has ls 2 [(0, .ref (la)), (1, .int (nI (i)))] := hl
  refine lv_iload_n hx hb dJx4a65c_rangeCheckForAdd_d00df_0 rfl (lv_at hl 1 rfl) ?_
  refine lv_aload_n hx hb dJx4a65c_rangeCheckForAdd_d00df_1 rfl (lv_at hl 0 rfl) ?_
  refine nr_get (C := RJx4a65c) (T := TJx4a65c) (N := 3) (ci := 4) S (fun _ h => List.mem_cons_of_mem _ (List.mem_append_right _ (h))) hK hL 0 rfl rfl 2 (by decide) (List.mem_of_getElem? (i := 1) rfl) rfl dJx4a65c_rangeCheckForAdd_d00df_2 ?_
  refine nr_icmp_gt (tgt := 12) hx hb (by omega) (by omega) dJx4a65c_rangeCheckForAdd_d00df_5 (by decide) (fun c_5 => absurd c_5 (by omega)) (fun c_5 => ?_)
  refine lv_iload_n hx hb dJx4a65c_rangeCheckForAdd_d00df_8 rfl (lv_at hl 1 rfl) ?_
  refine lv_if_ge (tgt := 25) hx hb dJx4a65c_rangeCheckForAdd_d00df_9 (by decide) (fun c_9 => ?_) (fun c_9 => absurd c_9 (fun q => q (nI_pos' (by omega))))
  exact hE _ _ dJx4a65c_rangeCheckForAdd_d00df_25
set_option maxHeartbeats 4000000 in
set_option maxRecDepth 100000 in
theorem k_Jx4a65c_add_7a177 (l : Launch) {D : va_G} {Y : Nat → ClassId} {H0 : Heap} {F : Nat → Prop} {la ea n cap : Nat} {mod : Int32} {es : Nat → Option Nat} {w1 w2 : Nat × va_E} {tl : va_W} {i : Nat} (hP : va_P D aCl ([(la, .inr (4, [.int (mod), .ref (ea), .int (nI (n))])), w1, w2, (ea, .inl (Y 1, cap, .inr (.inr (.inr (.inr es)))))] ++ tl) H0) (hD : va_D F ([(la, .inr (4, [.int (mod), .ref (ea), .int (nI (n))])), w1, w2, (ea, .inl (Y 1, cap, .inr (.inr (.inr (.inr es)))))] ++ tl)) (hes : ∀ j, j < n → ∃ (y k : Nat) (fs : List Value), es j = some y ∧ tl[k]? = some (y, .inr (1, fs))) (hnc : n ≤ cap) (hcap : cap < 2 ^ 30) (hi : i ≤ n) (hroom : n < cap) {v kv : Nat} {fsv : List Value} (hv : tl[kv]? = some (v, .inr (1, fsv))) : UC l yJx4a65c_add_7a177 wsJx4a65c_add_7a177 2 0 0 D Y (eT) [.ref (la), .int (nI (i)), .ref (v)] H0 F (bV_ (fun H => ∃ (es2 : Nat → Option Nat), (∀ j, j < n + 1 → es2 j = if j < i then es j else if j = i then some v else es (j - 1)) ∧ va_P D aCl ([(la, .inr (4, [.int (mod + nI 1), .ref (ea), .int (nI (n + 1))])), w1, w2, (ea, .inl (Y 1, cap, .inr (.inr (.inr (.inr es2)))))] ++ tl) H)) := by
  refine UCv.start (cc := cJx4a65c_add_7a177) (maxL := 5) (by decide) rfl (Nat.le_of_ble_eq_true rfl) ?_
  intro p e s m args below meth c ls H locs Q S hK hH0 hE0 hHH hS hl hin hE
  rw [← hHH] at hP
  have S : CallFix p m c cJx4a65c_add_7a177 5 s args wsJx4a65c_add_7a177 RJx4a65c := S
  have hx := S.1
  have hb := S.2.1
  have hts := S.2.2.2.2
  have hl : lv_has ls 5 [(0, .ref (la)), (1, .int (nI (i))), (2, .ref (v))] := hl
  refine lv_aload_n hx hb dJx4a65c_add_7a177_0 rfl (lv_at hl 0 rfl) ?_
  refine lv_iload_n hx hb dJx4a65c_add_7a177_1 rfl (lv_at hl 1 rfl) ?_
  refine RdU.callV (As := [.int (nI (i))]) S (k_Jx4a65c_rangeCheckForAdd_d00df l (hP.sub [0] rfl) (by omega) (by omega)) (cwV 1 hts gJx4a65c_add_7a177_Jx4a65c_rangeCheckForAdd_d00df rfl rfl rfl (by decide +kernel) ⟨Nat.le_of_ble_eq_true rfl, Nat.le_of_ble_eq_true rfl⟩) hK (va_recv hK.1 hP (ci := 4) (q0 := 0) rfl rfl) rfl hl.1 rfl (Nat.le_of_ble_eq_true rfl) dJx4a65c_add_7a177_2 ⟨Nat.le_of_ble_eq_true rfl, Nat.le_of_ble_eq_true rfl⟩ ?_
  refine lv_aload_n hx hb dJx4a65c_add_7a177_5 rfl (lv_at hl 0 rfl) ?_
  refine lv_dup hx hb dJx4a65c_add_7a177_6 rfl ?_
  refine nr_getS (C := RJx4a65c) (T := TJx4a65c) (N := 3) (ci := 4) S (fun _ h => List.mem_cons_of_mem _ (List.mem_append_right _ (h))) hK hP 0 rfl rfl 0 (by decide) (List.mem_of_getElem? (i := 1) rfl) (List.mem_of_getElem? (i := 2) rfl) rfl dJx4a65c_add_7a177_7 ?_
  refine lv_iconst (v := (nI (1))) hx hb dJx4a65c_add_7a177_10 (by decide +kernel) ?_
  refine lv_iadd hx hb dJx4a65c_add_7a177_11 ?_
  refine nr_putS (C := RJx4a65c) (T := TJx4a65c) (N := 3) (ci := 4) (v := .int (((mod) + (nI (1))))) S (fun _ h => List.mem_cons_of_mem _ (List.mem_append_right _ (h))) tyJx4a65c tyJx4a65c_ok nmJx4a65c hK hP hD hS 0 rfl rfl 0 (by decide) (List.mem_of_getElem? (i := 1) rfl) (List.mem_of_getElem? (i := 2) rfl) rfl rfl rfl (Nat.le_of_ble_eq_true rfl) dJx4a65c_add_7a177_12 (fun H locs hP hD hS => ?_)
  have hP : va_P D aCl ([(la, .inr (4, [.int (((mod) + (nI (1)))), .ref (ea), .int (nI (n))])), w1, w2, (ea, .inl (Y 1, cap, .inr (.inr (.inr (.inr es)))))] ++ tl) H := hP
  have hD : va_D F ([(la, .inr (4, [.int (((mod) + (nI (1)))), .ref (ea), .int (nI (n))])), w1, w2, (ea, .inl (Y 1, cap, .inr (.inr (.inr (.inr es)))))] ++ tl) := hD
  refine lv_aload_n hx hb dJx4a65c_add_7a177_15 rfl (lv_at hl 0 rfl) ?_
  refine nr_get (C := RJx4a65c) (T := TJx4a65c) (N := 3) (ci := 4) S (fun _ h => List.mem_cons_of_mem _ (List.mem_append_right _ (h))) hK hP 0 rfl rfl 2 (by decide) (List.mem_of_getElem? (i := 3) rfl) rfl dJx4a65c_add_7a177_16 ?_
  refine lv_dup hx hb dJx4a65c_add_7a177_19 rfl ?_
  refine lv_istore_n (lv' := [(3, .int (nI (n))), (0, .ref (la)), (1, .int (nI (i))), (2, .ref (v))]) hx hb dJx4a65c_add_7a177_20 rfl hl (by decide) rfl (fun ls hl => ?_)
  refine lv_aload_n hx hb dJx4a65c_add_7a177_21 rfl (lv_at hl 1 rfl) ?_
  refine nr_get (C := RJx4a65c) (T := TJx4a65c) (N := 3) (ci := 4) S (fun _ h => List.mem_cons_of_mem _ (List.mem_append_right _ (h))) hK hP 0 rfl rfl 1 (by decide) (List.mem_of_getElem? (i := 4) rfl) rfl dJx4a65c_add_7a177_22 ?_
  refine lv_dup hx hb dJx4a65c_add_7a177_25 rfl ?_
  refine lv_astore (lv' := [(4, .ref (ea)), (3, .int (nI (n))), (0, .ref (la)), (1, .int (nI (i))), (2, .ref (v))]) hx hb dJx4a65c_add_7a177_26 hl (by decide) rfl (fun ls hl => ?_)
  refine va_alen (v := (nI (cap))) (ty := .object _) hx hb hK.1 hP 3 1 rfl rfl rfl dJx4a65c_add_7a177_28 ?_
  refine nr_icmp_ne (tgt := 38) hx hb (by omega) (by omega) dJx4a65c_add_7a177_29 (by decide) (fun c_29 => ?_) (fun c_29 => absurd c_29 (by omega))
  refine lv_aload hx hb dJx4a65c_add_7a177_38 (lv_at hl 0 rfl) ?_
  refine lv_iload_n hx hb dJx4a65c_add_7a177_40 rfl (lv_at hl 3 rfl) ?_
  refine lv_aload hx hb dJx4a65c_add_7a177_41 (lv_at hl 0 rfl) ?_
  refine lv_iload_n hx hb dJx4a65c_add_7a177_43 rfl (lv_at hl 3 rfl) ?_
  refine lv_iconst (v := (nI (1))) hx hb dJx4a65c_add_7a177_44 (by decide +kernel) ?_
  refine nr_iadd hx hb dJx4a65c_add_7a177_45 ?_
  refine lv_iload_n hx hb dJx4a65c_add_7a177_46 rfl (lv_at hl 1 rfl) ?_
  refine lv_iload_n hx hb dJx4a65c_add_7a177_47 rfl (lv_at hl 3 rfl) ?_
  refine nr_isub hx hb (by omega) dJx4a65c_add_7a177_48 ?_
  refine nr_copy (n0 := cap) (n1 := cap) (f := es) (g := es) (sp := i) (dp := i + 1) (k := n - i) S hl.1 (fun w hw => by simp only [List.mem_cons, List.mem_nil_iff, or_false] at hw; rcases hw with rfl | rfl | rfl | rfl; exact List.mem_of_getElem? (i := 5) rfl; exact List.mem_of_getElem? (i := 6) rfl; exact List.mem_of_getElem? (i := 7) rfl; exact List.mem_of_getElem? (i := 8) rfl) hK hP hD hS 3 3 rfl rfl (by omega) (by omega) (by omega) (fun iz hiz y hy => by obtain ⟨y2, k2, fs2, h1, h2⟩ := hes ((i) + iz) (by omega); rw [h1] at hy; obtain rfl := Option.some.inj hy; exact va_recv hK.1 hP (ci := 1) (q0 := k2 + 4) rfl h2) (Nat.le_of_ble_eq_true rfl) (Nat.le_of_ble_eq_true rfl) dJx4a65c_add_7a177_49 (fun H locs hP hD hS => ?_)
  have hP : va_P D aCl ([(la, .inr (4, [.int (((mod) + (nI (1)))), .ref (ea), .int (nI (n))])), w1, w2, (ea, .inl (Y 1, cap, .inr (.inr (.inr (.inr (va_cpy es es (i) (i + 1) (n - i)))))))] ++ tl) H := hP
  have hD : va_D F ([(la, .inr (4, [.int (((mod) + (nI (1)))), .ref (ea), .int (nI (n))])), w1, w2, (ea, .inl (Y 1, cap, .inr (.inr (.inr (.inr (va_cpy es es (i) (i + 1) (n - i)))))))] ++ tl) := hD
  refine lv_aload hx hb dJx4a65c_add_7a177_52 (lv_at hl 0 rfl) ?_
  refine lv_iload_n hx hb dJx4a65c_add_7a177_54 rfl (lv_at hl 3 rfl) ?_
  refine lv_aload_n hx hb dJx4a65c_add_7a177_55 rfl (lv_at hl 4 rfl) ?_
  refine nr_aast (n := cap) (f := (va_cpy es es (i) (i + 1) (n - i))) (v := v) S hK hP hD hS 3 rfl (va_recv hK.1 hP (ci := 1) (q0 := kv + 4) rfl hv) (by omega) (by omega) dJx4a65c_add_7a177_56 (fun H locs hP hD hS => ?_)
  have hP : va_P D aCl ([(la, .inr (4, [.int (((mod) + (nI (1)))), .ref (ea), .int (nI (n))])), w1, w2, (ea, .inl (Y 1, cap, .inr (.inr (.inr (.inr (va_up (va_cpy es es (i) (i + 1) (n - i)) (i) (some (v))))))))] ++ tl) H := hP
  have hD : va_D F ([(la, .inr (4, [.int (((mod) + (nI (1)))), .ref (ea), .int (nI (n))])), w1, w2, (ea, .inl (Y 1, cap, .inr (.inr (.inr (.inr (va_up (va_cpy es es (i) (i + 1) (n - i)) (i) (some (v))))))))] ++ tl) := hD
  refine lv_aload_n hx hb dJx4a65c_add_7a177_57 rfl (lv_at hl 2 rfl) ?_
  refine lv_iload_n hx hb dJx4a65c_add_7a177_58 rfl (lv_at hl 1 rfl) ?_
  refine lv_iconst (v := (nI (1))) hx hb dJx4a65c_add_7a177_59 (by decide +kernel) ?_
  refine nr_iadd hx hb dJx4a65c_add_7a177_60 ?_
  refine nr_put (C := RJx4a65c) (T := TJx4a65c) (N := 3) (ci := 4) (v := .int (nI (n + 1))) S (fun _ h => List.mem_cons_of_mem _ (List.mem_append_right _ (h))) tyJx4a65c tyJx4a65c_ok nmJx4a65c hK hP hD hS 0 rfl rfl 2 (by decide) (List.mem_of_getElem? (i := 3) rfl) rfl rfl rfl (Nat.le_of_ble_eq_true rfl) dJx4a65c_add_7a177_61 (fun H locs hP hD hS => ?_)
  have hP : va_P D aCl ([(la, .inr (4, [.int (((mod) + (nI (1)))), .ref (ea), .int (nI (n + 1))])), w1, w2, (ea, .inl (Y 1, cap, .inr (.inr (.inr (.inr (va_up (va_cpy es es (i) (i + 1) (n - i)) (i) (some (v))))))))] ++ tl) H := hP
  have hD : va_D F ([(la, .inr (4, [.int (((mod) + (nI (1)))), .ref (ea), .int (nI (n + 1))])), w1, w2, (ea, .inl (Y 1, cap, .inr (.inr (.inr (.inr (va_up (va_cpy es es (i) (i + 1) (n - i)) (i) (some (v))))))))] ++ tl) := hD
  refine W.widen (k := 0) (n := 0) (by omega) (by omega) ?_
  exact hE _ _ _ _ dJx4a65c_add_7a177_64 (⟨_, fun j hj => by
    by_cases h8 : j = i
    · rw [h8, up_same, if_neg (Nat.lt_irrefl _), if_pos rfl]
    · rw [up_ne h8]
      by_cases h9 : j < i
      · rw [if_pos h9, pk_cpy_out (Or.inl (by omega))]
      · rw [if_neg h9, if_neg h8, cpy_in (by omega) (by omega), show i + (j - (i + 1)) = j - 1 from by omega], hP⟩) hS
