/-! ArrayList's members that make a row; what is known of the one empty row that all lists begin with -/
def eZ (t0 : Nat) (F : Nat → Prop) (U : State) : Prop := va_Z "java/util/ArrayList" "DEFAULTCAPACITY_EMPTY_ELEMENTDATA" "[Ljava/lang/Object;" (.ref t0) F U U.heap ∧ va_T (.object "java/lang/Object") t0 0 (fun _ => .null) F U U.heap
theorem eZ_bl {t0 : Nat} {F : Nat → Prop} : Ebl (eZ t0 F) := fun U g mk a h => ⟨va_Z.moved (u := U) (U := U.calling g mk a) (Vm.Alike.refl U.vm) h.1, va_T.moved (u := U) (U := U.calling g mk a) (Vm.Alike.refl U.vm) h.2⟩
theorem eZ_go {t0 : Nat} {F : Nat → Prop} {s U : State} {H : Heap} {locs : List Loc} (h : eZ t0 F s) (hS : va_S F s.heap H locs) (hW : s.WarmedH U.vm) (hU : U.heap = H) : eZ t0 F U := by
  unfold eZ
  rw [hU]
  exact ⟨(va_Z.moved hW.alike h.1).kept hS.2.1, (va_T.moved hW.alike h.2).kept hS.2.1⟩
theorem eM_bl {C : String} {mi : Nat} : Ebl (va_Mi C mi) := fun U g mk a h => va_Mi.moved (u := U) (U := U.calling g mk a) (Vm.Alike.refl U.vm) h
section EZ
variable {p : Program} {l : Launch} {e : Env} {R : Room} {s : State} {m : MethodId} {args : Array Value} {below : List Frame} {meth : Method} {c : Code} {H : Heap} {locs : List Loc} {cells slots : Nat} {Q : State → Prop} {cc : ByteArray} {pc : Nat} {ls : Array Slot} {rest : List Value}
variable {index nL : Nat} {D : va_G} {Y : Nat → ClassId} {own C : String} {Ts : List Cond} {A F : Nat → Prop} {H0 : Heap} {wl : va_W}
theorem nr_gets0 {t0 : Nat} (S : CallFix p m c cc nL s args Ts own) (hlink : (Cond.fieldLink own index "java/util/ArrayList" "DEFAULTCAPACITY_EMPTY_ELEMENTDATA" "[Ljava/lang/Object;") ∈ Ts) (hZ : eZ t0 F s) (hS : va_S F s.heap H locs) (hdg : decode cc pc = .ok (.getstatic index, 3))
    (kk : W p l e R s m args below meth c H locs cells slots Q (F0 m (pc + 3) ls (.ref t0 :: rest))) : W p l e R s m args below meth c H locs cells slots Q (F0 m pc ls rest) :=
  va_gets S.1 S.2.1 hZ.1 hS S.2.2.2.1 (S.2.2.2.2 _ hlink) (fun _ h => h) hdg kk
theorem nr_alen0 {t0 : Nat} (S : CallFix p m c cc nL s args Ts own) (hZ : eZ t0 F s) (hS : va_S F s.heap H locs) (hdg : decode cc pc = .ok (.arraylength, 1))
    (kk : W p l e R s m args below meth c H locs cells slots Q (F0 m (pc + 1) ls (.int (nI 0) :: rest))) : W p l e R s m args below meth c H locs cells slots Q (F0 m pc ls (.ref t0 :: rest)) := by
  obtain ⟨cell, h1, h2, h3, h4, h5, h6, h7⟩ := hZ.2
  exact W.alen (n := nI 0) S.1 S.2.1 (by rw [hS.2.1 _ (Array.getElem?_eq_some_iff.mp h1).1 h7]; exact h1) h2 h5 rfl rfl hdg kk
end EZ
theorem nl_no {x : Nat} (h : x < 2 ^ 30) : ¬ (2147483639 : Int32) < nI x := by
  rw [Int32.lt_iff_toInt_lt, nI_toInt (by omega)]
  rw [show (2147483639 : Int32).toInt = 2147483639 from by decide]
  omega
/-- a cell at the end takes the place of another -/
theorem swIn1 {W : va_W} {p1 : Nat} {y1 : Nat × va_E} (h1 : p1 < W.length) : ∀ (i : Nat) (q : Nat × va_E), (W.set p1 y1)[i]? = some q → (W ++ [y1])[if i = p1 then W.length else i]? = some q := by
  intro i q hi
  by_cases hb : i = p1
  · subst hb
    rw [List.getElem?_set_self h1] at hi
    rw [if_pos rfl, atE]
    exact hi
  · rw [if_neg hb]
    rw [List.getElem?_set_ne (Ne.symm hb)] at hi
    exact atA hi
theorem swP1 {D : va_G} {W : va_W} {p1 : Nat} {y1 : Nat × va_E} {H : Heap} (h1 : p1 < W.length) (hP : va_P D aCl (W ++ [y1]) H) : va_P D aCl (W.set p1 y1) H := hP.by _ (swIn1 h1)
theorem swD1 {F : Nat → Prop} {W : va_W} {p1 : Nat} {y1 : Nat × va_E} (h1 : p1 < W.length) (hD : va_D F (W ++ [y1])) : va_D F (W.set p1 y1) := by
  refine va_D.by hD _ (swIn1 h1) fun i j hi hj hij => ?_
  rw [List.length_set] at hi hj
  have hij : (if i = p1 then W.length else i) = (if j = p1 then W.length else j) := hij
  (repeat' split at hij) <;> omega
/-- a cell at the end comes behind the third -/
theorem mvIn {a b c y : Nat × va_E} {tl : va_W} : ∀ (i : Nat) (q : Nat × va_E), ([a, b, c, y] ++ tl)[i]? = some q → ([a, b, c] ++ tl ++ [y])[if i < 3 then i else if i = 3 then tl.length + 3 else i - 1]? = some q := by
  intro i q hi
  match i, hi with
  | 0, hi => exact hi
  | 1, hi => exact hi
  | 2, hi => exact hi
  | 3, hi =>
    rw [if_neg (by omega), if_pos rfl, show tl.length + 3 = ([a, b, c] ++ tl).length from by rw [List.length_append]; show _ = 3 + _; omega, atE]
    exact hi
  | i + 4, hi =>
    rw [if_neg (by omega), if_neg (by omega)]
    exact atA (show ([a, b, c] ++ tl)[i + 3]? = some q from hi)
theorem mvP {D : va_G} {a b c y : Nat × va_E} {tl : va_W} {H : Heap} (hP : va_P D aCl ([a, b, c] ++ tl ++ [y]) H) : va_P D aCl ([a, b, c, y] ++ tl) H := hP.by _ mvIn
theorem mvD {F : Nat → Prop} {a b c y : Nat × va_E} {tl : va_W} (hD : va_D F ([a, b, c] ++ tl ++ [y])) : va_D F ([a, b, c, y] ++ tl) := by
  refine va_D.by hD _ mvIn fun i j hi hj hij => ?_
  have hl : ([a, b, c, y] ++ tl).length = tl.length + 4 := by rw [List.length_append]; show 4 + _ = _; omega
  rw [hl] at hi hj
  have hij : (if i < 3 then i else if i = 3 then tl.length + 3 else i - 1) = (if j < 3 then j else if j = 3 then tl.length + 3 else j - 1) := hij
  (repeat' split at hij) <;> omega
set_option maxHeartbeats 4000000 in
set_option maxRecDepth 100000 in
theorem k_Jxa1e45_init_da8c8 (l : Launch) {D : va_G} {Y : Nat → ClassId} {H0 : Heap} {F : Nat → Prop} {ws : va_W} {q : Nat} (hP : va_P D aCl (ws) H0) (hD : va_D F (ws)) : UC l yJxa1e45_init_da8c8 wsJxa1e45_init_da8c8 1 0 0 D Y (eT) [.ref (q)] H0 F (bV_ (fun H => H = H0)) := by
  refine UCv.start (cc := cJxa1e45_init_da8c8) (maxL := 1) (by decide) rfl (Nat.le_of_ble_eq_true rfl) ?_
  intro p e s m args below meth c ls H locs Q S hK hH0 hE0 hHH hS hl hin hE
  rw [← hHH] at hP
  have S : CallFix p m c cJxa1e45_init_da8c8 1 s args wsJxa1e45_init_da8c8 RJxa1e45 := S
  have hx := S.1
  have hb := S.2.1
  have hts := S.2.2.2.2
  have hl : lv_has ls 1 [(0, .ref (q))] := hl
  refine lv_aload_n hx hb dJxa1e45_init_da8c8_0 rfl (lv_at hl 0 rfl) ?_
  refine nr_obj S (List.mem_of_getElem? (i := 1) rfl) (List.mem_of_getElem? (i := 2) rfl) (List.mem_of_getElem? (i := 3) rfl) hl.1 dJxa1e45_init_da8c8_1 (Nat.le_of_ble_eq_true rfl) (Nat.le_of_ble_eq_true rfl) ?_
  refine W.widen (k := 0) (n := 0) (by omega) (by omega) ?_
  exact hE _ _ _ _ dJxa1e45_init_da8c8_4 (hHH) hS
set_option maxHeartbeats 4000000 in
set_option maxRecDepth 100000 in
theorem k_Jxc12de_init_da8c8 (l : Launch) {D : va_G} {Y : Nat → ClassId} {H0 : Heap} {F : Nat → Prop} {ws : va_W} {q0 q t0 : Nat} (hP : va_P D aCl (ws) H0) (hD : va_D F (ws)) (he : ws[q0]? = some (q, .inr (4, [.int (nI (0)), .null, .int (nI (0))]))) : UC l yJxc12de_init_da8c8 wsJxc12de_init_da8c8 2 0 0 D Y (eT) [.ref (q)] H0 F (bV_ (va_P D aCl (ws.set q0 (q, .inr (4, [.int (nI 0), .null, .int (nI 0)]))))) := by
  refine UCv.start (cc := cJxc12de_init_da8c8) (maxL := 1) (by decide) rfl (Nat.le_of_ble_eq_true rfl) ?_
  intro p e s m args below meth c ls H locs Q S hK hH0 hE0 hHH hS hl hin hE
  rw [← hHH] at hP
  have S : CallFix p m c cJxc12de_init_da8c8 1 s args wsJxc12de_init_da8c8 RJxc12de := S
  have hx := S.1
  have hb := S.2.1
  have hts := S.2.2.2.2
  have hl : lv_has ls 1 [(0, .ref (q))] := hl
  have hP : va_P D aCl (ws.set q0 (q, .inr (4, [.int (nI (0)), .null, .int (nI (0))]))) H := by rw [setSelf he]; exact hP
  have hD : va_D F (ws.set q0 (q, .inr (4, [.int (nI (0)), .null, .int (nI (0))]))) := by rw [setSelf he]; exact hD
  refine lv_aload_n hx hb dJxc12de_init_da8c8_0 rfl (lv_at hl 0 rfl) ?_
  refine UC.callI (As := []) S (k_Jxa1e45_init_da8c8 l hP hD (q := q)) (cwI 0 hts gJxc12de_init_da8c8_Jxa1e45_init_da8c8 rfl rfl rfl (hts _ (List.mem_of_getElem? (i := 4) rfl)) (hts _ (List.mem_of_getElem? (i := 2) rfl)) (hts _ (List.mem_of_getElem? (i := 3) rfl)) rfl (by decide +kernel) ⟨Nat.le_of_ble_eq_true rfl, Nat.le_of_ble_eq_true rfl⟩) hK eT_bl (fun _ _ _ => trivial) hS (fun _ h => h) rfl hl.1 rfl (Nat.le_of_ble_eq_true rfl) dJxc12de_init_da8c8_1 ⟨Nat.le_of_ble_eq_true rfl, Nat.le_of_ble_eq_true rfl⟩ (fun v H locs hB hS hsz hkp => ?_)
  obtain ⟨rfl, hB⟩ := hB
  have hP : va_P D aCl (ws.set q0 (q, .inr (4, [.int (nI (0)), .null, .int (nI (0))]))) H := by rw [show H = _ from hB]; exact hP
  refine lv_aload_n hx hb dJxc12de_init_da8c8_4 rfl (lv_at hl 0 rfl) ?_
  refine lv_iconst (v := (nI (0))) hx hb dJxc12de_init_da8c8_5 (by decide +kernel) ?_
  refine nr_put (C := RJx4a65c) (T := TJx4a65c) (N := 3) (ci := 4) (v := .int (nI (0))) S (fun _ h => List.mem_cons_of_mem _ (List.mem_append_right _ (h))) tyJx4a65c tyJx4a65c_ok nmJx4a65c hK hP hD hS q0 (atSS he) rfl 0 (by decide) (List.mem_of_getElem? (i := 1) rfl) rfl rfl rfl (Nat.le_of_ble_eq_true rfl) dJxc12de_init_da8c8_6 (fun H locs hP hD hS => ?_)
  rw [List.set_set] at hP
  rw [List.set_set] at hD
  have hP : va_P D aCl (ws.set q0 (q, .inr (4, [.int (nI (0)), .null, .int (nI (0))]))) H := hP
  have hD : va_D F (ws.set q0 (q, .inr (4, [.int (nI (0)), .null, .int (nI (0))]))) := hD
  refine W.widen (k := 0) (n := 0) (by omega) (by omega) ?_
  exact hE _ _ _ _ dJxc12de_init_da8c8_9 (hP) hS
set_option maxHeartbeats 4000000 in
set_option maxRecDepth 100000 in
theorem k_Jx4a65c_init_da8c8 (l : Launch) {D : va_G} {Y : Nat → ClassId} {H0 : Heap} {F : Nat → Prop} {ws : va_W} {q0 q t0 : Nat} (hP : va_P D aCl (ws) H0) (hD : va_D F (ws)) (he : ws[q0]? = some (q, .inr (4, [.int (nI (0)), .null, .int (nI (0))]))) : UC l yJx4a65c_init_da8c8 wsJx4a65c_init_da8c8 3 0 0 D Y (eZ t0 F) [.ref (q)] H0 F (bV_ (va_P D aCl (ws.set q0 (q, .inr (4, [.int (nI 0), .ref t0, .int (nI 0)]))))) := by
  refine UCv.start (cc := cJx4a65c_init_da8c8) (maxL := 1) (by decide) rfl (Nat.le_of_ble_eq_true rfl) ?_
  intro p e s m args below meth c ls H locs Q S hK hH0 hE0 hHH hS hl hin hE
  rw [← hHH] at hP
  have S : CallFix p m c cJx4a65c_init_da8c8 1 s args wsJx4a65c_init_da8c8 RJx4a65c := S
  have hx := S.1
  have hb := S.2.1
  have hts := S.2.2.2.2
  have hl : lv_has ls 1 [(0, .ref (q))] := hl
  have hP : va_P D aCl (ws.set q0 (q, .inr (4, [.int (nI (0)), .null, .int (nI (0))]))) H := by rw [setSelf he]; exact hP
  have hD : va_D F (ws.set q0 (q, .inr (4, [.int (nI (0)), .null, .int (nI (0))]))) := by rw [setSelf he]; exact hD
  subst hH0
  refine lv_aload_n hx hb dJx4a65c_init_da8c8_0 rfl (lv_at hl 0 rfl) ?_
  refine UC.callI (As := []) S (k_Jxc12de_init_da8c8 l (t0 := 0) hP hD (atSS he)) (cwI 0 hts gJx4a65c_init_da8c8_Jxc12de_init_da8c8 rfl rfl rfl (hts _ (List.mem_of_getElem? (i := 5) rfl)) (hts _ (List.mem_of_getElem? (i := 3) rfl)) (hts _ (List.mem_of_getElem? (i := 4) rfl)) rfl (by decide +kernel) ⟨Nat.le_of_ble_eq_true rfl, Nat.le_of_ble_eq_true rfl⟩) hK eT_bl (fun _ _ _ => trivial) hS (fun _ h => h) rfl hl.1 rfl (Nat.le_of_ble_eq_true rfl) dJx4a65c_init_da8c8_1 ⟨Nat.le_of_ble_eq_true rfl, Nat.le_of_ble_eq_true rfl⟩ (fun v H locs hB hS hsz hkp => ?_)
  obtain ⟨rfl, hB⟩ := hB
  have hP : va_P D aCl (ws.set q0 (q, .inr (4, [.int (nI (0)), .null, .int (nI (0))]))) H := by rw [List.set_set] at hB; exact hB
  refine lv_aload_n hx hb dJx4a65c_init_da8c8_4 rfl (lv_at hl 0 rfl) ?_
  refine nr_gets0 S (List.mem_of_getElem? (i := 1) rfl) hE0 hS dJx4a65c_init_da8c8_5 ?_
  refine nr_put (C := RJx4a65c) (T := TJx4a65c) (N := 3) (ci := 4) (v := .ref (t0)) S (fun _ h => List.mem_cons_of_mem _ (List.mem_append_right _ (h))) tyJx4a65c tyJx4a65c_ok nmJx4a65c hK hP hD hS q0 (atSS he) rfl 1 (by decide) (List.mem_of_getElem? (i := 2) rfl) rfl rfl rfl (Nat.le_of_ble_eq_true rfl) dJx4a65c_init_da8c8_8 (fun H locs hP hD hS => ?_)
  rw [List.set_set] at hP
  rw [List.set_set] at hD
  have hP : va_P D aCl (ws.set q0 (q, .inr (4, [.int (nI (0)), .ref (t0), .int (nI (0))]))) H := hP
  have hD : va_D F (ws.set q0 (q, .inr (4, [.int (nI (0)), .ref (t0), .int (nI (0))]))) := hD
  refine W.widen (k := 0) (n := 0) (by omega) (by omega) ?_
  exact hE _ _ _ _ dJx4a65c_init_da8c8_11 (hP) hS
set_option maxHeartbeats 4000000 in
set_option maxRecDepth 100000 in
theorem k_J8_newLength_cabcc (l : Launch) {D : va_G} {Y : Nat → ClassId} {H : Heap} {a b c0 : Nat}  (hs : 0 < a + max b c0 ∧ a + max b c0 < 2 ^ 30) : Rd l yJ8_newLength_cabcc wsJ8_newLength_cabcc 1 D Y [.int (nI (a)), .int (nI (b)), .int (nI (c0))] H (nI (a + max b c0)) := by
  refine Rd.start (cc := cJ8_newLength_cabcc) (maxL := 4) (rt := .int) (by decide) rfl (Nat.le_of_ble_eq_true rfl) ?_
  intro p e s m args below meth c ls Q S hK hl hE
  have S : CallFix p m c cJ8_newLength_cabcc 4 s args wsJ8_newLength_cabcc RJ8 := S
  have hx := S.1
  have hb := S.2.1
  have hts := S.2.2.2.2
  have hl : lv_has ls 4 [(0, .int (nI (a))), (1, .int (nI (b))), (2, .int (nI (c0)))] := hl
  refine lv_iload_n hx hb dJ8_newLength_cabcc_0 rfl (lv_at hl 0 rfl) ?_
  refine lv_iload_n hx hb dJ8_newLength_cabcc_1 rfl (lv_at hl 1 rfl) ?_
  refine lv_iload_n hx hb dJ8_newLength_cabcc_2 rfl (lv_at hl 2 rfl) ?_
  refine va_mmax hx hb (S.2.2.1.trans hl.1.symm) S.2.2.2.1 (hts _ (List.mem_of_getElem? (i := 1) rfl)) (hts _ (List.mem_of_getElem? (i := 2) rfl)) (hts _ (List.mem_of_getElem? (i := 3) rfl)) (hts _ (List.mem_of_getElem? (i := 4) rfl)) (Nat.le_of_ble_eq_true rfl) (Nat.le_of_ble_eq_true rfl) (Nat.zero_le _) (Nat.zero_le _) dJ8_newLength_cabcc_3 ?_
  refine nr_top (y := (nI (max (b) (c0)))) (mx_N (by omega) (by omega)) ?_
  refine nr_iadd hx hb dJ8_newLength_cabcc_6 ?_
  refine lv_istore_n (lv' := [(3, .int (nI (a + (max (b) (c0))))), (0, .int (nI (a))), (1, .int (nI (b))), (2, .int (nI (c0)))]) hx hb dJ8_newLength_cabcc_7 rfl hl (by decide) rfl (fun ls hl => ?_)
  refine lv_iconst (v := (nI (0))) hx hb dJ8_newLength_cabcc_8 (by decide +kernel) ?_
  refine lv_iload_n hx hb dJ8_newLength_cabcc_9 rfl (lv_at hl 0 rfl) ?_
  refine nr_icmp_ge (tgt := 21) hx hb (by omega) (by omega) dJ8_newLength_cabcc_10 (by decide) (fun c_10 => absurd c_10 (by omega)) (fun c_10 => ?_)
  refine lv_iload_n hx hb dJ8_newLength_cabcc_13 rfl (lv_at hl 0 rfl) ?_
  refine lv_ldc hx hb S.2.2.2.1 (hts _ (List.mem_of_getElem? (i := 5) rfl)) dJ8_newLength_cabcc_14 ?_
  refine lv_icmp_gt (tgt := 21) hx hb dJ8_newLength_cabcc_16 (by decide) (fun c_16 => absurd c_16 (nl_no (by omega))) (fun c_16 => ?_)
  refine lv_iload_n hx hb dJ8_newLength_cabcc_19 rfl (lv_at hl 0 rfl) ?_
  exact hE _ _ _ dJ8_newLength_cabcc_20 (vp_nar_int _) (rfl)
set_option maxHeartbeats 4000000 in
set_option maxRecDepth 100000 in
theorem k_J7_copyOf_6403c (l : Launch) {D : va_G} {Y : Nat → ClassId} {H0 : Heap} {F : Nat → Prop} {ws : va_W} {i1 a n N mi : Nat} {es : Nat → Option Nat} (hP : va_P D aCl (ws) H0) (hD : va_D F (ws)) (hFr : ∀ q, H0.size ≤ q → F q) (h1 : ws[i1]? = some (a, .inl (Y 1, n, .inr (.inr (.inr (.inr es)))))) (hes : ∀ j, j < n → ∃ (y k : Nat) (fs : List Value), es j = some y ∧ ws[k]? = some (y, .inr (1, fs))) (hnN : n ≤ N ∧ N ≤ 64) : UC l yJ7_copyOf_6403c wsJ7_copyOf_6403c 1 1 64 D Y (va_Mi "[Ljava/lang/Object;" mi) [.ref (a), .int (nI (N)), .ref (mi)] H0 F (bA_ (fun z H => ∃ es2 : Nat → Option Nat, (∀ j, j < n → es2 j = es j) ∧ va_P D aCl (ws ++ [(z, .inl (Y 1, N, .inr (.inr (.inr (.inr es2)))))]) H ∧ va_D F (ws ++ [(z, .inl (Y 1, N, .inr (.inr (.inr (.inr es2)))))]))) := by
  refine UCa.start (cc := cJ7_copyOf_6403c) (maxL := 4) (rt := (.array (.object "java/lang/Object"))) (by decide) rfl (Nat.le_of_ble_eq_true rfl) (by first | exact Or.inl ⟨_, rfl⟩ | exact Or.inr ⟨_, rfl⟩) ?_
  intro p e s m args below meth c ls H locs Q S hK hH0 hE0 hHH hS hl hin hE
  rw [← hHH] at hP
  have S : CallFix p m c cJ7_copyOf_6403c 4 s args wsJ7_copyOf_6403c RJ7 := S
  have hx := S.1
  have hb := S.2.1
  have hts := S.2.2.2.2
  have hl : lv_has ls 4 [(0, .ref (a)), (1, .int (nI (N))), (2, .ref (mi))] := hl
  refine lv_aload_n hx hb dJ7_copyOf_6403c_0 rfl (lv_at hl 2 rfl) ?_
  refine va_ldcM hx hb S.2.2.2.1 (hts _ (List.mem_of_getElem? (i := 1) rfl)) hE0 dJ7_copyOf_6403c_1 ?_
  refine lv_acmp_ne (rx := some mi) (ry := some mi) (tgt := 13) hx hb dJ7_copyOf_6403c_3 (by decide) (fun h9 => absurd rfl h9) (fun _ => ?_)
  refine lv_iload_n hx hb dJ7_copyOf_6403c_6 rfl (lv_at hl 1 rfl) ?_
  refine nr_newq (N := N) S (List.mem_of_getElem? (i := 2) rfl) hK hP hD hS hFr (by omega) (by show 0 + 1 ≤ 1; decide) (by show 0 + N ≤ 64; omega) dJ7_copyOf_6403c_7 (fun q7 H hP hD hS => ?_)
  have hP : va_P D aCl (ws ++ [(q7, .inl (Y 1, N, .inr (.inr (.inr (.inr (fun _ => none))))))]) H := hP
  have hD : va_D F (ws ++ [(q7, .inl (Y 1, N, .inr (.inr (.inr (.inr (fun _ => none))))))]) := hD
  refine lv_goto (tgt := 24) hx hb dJ7_copyOf_6403c_10 (by decide) ?_
  refine lv_astore_n (lv' := [(3, .ref (q7)), (0, .ref (a)), (1, .int (nI (N))), (2, .ref (mi))]) hx hb dJ7_copyOf_6403c_24 rfl hl (by decide) rfl (fun ls hl => ?_)
  refine lv_aload_n hx hb dJ7_copyOf_6403c_25 rfl (lv_at hl 1 rfl) ?_
  refine lv_iconst (v := (nI (0))) hx hb dJ7_copyOf_6403c_26 (by decide +kernel) ?_
  refine lv_aload_n hx hb dJ7_copyOf_6403c_27 rfl (lv_at hl 0 rfl) ?_
  refine lv_iconst (v := (nI (0))) hx hb dJ7_copyOf_6403c_28 (by decide +kernel) ?_
  refine lv_aload_n hx hb dJ7_copyOf_6403c_29 rfl (lv_at hl 1 rfl) ?_
  refine va_alen (v := (nI (n))) (ty := .object _) hx hb hK.1 hP i1 1 (atA h1) rfl rfl dJ7_copyOf_6403c_30 ?_
  refine lv_iload_n hx hb dJ7_copyOf_6403c_31 rfl (lv_at hl 2 rfl) ?_
  refine va_mmin hx hb (S.2.2.1.trans hl.1.symm) S.2.2.2.1 (hts _ (List.mem_of_getElem? (i := 3) rfl)) (hts _ (List.mem_of_getElem? (i := 4) rfl)) (hts _ (List.mem_of_getElem? (i := 5) rfl)) (hts _ (List.mem_of_getElem? (i := 6) rfl)) (Nat.le_of_ble_eq_true rfl) (Nat.le_of_ble_eq_true rfl) (by show 0 + 1 ≤ 1; decide) (by show 0 + N ≤ 64; omega) dJ7_copyOf_6403c_32 ?_
  refine nr_top (y := (nI (min (n) (N)))) (mn_N (by omega) (by omega)) ?_
  refine nr_copy (n0 := n) (n1 := N) (f := es) (g := (fun _ => none)) (sp := 0) (dp := 0) (k := min (n) (N)) S hl.1 (fun w hw => by simp only [List.mem_cons, List.mem_nil_iff, or_false] at hw; rcases hw with rfl | rfl | rfl | rfl; exact List.mem_of_getElem? (i := 7) rfl; exact List.mem_of_getElem? (i := 8) rfl; exact List.mem_of_getElem? (i := 9) rfl; exact List.mem_of_getElem? (i := 10) rfl) hK hP hD hS i1 ws.length (atA h1) (atE _ _) (by omega) (by omega) (by omega) (fun iz hiz y hy => by obtain ⟨y2, k2, fs2, e1, e2⟩ := hes (0 + iz) (by omega); rw [e1] at hy; obtain rfl := Option.some.inj hy; exact va_recv hK.1 hP (ci := 1) (q0 := k2) rfl (atA e2)) (Nat.le_of_ble_eq_true rfl) (Nat.le_of_ble_eq_true rfl) dJ7_copyOf_6403c_35 (fun H locs hP hD hS => ?_)
  rw [setE] at hP
  rw [setE] at hD
  have hP : va_P D aCl (ws ++ [(q7, .inl (Y 1, N, .inr (.inr (.inr (.inr (va_cpy es (fun _ => none) (0) (0) (min (n) (N))))))))]) H := hP
  have hD : va_D F (ws ++ [(q7, .inl (Y 1, N, .inr (.inr (.inr (.inr (va_cpy es (fun _ => none) (0) (0) (min (n) (N))))))))]) := hD
  refine lv_aload_n hx hb dJ7_copyOf_6403c_38 rfl (lv_at hl 0 rfl) ?_
  refine W.widen (k := 1) (n := 64) (by omega) (by omega) ?_
  exact hE _ _ _ _ _ dJ7_copyOf_6403c_39 (⟨_, fun j hj => (by rw [cpy_in (by omega) (by omega), show 0 + (j - 0) = j from by omega]), hP, hD⟩) hS
set_option maxHeartbeats 4000000 in
set_option maxRecDepth 100000 in
theorem k_J7_copyOf_1904c (l : Launch) {D : va_G} {Y : Nat → ClassId} {H0 : Heap} {F : Nat → Prop} {ws : va_W} {i1 a n N : Nat} {es : Nat → Option Nat} (hP : va_P D aCl (ws) H0) (hD : va_D F (ws)) (hFr : ∀ q, H0.size ≤ q → F q) (h1 : ws[i1]? = some (a, .inl (Y 1, n, .inr (.inr (.inr (.inr es)))))) (hes : ∀ j, j < n → ∃ (y k : Nat) (fs : List Value), es j = some y ∧ ws[k]? = some (y, .inr (1, fs))) (hnN : n ≤ N ∧ N ≤ 64) : UC l yJ7_copyOf_1904c wsJ7_copyOf_1904c 2 1 64 D Y (eT) [.ref (a), .int (nI (N))] H0 F (bA_ (fun z H => ∃ es2 : Nat → Option Nat, (∀ j, j < n → es2 j = es j) ∧ va_P D aCl (ws ++ [(z, .inl (Y 1, N, .inr (.inr (.inr (.inr es2)))))]) H ∧ va_D F (ws ++ [(z, .inl (Y 1, N, .inr (.inr (.inr (.inr es2)))))]))) := by
  refine UCa.start (cc := cJ7_copyOf_1904c) (maxL := 2) (rt := (.array (.object "java/lang/Object"))) (by decide) rfl (Nat.le_of_ble_eq_true rfl) (by first | exact Or.inl ⟨_, rfl⟩ | exact Or.inr ⟨_, rfl⟩) ?_
  intro p e s m args below meth c ls H locs Q S hK hH0 hE0 hHH hS hl hin hE
  rw [← hHH] at hP
  have S : CallFix p m c cJ7_copyOf_1904c 2 s args wsJ7_copyOf_1904c RJ7 := S
  have hx := S.1
  have hb := S.2.1
  have hts := S.2.2.2.2
  have hl : lv_has ls 2 [(0, .ref (a)), (1, .int (nI (N)))] := hl
  refine lv_aload_n hx hb dJ7_copyOf_1904c_0 rfl (lv_at hl 0 rfl) ?_
  refine lv_iload_n hx hb dJ7_copyOf_1904c_1 rfl (lv_at hl 1 rfl) ?_
  refine lv_aload_n hx hb dJ7_copyOf_1904c_2 rfl (lv_at hl 0 rfl) ?_
  obtain ⟨mi, hMi⟩ := hK.2.2.2.2.2.1
  refine va_getC (C := "[Ljava/lang/Object;") hx hb (S.2.2.1.trans hl.1.symm) S.2.2.2.1 (hts _ (List.mem_of_getElem? (i := 1) rfl)) (va_Dc.use hK.2.2.2.2.2.2) (hts _ (List.mem_of_getElem? (i := 2) rfl)) (hts _ (List.mem_of_getElem? (i := 3) rfl)) (hts _ (List.mem_of_getElem? (i := 4) rfl)) hMi ⟨_, hP i1 _ h1, rfl, va_nmO (hK.1.2 1 (Y 1, .object "java/lang/Object") rfl).2 rfl⟩ (Nat.le_of_ble_eq_true rfl) (Nat.le_of_ble_eq_true rfl) dJ7_copyOf_1904c_3 ?_
  refine UC.callS (As := [.ref (a), .int (nI (N)), .ref (mi)]) S (k_J7_copyOf_6403c l hP hD (fun q hq => hFr q (Nat.le_trans hS.1 hq)) h1 hes hnN) (va_cwS 3 hts gJ7_copyOf_1904c_J7_copyOf_6403c rfl rfl rfl (by decide +kernel) ⟨Nat.le_of_ble_eq_true rfl, Nat.le_of_ble_eq_true rfl⟩) hK eM_bl (fun U hW _ => va_Mi.moved hW.alike hMi) hS (fun _ h => h) rfl hl.1 rfl (Nat.le_of_ble_eq_true rfl) dJ7_copyOf_1904c_6 ⟨(by show _ ≤ 1; omega), (by show _ ≤ 64; omega)⟩ (fun v H locs hB hS hsz hkp => ?_)
  obtain ⟨z9, rfl, hB⟩ := hB
  obtain ⟨es2, he2, hP, hD⟩ := hB
  refine W.widen (k := 1) (n := 64) (by omega) (by omega) ?_
  exact hE _ _ _ _ _ dJ7_copyOf_1904c_9 (⟨es2, he2, hP, hD⟩) hS
