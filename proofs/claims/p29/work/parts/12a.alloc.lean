/-! rows that make cells -/
theorem bI_fit (b : Bool) : fits .boolean (.int (bI b)) = true := by cases b <;> rfl
theorem setE (wl : va_W) (c d : Nat × va_E) : (wl ++ [c]).set wl.length d = wl ++ [d] := by rw [List.set_append_right _ _ (Nat.le_refl _), Nat.sub_self]; rfl
theorem atE (wl : va_W) (c : Nat × va_E) : (wl ++ [c])[wl.length]? = some c := List.getElem?_concat_length
theorem atA {wl r : va_W} {j : Nat} {c : Nat × va_E} (h : wl[j]? = some c) : (wl ++ r)[j]? = some c := by rw [List.getElem?_append_left (List.getElem?_eq_some_iff.mp h).1]; exact h
theorem atS {wl : va_W} {j i0 : Nat} {c x : Nat × va_E} (h : wl[j]? = some c) (hn : j ≠ i0) : (wl.set i0 x)[j]? = some c := by rw [List.getElem?_set_ne (Ne.symm hn)]; exact h
theorem atSS {wl : va_W} {i0 : Nat} {c x : Nat × va_E} (h : wl[i0]? = some c) : (wl.set i0 x)[i0]? = some x := by rw [List.getElem?_set_self (List.getElem?_eq_some_iff.mp h).1]
theorem setSelf {wl : va_W} {i : Nat} {c : Nat × va_E} (h : wl[i]? = some c) : wl.set i c = wl := by
  refine List.ext_getElem? fun k => ?_
  by_cases hk : i = k
  · subst hk
    rw [atSS h, h]
  · rw [List.getElem?_set_ne hk]
theorem set1 {wl : va_W} {i : Nat} {x y c1 : Nat × va_E} {c : Nat × va_E} (h : wl[i]? = some c) : (wl.set i x ++ [c1]).set i y = wl.set i y ++ [c1] := by
  have h2 := (List.getElem?_eq_some_iff.mp h).1
  rw [List.set_append_left _ _ (by rw [List.length_set]; exact h2), List.set_set]
theorem set2 {wl : va_W} {i : Nat} {x y c1 c2 : Nat × va_E} {c : Nat × va_E} (h : wl[i]? = some c) : (wl.set i x ++ [c1] ++ [c2]).set i y = wl.set i y ++ [c1] ++ [c2] := by
  have h2 := (List.getElem?_eq_some_iff.mp h).1
  rw [List.set_append_left _ _ (by rw [List.length_append, List.length_set]; omega), List.set_append_left _ _ (by rw [List.length_set]; exact h2), List.set_set]
theorem dfX0 : ∀ j, j < 3 → defaultValue (tyX0 j) = vp_V [.int (nI 0), .int (nI 0), .int (nI 0)] j
  | 0, _ => rfl
  | 1, _ => rfl
  | 2, _ => rfl
  | _ + 3, h => absurd h (by omega)
theorem dfX1 : ∀ j, j < 5 → defaultValue (tyX1 j) = vp_V [.int (nI 0), .null, .null, .int (nI 0), .int (nI 0)] j
  | 0, _ => rfl
  | 1, _ => rfl
  | 2, _ => rfl
  | 3, _ => rfl
  | 4, _ => rfl
  | _ + 5, h => absurd h (by omega)
theorem dfJx4a65c : ∀ j, j < 3 → defaultValue (tyJx4a65c j) = vp_V [.int (nI 0), .null, .int (nI 0)] j
  | 0, _ => rfl
  | 1, _ => rfl
  | 2, _ => rfl
  | _ + 3, h => absurd h (by omega)
section ALC
variable {p : Program} {l : Launch} {e : Env} {R : Room} {s : State} {m : MethodId} {args : Array Value} {below : List Frame} {meth : Method} {c : Code} {H : Heap} {locs : List Loc} {cells slots : Nat} {Q : State → Prop} {cc : ByteArray} {pc : Nat} {ls : Array Slot} {rest : List Value}
variable {index nL : Nat} {D : va_G} {Y : Nat → ClassId} {own C : String} {Ts : List Cond} {A F : Nat → Prop} {H0 : Heap} {wl : va_W}
theorem nr_putF {T : u_T} {N ci : Nat} {a : Nat} (S : CallFix p m c cc nL s args Ts own) (hin : ∀ w ∈ u_ws C T N, w ∈ Ts) (ty0 : Nat → FieldType) (hty : ∀ k, k < N → parseFieldDescriptor (T k).2.2.1 = some (ty0 k)) (hnm : ∀ a, a < N → ∀ b, b < N → a ≠ b → (T a).2.1 ≠ (T b).2.1) (hK : KK D Y s) (hP : va_P D aCl wl H) (hD : va_D A wl) (hS : va_S A H0 H locs) (q0 : Nat) {fs : List Value} (he : wl[q0]? = some (a, .inr (ci, fs))) (hc : aCl[ci]? = some (C, T, N)) (k : Nat) (hk : k < N) (hlink : (Cond.fieldLink own index (T k).1 (T k).2.1 (T k).2.2.1) ∈ Ts) (hin2 : meth.name = "<init>") (hfin : (T k).2.2.2 = true) (hdecl : (T k).1 = own) {v : Value} (hn : narrow (ty0 k) v = v) (hfit : fits (ty0 k) v = true) (hl : k < fs.length) (hdg : decode cc pc = .ok (.putfield index, 3))
    (kk : ∀ (H1 : Heap) (locs1 : List Loc), va_P D aCl (wl.set q0 (a, .inr (ci, fs.set k v))) H1 → va_D A (wl.set q0 (a, .inr (ci, fs.set k v))) → va_S A H0 H1 locs1 → W p l e R s m args below meth c H1 locs1 cells slots Q (F0 m (pc + 3) ls rest)) : W p l e R s m args below meth c H locs cells slots Q (F0 m pc ls (v :: .ref a :: rest)) :=
  va_putF S.1 S.2.1 S.2.2.2.2 hin ty0 hty hnm S.2.2.2.1 hK.1 hP hD hS q0 he hc k hk (S.2.2.2.2 _ hlink) (fun _ h => h) hfin hin2 hdecl (hty k hk) hn hfit hl hdg kk
theorem nr_obj {idx a : Nat} (S : CallFix p m c cc nL s args Ts own) (hl : (Cond.methodLink own idx objectInit) ∈ Ts) (hi : (Cond.instanceMethod objectInit) ∈ Ts) (hc : (Cond.code objectInit ⟨#[0xb1]⟩ 1 none) ∈ Ts) (hsize : ls.size = nL) (hdg : decode cc pc = .ok (.invokespecial idx, 3)) (hfr : 1 ≤ R.frames) (hlo : (rest.map fun v => v.category).sum + 12 ≤ R.locals)
    (k : W p l e R s m args below meth c H locs cells slots Q (F0 m (pc + 3) ls rest)) : W p l e R s m args below meth c H locs cells slots Q (F0 m pc ls (.ref a :: rest)) :=
  W.objInit S.1 S.2.1 S.2.2.2.1 (S.2.2.2.2 _ hl) (S.2.2.2.2 _ hi) (S.2.2.2.2 _ hc) rfl (hsize.trans S.2.2.1.symm) rfl hdg hfr (by show 2 * 0 + _ + 12 ≤ _; omega) k
theorem nr_new {T : u_T} {N ci : Nat} (S : CallFix p m c cc nL s args Ts own) (hin : ∀ w ∈ u_ws C T N, w ∈ Ts) (ty0 : Nat → FieldType) (hty : ∀ k, k < N → parseFieldDescriptor (T k).2.2.1 = some (ty0 k)) (hcl : (Cond.classLink own index C) ∈ Ts) (hinst : (Cond.instantiable C N) ∈ Ts) (hini : (Cond.initialized C) ∈ Ts) (hK : KK D Y s) (hP : va_P D aCl wl H) (hD : va_D A wl) (hS : va_S A H0 H locs) (hA : ∀ q, H0.size ≤ q → A q) (hc : aCl[ci]? = some (C, T, N)) {fs : List Value} (hfs : ∀ j, j < N → defaultValue (ty0 j) = vp_V fs j) (hcells : cells + 1 ≤ R.cells) (hslots : slots + N ≤ R.slots) (hdg : decode cc pc = .ok (.new index, 3))
    (kk : ∀ (q : Nat) (H1 : Heap), va_P D aCl (wl ++ [(q, .inr (ci, fs))]) H1 → va_D A (wl ++ [(q, .inr (ci, fs))]) → va_S A H0 H1 locs → W p l e R s m args below meth c H1 locs (cells + 1) (slots + N) Q (F0 m (pc + 3) ls (.ref q :: rest))) : W p l e R s m args below meth c H locs cells slots Q (F0 m pc ls rest) :=
  va_new S.1 S.2.1 S.2.2.2.2 hin ty0 hty S.2.2.2.1 (S.2.2.2.2 _ hcl) (S.2.2.2.2 _ hinst) (S.2.2.2.2 _ hini) hK.1 hP hD hS hA hc hfs hcells hslots hdg kk
theorem nr_newi {N : Nat} (S : CallFix p m c cc nL s args Ts own) (harr : (Cond.arrayClass .int) ∈ Ts) (hK : KK D Y s) (hP : va_P D aCl wl H) (hD : va_D A wl) (hS : va_S A H0 H locs) (hA : ∀ q, H0.size ≤ q → A q) (hN : N ≤ 65536) (hcells : cells + 1 ≤ R.cells) (hslots : slots + N ≤ R.slots) (hdg : decode cc pc = .ok (.newarray .int, 2))
    (kk : ∀ (q : Nat) (H1 : Heap), va_P D aCl (wl ++ [(q, .inl (Y 0, N, .inl (fun _ => nI 0)))]) H1 → va_D A (wl ++ [(q, .inl (Y 0, N, .inl (fun _ => nI 0)))]) → va_S A H0 H1 locs → W p l e R s m args below meth c H1 locs (cells + 1) (slots + N) Q (F0 m (pc + 2) ls (.ref q :: rest))) : W p l e R s m args below meth c H locs cells slots Q (F0 m pc ls (.int (nI N) :: rest)) := by
  refine va_newa (atype := .int) (ty := .int) (N' := N) (a0 := (N, .inl (fun _ => nI 0))) S.1 S.2.1 (S.2.2.2.2 _ harr) rfl hK.1 hP hD hS hA (fun cA => rfl) (nI_pos (by omega)) (nI_clamp (by omega)) (by show N * 4 ≤ 536870912; omega) hcells hslots hdg fun q cA H1 hK1 hP1 hD1 hS1 => ?_
  have h1 : s.vm.findClass "[I" = some cA := (hK1.2 2 (cA, .int) rfl).2
  have h2 : s.vm.findClass "[I" = some (Y 0) := (hK.1.2 0 (Y 0, .int) rfl).2
  obtain rfl := Option.some.inj (h1.symm.trans h2)
  exact kk q H1 hP1 hD1 hS1
theorem nr_newq {N : Nat} (S : CallFix p m c cc nL s args Ts own) (hcl : (Cond.classLink own index "java/lang/Object") ∈ Ts) (hK : KK D Y s) (hP : va_P D aCl wl H) (hD : va_D A wl) (hS : va_S A H0 H locs) (hA : ∀ q, H0.size ≤ q → A q) (hN : N ≤ 65536) (hcells : cells + 1 ≤ R.cells) (hslots : slots + N ≤ R.slots) (hdg : decode cc pc = .ok (.anewarray index, 3))
    (kk : ∀ (q : Nat) (H1 : Heap), va_P D aCl (wl ++ [(q, .inl (Y 1, N, .inr (.inr (.inr (.inr (fun _ => none))))))]) H1 → va_D A (wl ++ [(q, .inl (Y 1, N, .inr (.inr (.inr (.inr (fun _ => none))))))]) → va_S A H0 H1 locs → W p l e R s m args below meth c H1 locs (cells + 1) (slots + N) Q (F0 m (pc + 3) ls (.ref q :: rest))) : W p l e R s m args below meth c H locs cells slots Q (F0 m pc ls (.int (nI N) :: rest)) := by
  refine va_newq (N' := N) S.1 S.2.1 S.2.2.2.1 (S.2.2.2.2 _ hcl) hK.2.2.2.2.1 hK.1 hP hD hS hA (nI_pos (by omega)) (nI_clamp (by omega)) (by omega) hcells hslots hdg fun q cA H1 hK1 hP1 hD1 hS1 => ?_
  have h1 := va_nmO (nm := "[Ljava/lang/Object;") (hK1.2 2 (cA, .object "java/lang/Object") rfl).2 rfl
  have h2 := va_nmO (nm := "[Ljava/lang/Object;") (hK.1.2 1 (Y 1, .object "java/lang/Object") rfl).2 rfl
  obtain rfl := Option.some.inj (h1.symm.trans h2)
  exact kk q H1 hP1 hD1 hS1
end ALC
set_option maxHeartbeats 4000000 in
set_option maxRecDepth 100000 in
theorem k_X0_init (l : Launch) {D : va_G} {Y : Nat → ClassId} {H0 : Heap} {F : Nat → Prop} {ws : va_W} {q0 q : Nat} {a b : Nat} (hP : va_P D aCl (ws) H0) (hD : va_D F (ws)) (he : ws[q0]? = some (q, .inr (0, [.int (nI (0)), .int (nI (0)), .int (nI (0))]))) (hb31 : b ≤ 31) : UC l yX0_init wsX0_init 1 0 0 D Y (eT) [.ref (q), .int (nI (a)), .int (nI (b))] H0 F (bV_ (va_P D aCl (ws.set q0 (q, rgE a b)))) := by
  refine UCv.start (cc := cX0_init) (maxL := 3) (by decide) rfl (Nat.le_of_ble_eq_true rfl) ?_
  intro p e s m args below meth c ls H locs Q S hK hH0 hE0 hHH hS hl hin hE
  rw [← hHH] at hP
  have S : CallFix p m c cX0_init 3 s args wsX0_init RX0 := S
  have hx := S.1
  have hb := S.2.1
  have hts := S.2.2.2.2
  have hl : lv_has ls 3 [(0, .ref (q)), (1, .int (nI (a))), (2, .int (nI (b)))] := hl
  have hP : va_P D aCl (ws.set q0 (q, .inr (0, [.int (nI (0)), .int (nI (0)), .int (nI (0))]))) H := by rw [setSelf he]; exact hP
  have hD : va_D F (ws.set q0 (q, .inr (0, [.int (nI (0)), .int (nI (0)), .int (nI (0))]))) := by rw [setSelf he]; exact hD
  refine lv_aload_n hx hb dX0_init_0 rfl (lv_at hl 0 rfl) ?_
  refine nr_obj S (List.mem_of_getElem? (i := 1) rfl) (List.mem_of_getElem? (i := 2) rfl) (List.mem_of_getElem? (i := 3) rfl) hl.1 dX0_init_1 (Nat.le_of_ble_eq_true rfl) (Nat.le_of_ble_eq_true rfl) ?_
  refine lv_aload_n hx hb dX0_init_4 rfl (lv_at hl 0 rfl) ?_
  refine lv_iload_n hx hb dX0_init_5 rfl (lv_at hl 1 rfl) ?_
  refine nr_putF (C := RX0) (T := TX0) (N := 3) (ci := 0) (v := .int (nI (a))) S (fun _ h => List.mem_cons_of_mem _ (List.mem_append_right _ (h))) tyX0 tyX0_ok nmX0 hK hP hD hS q0 (atSS he) rfl 0 (by decide) (List.mem_of_getElem? (i := 4) rfl) (hin rfl) rfl rfl rfl rfl (Nat.le_of_ble_eq_true rfl) dX0_init_6 (fun H locs hP hD hS => ?_)
  rw [List.set_set] at hP
  rw [List.set_set] at hD
  have hP : va_P D aCl (ws.set q0 (q, .inr (0, [.int (nI (a)), .int (nI (0)), .int (nI (0))]))) H := hP
  have hD : va_D F (ws.set q0 (q, .inr (0, [.int (nI (a)), .int (nI (0)), .int (nI (0))]))) := hD
  refine lv_aload_n hx hb dX0_init_9 rfl (lv_at hl 0 rfl) ?_
  refine lv_iload_n hx hb dX0_init_10 rfl (lv_at hl 2 rfl) ?_
  refine nr_putF (C := RX0) (T := TX0) (N := 3) (ci := 0) (v := .int (nI (b))) S (fun _ h => List.mem_cons_of_mem _ (List.mem_append_right _ (h))) tyX0 tyX0_ok nmX0 hK hP hD hS q0 (atSS he) rfl 1 (by decide) (List.mem_of_getElem? (i := 5) rfl) (hin rfl) rfl rfl rfl rfl (Nat.le_of_ble_eq_true rfl) dX0_init_11 (fun H locs hP hD hS => ?_)
  rw [List.set_set] at hP
  rw [List.set_set] at hD
  have hP : va_P D aCl (ws.set q0 (q, .inr (0, [.int (nI (a)), .int (nI (b)), .int (nI (0))]))) H := hP
  have hD : va_D F (ws.set q0 (q, .inr (0, [.int (nI (a)), .int (nI (b)), .int (nI (0))]))) := hD
  refine lv_aload_n hx hb dX0_init_14 rfl (lv_at hl 0 rfl) ?_
  refine lv_iload_n hx hb dX0_init_15 rfl (lv_at hl 1 rfl) ?_
  refine lv_iload_n hx hb dX0_init_16 rfl (lv_at hl 2 rfl) ?_
  refine Rd.callSN (r := (mkI (a) (b))) (As := [.int (nI (a)), .int (nI (b))]) S (k_X2_setOf l (a := a) (b := b) (by omega)) ⟨va_cnB 2 hts gX0_init_X2_setOf_n16 rfl rfl rfl hK.2.1 (hts _ (List.mem_of_getElem? (i := 8) rfl)) (by decide +kernel) ⟨Nat.le_of_ble_eq_true rfl, Nat.le_of_ble_eq_true rfl⟩, hts _ (List.mem_of_getElem? (i := 7) rfl), trivial⟩ hK rfl hl.1 rfl (Nat.le_of_ble_eq_true rfl) dX0_init_17 ⟨Nat.le_of_ble_eq_true rfl, Nat.le_of_ble_eq_true rfl⟩ ?_
  refine nr_putF (C := RX0) (T := TX0) (N := 3) (ci := 0) (v := .int (mkI (a) (b))) S (fun _ h => List.mem_cons_of_mem _ (List.mem_append_right _ (h))) tyX0 tyX0_ok nmX0 hK hP hD hS q0 (atSS he) rfl 2 (by decide) (List.mem_of_getElem? (i := 6) rfl) (hin rfl) rfl rfl rfl rfl (Nat.le_of_ble_eq_true rfl) dX0_init_20 (fun H locs hP hD hS => ?_)
  rw [List.set_set] at hP
  rw [List.set_set] at hD
  have hP : va_P D aCl (ws.set q0 (q, .inr (0, [.int (nI (a)), .int (nI (b)), .int (mkI (a) (b))]))) H := hP
  have hD : va_D F (ws.set q0 (q, .inr (0, [.int (nI (a)), .int (nI (b)), .int (mkI (a) (b))]))) := hD
  refine W.widen (k := 0) (n := 0) (by omega) (by omega) ?_
  exact hE _ _ _ _ dX0_init_23 (hP) hS
set_option maxHeartbeats 4000000 in
set_option maxRecDepth 100000 in
theorem k_X1_init (l : Launch) {D : va_G} {Y : Nat → ClassId} {H0 : Heap} {F : Nat → Prop} {ws : va_W} {q0 q : Nat} {a1 a2 pr : Nat} {pm : Bool} (hP : va_P D aCl (ws) H0) (hD : va_D F (ws)) (he : ws[q0]? = some (q, .inr (1, [.int (nI (0)), .null, .null, .int (nI (0)), .int (nI (0))]))) : UC l yX1_init wsX1_init 1 0 0 D Y (eT) [.ref (q), .ref (a1), .ref (a2), .int (nI (pr)), .int (bI (pm))] H0 F (bV_ (va_P D aCl (ws.set q0 (q, .inr (1, [.int (bI pm), .ref a1, .ref a2, .int (nI pr), .int (nI 0)]))))) := by
  refine UCv.start (cc := cX1_init) (maxL := 5) (by decide) rfl (Nat.le_of_ble_eq_true rfl) ?_
  intro p e s m args below meth c ls H locs Q S hK hH0 hE0 hHH hS hl hin hE
  rw [← hHH] at hP
  have S : CallFix p m c cX1_init 5 s args wsX1_init RX1 := S
  have hx := S.1
  have hb := S.2.1
  have hts := S.2.2.2.2
  have hl : lv_has ls 5 [(0, .ref (q)), (1, .ref (a1)), (2, .ref (a2)), (3, .int (nI (pr))), (4, .int (bI (pm)))] := hl
  have hP : va_P D aCl (ws.set q0 (q, .inr (1, [.int (nI (0)), .null, .null, .int (nI (0)), .int (nI (0))]))) H := by rw [setSelf he]; exact hP
  have hD : va_D F (ws.set q0 (q, .inr (1, [.int (nI (0)), .null, .null, .int (nI (0)), .int (nI (0))]))) := by rw [setSelf he]; exact hD
  refine lv_aload_n hx hb dX1_init_0 rfl (lv_at hl 0 rfl) ?_
  refine nr_obj S (List.mem_of_getElem? (i := 1) rfl) (List.mem_of_getElem? (i := 2) rfl) (List.mem_of_getElem? (i := 3) rfl) hl.1 dX1_init_1 (Nat.le_of_ble_eq_true rfl) (Nat.le_of_ble_eq_true rfl) ?_
  refine lv_aload_n hx hb dX1_init_4 rfl (lv_at hl 0 rfl) ?_
  refine lv_aload_n hx hb dX1_init_5 rfl (lv_at hl 1 rfl) ?_
  refine nr_put (C := RX1) (T := TX1) (N := 5) (ci := 1) (v := .ref (a1)) S (fun _ h => List.mem_cons_of_mem _ (List.mem_append_right _ (h))) tyX1 tyX1_ok nmX1 hK hP hD hS q0 (atSS he) rfl 1 (by decide) (List.mem_of_getElem? (i := 4) rfl) rfl rfl rfl (Nat.le_of_ble_eq_true rfl) dX1_init_6 (fun H locs hP hD hS => ?_)
  rw [List.set_set] at hP
  rw [List.set_set] at hD
  have hP : va_P D aCl (ws.set q0 (q, .inr (1, [.int (nI (0)), .ref (a1), .null, .int (nI (0)), .int (nI (0))]))) H := hP
  have hD : va_D F (ws.set q0 (q, .inr (1, [.int (nI (0)), .ref (a1), .null, .int (nI (0)), .int (nI (0))]))) := hD
  refine lv_aload_n hx hb dX1_init_9 rfl (lv_at hl 0 rfl) ?_
  refine lv_aload_n hx hb dX1_init_10 rfl (lv_at hl 2 rfl) ?_
  refine nr_put (C := RX1) (T := TX1) (N := 5) (ci := 1) (v := .ref (a2)) S (fun _ h => List.mem_cons_of_mem _ (List.mem_append_right _ (h))) tyX1 tyX1_ok nmX1 hK hP hD hS q0 (atSS he) rfl 2 (by decide) (List.mem_of_getElem? (i := 5) rfl) rfl rfl rfl (Nat.le_of_ble_eq_true rfl) dX1_init_11 (fun H locs hP hD hS => ?_)
  rw [List.set_set] at hP
  rw [List.set_set] at hD
  have hP : va_P D aCl (ws.set q0 (q, .inr (1, [.int (nI (0)), .ref (a1), .ref (a2), .int (nI (0)), .int (nI (0))]))) H := hP
  have hD : va_D F (ws.set q0 (q, .inr (1, [.int (nI (0)), .ref (a1), .ref (a2), .int (nI (0)), .int (nI (0))]))) := hD
  refine lv_aload_n hx hb dX1_init_14 rfl (lv_at hl 0 rfl) ?_
  refine lv_iload_n hx hb dX1_init_15 rfl (lv_at hl 3 rfl) ?_
  refine nr_put (C := RX1) (T := TX1) (N := 5) (ci := 1) (v := .int (nI (pr))) S (fun _ h => List.mem_cons_of_mem _ (List.mem_append_right _ (h))) tyX1 tyX1_ok nmX1 hK hP hD hS q0 (atSS he) rfl 3 (by decide) (List.mem_of_getElem? (i := 6) rfl) rfl rfl rfl (Nat.le_of_ble_eq_true rfl) dX1_init_16 (fun H locs hP hD hS => ?_)
  rw [List.set_set] at hP
  rw [List.set_set] at hD
  have hP : va_P D aCl (ws.set q0 (q, .inr (1, [.int (nI (0)), .ref (a1), .ref (a2), .int (nI (pr)), .int (nI (0))]))) H := hP
  have hD : va_D F (ws.set q0 (q, .inr (1, [.int (nI (0)), .ref (a1), .ref (a2), .int (nI (pr)), .int (nI (0))]))) := hD
  refine lv_aload_n hx hb dX1_init_19 rfl (lv_at hl 0 rfl) ?_
  refine lv_iload hx hb dX1_init_20 (lv_at hl 4 rfl) ?_
  refine nr_putF (C := RX1) (T := TX1) (N := 5) (ci := 1) (v := .int (bI (pm))) S (fun _ h => List.mem_cons_of_mem _ (List.mem_append_right _ (h))) tyX1 tyX1_ok nmX1 hK hP hD hS q0 (atSS he) rfl 0 (by decide) (List.mem_of_getElem? (i := 7) rfl) (hin rfl) rfl rfl (bI_nar _) (bI_fit _) (Nat.le_of_ble_eq_true rfl) dX1_init_22 (fun H locs hP hD hS => ?_)
  rw [List.set_set] at hP
  rw [List.set_set] at hD
  have hP : va_P D aCl (ws.set q0 (q, .inr (1, [.int (bI (pm)), .ref (a1), .ref (a2), .int (nI (pr)), .int (nI (0))]))) H := hP
  have hD : va_D F (ws.set q0 (q, .inr (1, [.int (bI (pm)), .ref (a1), .ref (a2), .int (nI (pr)), .int (nI (0))]))) := hD
  refine W.widen (k := 0) (n := 0) (by omega) (by omega) ?_
  exact hE _ _ _ _ dX1_init_25 (hP) hS
