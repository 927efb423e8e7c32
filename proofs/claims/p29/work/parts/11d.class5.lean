/-! the class's methods that change its list -/
set_option maxHeartbeats 4000000 in
set_option maxRecDepth 100000 in
theorem k_X2_changedSinceNoted (l : Launch) {D : va_G} {Y : Nat → ClassId} {H : Heap} {x la na ea cap : Nat} {mod ju mi lo : Int32} {es : Nat → Option Nat} {nt : Nat → Int32} {L : List RA} {gg : Nat → Int32}  (hA : rdA D Y x la na ea cap mod es nt ju mi lo L H) (hbn : ∀ k, k < 128 → nt k = gg k) : Rd l yX2_changedSinceNoted wsX2_changedSinceNoted 4 D Y [.ref (x)] H (nI (sumN (fun k => popI (gg k ^^^ pmI (RS L) (k / 4) (k % 4) (-1))) 128)) := by
  refine Rd.start (cc := cX2_changedSinceNoted) (maxL := 4) (rt := .int) (by decide) rfl (Nat.le_of_ble_eq_true rfl) ?_
  intro p e s m args below meth c ls Q S hK hl hE
  have S : CallFix p m c cX2_changedSinceNoted 4 s args wsX2_changedSinceNoted RX2 := S
  have hx := S.1
  have hb := S.2.1
  have hts := S.2.2.2.2
  have hl : lv_has ls 4 [(0, .ref (x))] := hl
  have hA0 := hA
  obtain ⟨hX, hL, hN, hE2, hR, hok⟩ := hA
  have hlen : (RS L).length = L.length := List.length_map ..
  have hn : L.length ≤ 16 := by have := hok.1; omega
  have hoo : ∀ i, i < L.length → rvOk (gt (RS L) i) := fun i hi => hok.2 i (by omega)
  refine lv_iconst (v := (nI (0))) hx hb dX2_changedSinceNoted_0 (by decide +kernel) ?_
  refine lv_istore_n (lv' := [(1, .int (nI (0))), (0, .ref (x))]) hx hb dX2_changedSinceNoted_1 rfl hl (by decide) rfl (fun ls hl => ?_)
  refine lv_iconst (v := (nI (0))) hx hb dX2_changedSinceNoted_2 (by decide +kernel) ?_
  refine lv_istore_n (lv' := [(2, .int (nI (0))), (1, .int (nI (0))), (0, .ref (x))]) hx hb dX2_changedSinceNoted_3 rfl hl (by decide) rfl (fun ls hl => ?_)
  have loop_4 : ∀ (fu_4 : Nat) (n : Nat) (q : Nat), (q ≤ 128) → (n = sumN (fun k => popI (gg k ^^^ pmI (RS L) (k / 4) (k % 4) (-1))) q) → 128 - q < fu_4 → ∀ ls : Array Slot, lv_has ls 4 [(2, .int (nI (q))), (1, .int (nI (n))), (0, .ref (x))] → W p l e (rmN 4) s m args below meth c H [] 0 0 Q (F0 m 4 ls []) := by
    intro fu_4
    induction fu_4 with
    | zero => exact fun n q _ _ hk => absurd hk (Nat.not_lt_zero _)
    | succ fu_4 ih_4 =>
      intro n q h1 h2 hk_4 ls hl
      refine lv_iload_n hx hb dX2_changedSinceNoted_4 rfl (lv_at hl 0 rfl) ?_
      refine lv_aload_n hx hb dX2_changedSinceNoted_5 rfl (lv_at hl 2 rfl) ?_
      refine nr_get (C := RX2) (T := TX2) (N := 5) (ci := 2) S (fun _ h => List.mem_cons_of_mem _ (List.mem_append_left _ (List.mem_append_left _ (List.mem_append_left _ (List.mem_append_right _ (h)))))) hK hX 0 rfl rfl 1 (by decide) (List.mem_of_getElem? (i := 1) rfl) rfl dX2_changedSinceNoted_6 ?_
      refine va_alen (v := (nI (128))) (ty := .int) hx hb hK.1 hN 0 0 rfl rfl rfl dX2_changedSinceNoted_9 ?_
      refine nr_icmp_ge (tgt := 45) hx hb (by omega) (by omega) dX2_changedSinceNoted_10 (by decide) (fun c_10 => ?_) (fun c_10 => ?_)
      · refine lv_iload_n hx hb dX2_changedSinceNoted_45 rfl (lv_at hl 1 rfl) ?_
        exact hE _ _ _ dX2_changedSinceNoted_46 (vp_nar_int _) (sumN_end h1 c_10 h2)
      · refine lv_aload_n hx hb dX2_changedSinceNoted_13 rfl (lv_at hl 2 rfl) ?_
        refine lv_iload_n hx hb dX2_changedSinceNoted_14 rfl (lv_at hl 0 rfl) ?_
        refine lv_iconst (v := (nI (4))) hx hb dX2_changedSinceNoted_15 (by decide +kernel) ?_
        refine nr_idiv hx hb (by omega) (by omega) (by omega) dX2_changedSinceNoted_16 ?_
        refine lv_iload_n hx hb dX2_changedSinceNoted_17 rfl (lv_at hl 0 rfl) ?_
        refine lv_iconst (v := (nI (4))) hx hb dX2_changedSinceNoted_18 (by decide +kernel) ?_
        refine nr_irem hx hb (by omega) (by omega) (by omega) dX2_changedSinceNoted_19 ?_
        refine lv_iconst (v := ((-1 : Int32))) hx hb dX2_changedSinceNoted_20 (by decide +kernel) ?_
        refine Rd.callV (r := (pmI (RS L) (q / 4) (q % 4) ((-1 : Int32)))) (As := [.int (nI (q / 4)), .int (nI (q % 4)), .int ((-1 : Int32))]) S (k_X2_permittedDestinations l hA0 (s0 := q / 4) (p0 := q % 4) (wo := ((-1 : Int32))) (by omega) (by omega)) (cwV 3 hts gX2_changedSinceNoted_X2_permittedDestinations rfl rfl rfl (by decide +kernel) ⟨Nat.le_of_ble_eq_true rfl, Nat.le_of_ble_eq_true rfl⟩) hK (va_recv hK.1 hX (ci := 2) (q0 := 0) rfl rfl) rfl hl.1 rfl (Nat.le_of_ble_eq_true rfl) dX2_changedSinceNoted_21 ⟨Nat.zero_le _, Nat.zero_le _⟩ ?_
        refine lv_istore_n (lv' := [(3, .int (pmI (RS L) (q / 4) (q % 4) ((-1 : Int32)))), (2, .int (nI (q))), (1, .int (nI (n))), (0, .ref (x))]) hx hb dX2_changedSinceNoted_24 rfl hl (by decide) rfl (fun ls hl => ?_)
        refine lv_iload_n hx hb dX2_changedSinceNoted_25 rfl (lv_at hl 2 rfl) ?_
        refine lv_aload_n hx hb dX2_changedSinceNoted_26 rfl (lv_at hl 3 rfl) ?_
        refine nr_get (C := RX2) (T := TX2) (N := 5) (ci := 2) S (fun _ h => List.mem_cons_of_mem _ (List.mem_append_left _ (List.mem_append_left _ (List.mem_append_left _ (List.mem_append_right _ (h)))))) hK hX 0 rfl rfl 1 (by decide) (List.mem_of_getElem? (i := 1) rfl) rfl dX2_changedSinceNoted_27 ?_
        refine lv_iload_n hx hb dX2_changedSinceNoted_30 rfl (lv_at hl 1 rfl) ?_
        refine nr_iald (n := 128) (f := nt) S hK hN 0 rfl (by omega) (by decide) dX2_changedSinceNoted_31 ?_
        refine nr_top (y := (gg (q))) (hbn q c_10) ?_
        refine lv_iload_n hx hb dX2_changedSinceNoted_32 rfl (lv_at hl 0 rfl) ?_
        refine lv_ixor hx hb dX2_changedSinceNoted_33 ?_
        refine Rd.callS (r := (nI (popI (((gg (q)) ^^^ (pmI (RS L) (q / 4) (q % 4) ((-1 : Int32)))))))) (As := [.int (((gg (q)) ^^^ (pmI (RS L) (q / 4) (q % 4) ((-1 : Int32)))))]) S (k_J6_bitCount_0f7a4 l (((gg (q)) ^^^ (pmI (RS L) (q / 4) (q % 4) ((-1 : Int32)))))) (va_cwS 1 hts gX2_changedSinceNoted_J6_bitCount_0f7a4 rfl rfl rfl (by decide +kernel) ⟨Nat.le_of_ble_eq_true rfl, Nat.le_of_ble_eq_true rfl⟩) hK rfl hl.1 rfl (Nat.le_of_ble_eq_true rfl) dX2_changedSinceNoted_34 ⟨Nat.zero_le _, Nat.zero_le _⟩ ?_
        refine nr_iadd hx hb dX2_changedSinceNoted_37 ?_
        refine lv_istore_n (lv' := [(1, .int (nI (n + (popI (((gg (q)) ^^^ (pmI (RS L) (q / 4) (q % 4) ((-1 : Int32))))))))), (3, .int (pmI (RS L) (q / 4) (q % 4) ((-1 : Int32)))), (2, .int (nI (q))), (0, .ref (x))]) hx hb dX2_changedSinceNoted_38 rfl hl (by decide) rfl (fun ls hl => ?_)
        refine lv_iinc (v := (nI (q + 1))) (lv' := [(2, .int (nI (q + 1))), (1, .int (nI (n + (popI (((gg (q)) ^^^ (pmI (RS L) (q / 4) (q % 4) ((-1 : Int32))))))))), (3, .int (pmI (RS L) (q / 4) (q % 4) ((-1 : Int32)))), (0, .ref (x))]) hx hb dX2_changedSinceNoted_39 hl (k := 2) rfl (nI_add _ _) (by decide) rfl (fun ls hl => ?_)
        refine lv_goto (tgt := 4) hx hb dX2_changedSinceNoted_42 (by decide) ?_
        exact ih_4 (n + (popI (((gg (q)) ^^^ (pmI (RS L) (q / 4) (q % 4) ((-1 : Int32))))))) (q + 1) (by omega) (by rw [h2]; rfl) (by omega) ls (lv_sub hl [0, 1, 3] rfl)
  exact loop_4 _ (0) (0) (by decide) (rfl) (Nat.lt_succ_self _) ls (lv_sub hl [0, 1, 2] rfl)
set_option maxHeartbeats 4000000 in
set_option maxRecDepth 100000 in
theorem k_X2_notePermitted (l : Launch) {D : va_G} {Y : Nat → ClassId} {H0 : Heap} {F : Nat → Prop} {la x na ea cap : Nat} {mod ju mi lo : Int32} {es : Nat → Option Nat} {nt : Nat → Int32} {L P : List RA} (hP : va_P D aCl ([(la, .inr (4, [.int (mod), .ref (ea), .int (nI (L.length))])), (x, .inr (2, [.ref (la), .ref (na), .int (ju), .int (mi), .int (lo)])), (na, .inl (Y 0, 128, .inl nt)), (ea, .inl (Y 1, cap, .inr (.inr (.inr (.inr es)))))] ++ plW P) H0) (hD : va_D F ([(la, .inr (4, [.int (mod), .ref (ea), .int (nI (L.length))])), (x, .inr (2, [.ref (la), .ref (na), .int (ju), .int (mi), .int (lo)])), (na, .inl (Y 0, 128, .inl nt)), (ea, .inl (Y 1, cap, .inr (.inr (.inr (.inr es)))))] ++ plW P)) (hq : cQ cap es L P) : UC l yX2_notePermitted wsX2_notePermitted 4 0 0 D Y (eT) [.ref (x)] H0 F (bV_ (fun H => ∃ nt : Nat → Int32, (∀ k, k < 128 → nt k = pmI (RS L) (k / 4) (k % 4) (-1)) ∧ va_P D aCl (cW Y la x na ea cap (mod) (es) (nt) (ju) (mi) (lo) (L) (P)) H)) := by
  refine UCv.start (cc := cX2_notePermitted) (maxL := 2) (by decide) rfl (Nat.le_of_ble_eq_true rfl) ?_
  intro p e s m args below meth c ls H locs Q S hK hH0 hE0 hHH hS hl hin hE
  rw [← hHH] at hP
  have S : CallFix p m c cX2_notePermitted 2 s args wsX2_notePermitted RX2 := S
  have hx := S.1
  have hb := S.2.1
  have hts := S.2.2.2.2
  have hl : lv_has ls 2 [(0, .ref (x))] := hl
  have hA0 := rdA_of hP hq
  obtain ⟨hX, hL, hN, hE2, hR, hok⟩ := id hA0
  have hlen := RS_len L
  have hn : L.length ≤ 16 := by have := hok.1; omega
  have hoo : ∀ i, i < L.length → rvOk (gt (RS L) i) := fun i hi => hok.2 i (by omega)
  have hcc := hq.2.2.1
  have hcc2 := hq.2.2.2.1
  refine lv_iconst (v := (nI (0))) hx hb dX2_notePermitted_0 (by decide +kernel) ?_
  refine lv_istore_n (lv' := [(1, .int (nI (0))), (0, .ref (x))]) hx hb dX2_notePermitted_1 rfl hl (by decide) rfl (fun ls hl => ?_)
  have loop_2 : ∀ (fu_2 : Nat) (q : Nat) (nt1 : Nat → Int32), (q ≤ 128) → (∀ k, k < q → nt1 k = (fun k => pmI (RS L) (k / 4) (k % 4) (-1)) k) → 128 - q < fu_2 → ∀ (H : Heap) (locs : List Loc), va_P D aCl ([(la, .inr (4, [.int (mod), .ref (ea), .int (nI (L.length))])), (x, .inr (2, [.ref (la), .ref (na), .int (ju), .int (mi), .int (lo)])), (na, .inl (Y 0, 128, .inl nt1)), (ea, .inl (Y 1, cap, .inr (.inr (.inr (.inr es)))))] ++ plW P) H → va_S F H0 H locs → ∀ ls : Array Slot, lv_has ls 2 [(1, .int (nI (q))), (0, .ref (x))] → W p l e (rmG 4 0 0) s m args below meth c H locs 0 0 Q (F0 m 2 ls []) := by
    intro fu_2
    induction fu_2 with
    | zero => exact fun q nt1 _ _ hk => absurd hk (Nat.not_lt_zero _)
    | succ fu_2 ih_2 =>
      intro q nt1 h1 h2 hk_2 H locs hP hS ls hl
      have hD : va_D F ([(la, .inr (4, [.int (mod), .ref (ea), .int (nI (L.length))])), (x, .inr (2, [.ref (la), .ref (na), .int (ju), .int (mi), .int (lo)])), (na, .inl (Y 0, 128, .inl nt1)), (ea, .inl (Y 1, cap, .inr (.inr (.inr (.inr es)))))] ++ plW P) := va_D.same hD rfl
      refine lv_iload_n hx hb dX2_notePermitted_2 rfl (lv_at hl 0 rfl) ?_
      refine lv_aload_n hx hb dX2_notePermitted_3 rfl (lv_at hl 1 rfl) ?_
      refine nr_get (C := RX2) (T := TX2) (N := 5) (ci := 2) S (fun _ h => List.mem_cons_of_mem _ (List.mem_append_left _ (List.mem_append_left _ (List.mem_append_left _ (List.mem_append_right _ (h)))))) hK hP 1 rfl rfl 1 (by decide) (List.mem_of_getElem? (i := 1) rfl) rfl dX2_notePermitted_4 ?_
      refine va_alen (v := (nI (128))) (ty := .int) hx hb hK.1 hP 2 0 rfl rfl rfl dX2_notePermitted_7 ?_
      refine nr_icmp_ge (tgt := 34) hx hb (by omega) (by omega) dX2_notePermitted_8 (by decide) (fun c_8 => ?_) (fun c_8 => ?_)
      · refine W.widen (k := 0) (n := 0) (by omega) (by omega) ?_
        exact hE _ _ _ _ dX2_notePermitted_34 (⟨nt1, (fun k hk => h2 k (by omega)), hP⟩) hS
      · have hA0 := rdA_of hP hq
        obtain ⟨hX, hL, hN, hE2, hR, hok⟩ := id hA0
        have hlen := RS_len L
        have hn : L.length ≤ 16 := by have := hok.1; omega
        have hoo : ∀ i, i < L.length → rvOk (gt (RS L) i) := fun i hi => hok.2 i (by omega)
        have hcc := hq.2.2.1
        have hcc2 := hq.2.2.2.1
        refine lv_aload_n hx hb dX2_notePermitted_11 rfl (lv_at hl 1 rfl) ?_
        refine nr_get (C := RX2) (T := TX2) (N := 5) (ci := 2) S (fun _ h => List.mem_cons_of_mem _ (List.mem_append_left _ (List.mem_append_left _ (List.mem_append_left _ (List.mem_append_right _ (h)))))) hK hP 1 rfl rfl 1 (by decide) (List.mem_of_getElem? (i := 1) rfl) rfl dX2_notePermitted_12 ?_
        refine lv_iload_n hx hb dX2_notePermitted_15 rfl (lv_at hl 0 rfl) ?_
        refine lv_aload_n hx hb dX2_notePermitted_16 rfl (lv_at hl 1 rfl) ?_
        refine lv_iload_n hx hb dX2_notePermitted_17 rfl (lv_at hl 0 rfl) ?_
        refine lv_iconst (v := (nI (4))) hx hb dX2_notePermitted_18 (by decide +kernel) ?_
        refine nr_idiv hx hb (by omega) (by omega) (by omega) dX2_notePermitted_19 ?_
        refine lv_iload_n hx hb dX2_notePermitted_20 rfl (lv_at hl 0 rfl) ?_
        refine lv_iconst (v := (nI (4))) hx hb dX2_notePermitted_21 (by decide +kernel) ?_
        refine nr_irem hx hb (by omega) (by omega) (by omega) dX2_notePermitted_22 ?_
        refine lv_iconst (v := ((-1 : Int32))) hx hb dX2_notePermitted_23 (by decide +kernel) ?_
        refine Rd.callV (r := (pmI (RS L) (q / 4) (q % 4) ((-1 : Int32)))) (As := [.int (nI (q / 4)), .int (nI (q % 4)), .int ((-1 : Int32))]) S (k_X2_permittedDestinations l hA0 (s0 := q / 4) (p0 := q % 4) (wo := ((-1 : Int32))) (by omega) (by omega)) (cwV 3 hts gX2_notePermitted_X2_permittedDestinations rfl rfl rfl (by decide +kernel) ⟨Nat.le_of_ble_eq_true rfl, Nat.le_of_ble_eq_true rfl⟩) hK (va_recv hK.1 hP (ci := 2) (q0 := 1) rfl rfl) rfl hl.1 rfl (Nat.le_of_ble_eq_true rfl) dX2_notePermitted_24 ⟨Nat.le_of_ble_eq_true rfl, Nat.le_of_ble_eq_true rfl⟩ ?_
        refine nr_iast (n := 128) (f := nt1) (x := (pmI (RS L) (q / 4) (q % 4) ((-1 : Int32)))) S hK hP hD hS 2 rfl (by omega) (by decide) dX2_notePermitted_27 (fun H locs hP hD hS => ?_)
        have hP : va_P D aCl ([(la, .inr (4, [.int (mod), .ref (ea), .int (nI (L.length))])), (x, .inr (2, [.ref (la), .ref (na), .int (ju), .int (mi), .int (lo)])), (na, .inl (Y 0, 128, .inl (upd nt1 (q) (pmI (RS L) (q / 4) (q % 4) ((-1 : Int32)))))), (ea, .inl (Y 1, cap, .inr (.inr (.inr (.inr es)))))] ++ plW P) H := hP
        have hD : va_D F ([(la, .inr (4, [.int (mod), .ref (ea), .int (nI (L.length))])), (x, .inr (2, [.ref (la), .ref (na), .int (ju), .int (mi), .int (lo)])), (na, .inl (Y 0, 128, .inl (upd nt1 (q) (pmI (RS L) (q / 4) (q % 4) ((-1 : Int32)))))), (ea, .inl (Y 1, cap, .inr (.inr (.inr (.inr es)))))] ++ plW P) := hD
        refine lv_iinc (v := (nI (q + 1))) (lv' := [(1, .int (nI (q + 1))), (0, .ref (x))]) hx hb dX2_notePermitted_28 hl (k := 0) rfl (nI_add _ _) (by decide) rfl (fun ls hl => ?_)
        refine lv_goto (tgt := 2) hx hb dX2_notePermitted_31 (by decide) ?_
        exact ih_2 (q + 1) ((upd nt1 (q) (pmI (RS L) (q / 4) (q % 4) ((-1 : Int32))))) (by omega) (crep_s h2) (by omega) _ _ hP hS ls (lv_sub hl [0, 1] rfl)
  exact loop_2 _ (0) (nt) (by decide) (fun _ hj => absurd hj (Nat.not_lt_zero _)) (Nat.lt_succ_self _) _ _ hP hS ls (lv_sub hl [0, 1] rfl)
set_option maxHeartbeats 4000000 in
set_option maxRecDepth 100000 in
theorem k_X2_remove (l : Launch) {D : va_G} {Y : Nat → ClassId} {H0 : Heap} {F : Nat → Prop} {la x na ea cap : Nat} {mod ju mi lo : Int32} {es : Nat → Option Nat} {nt : Nat → Int32} {L P : List RA} {i : Nat} (hP : va_P D aCl ([(la, .inr (4, [.int (mod), .ref (ea), .int (nI (L.length))])), (x, .inr (2, [.ref (la), .ref (na), .int (ju), .int (mi), .int (lo)])), (na, .inl (Y 0, 128, .inl nt)), (ea, .inl (Y 1, cap, .inr (.inr (.inr (.inr es)))))] ++ plW P) H0) (hD : va_D F ([(la, .inr (4, [.int (mod), .ref (ea), .int (nI (L.length))])), (x, .inr (2, [.ref (la), .ref (na), .int (ju), .int (mi), .int (lo)])), (na, .inl (Y 0, 128, .inl nt)), (ea, .inl (Y 1, cap, .inr (.inr (.inr (.inr es)))))] ++ plW P)) (hq : cQ cap es L P) (hi : i < L.length) : UC l yX2_remove wsX2_remove 5 0 0 D Y (eT) [.ref (x), .int (nI (i))] H0 F (bI_ (nI (chN (RS L) ((RS L).eraseIdx i))) (ccB D Y F la x na ea cap ju mi lo ((RS L).eraseIdx i))) := by
  refine UCi.start (cc := cX2_remove) (maxL := 2) (rt := .int) (by decide) rfl (Nat.le_of_ble_eq_true rfl) ?_
  intro p e s m args below meth c ls H locs Q S hK hH0 hE0 hHH hS hl hin hE
  rw [← hHH] at hP
  have S : CallFix p m c cX2_remove 2 s args wsX2_remove RX2 := S
  have hx := S.1
  have hb := S.2.1
  have hts := S.2.2.2.2
  have hl : lv_has ls 2 [(0, .ref (x)), (1, .int (nI (i)))] := hl
  have hA0 := rdA_of hP hq
  obtain ⟨hX, hL, hN, hE2, hR, hok⟩ := id hA0
  have hlen := RS_len L
  have hn : L.length ≤ 16 := by have := hok.1; omega
  have hoo : ∀ i, i < L.length → rvOk (gt (RS L) i) := fun i hi => hok.2 i (by omega)
  have hcc := hq.2.2.1
  have hcc2 := hq.2.2.2.1
  refine lv_aload_n hx hb dX2_remove_0 rfl (lv_at hl 0 rfl) ?_
  refine lv_iload_n hx hb dX2_remove_1 rfl (lv_at hl 1 rfl) ?_
  refine RdU.callV (As := [.int (nI (i))]) S (k_X2_checkPlace l hA0 (i := i) (by omega)) (cwV 1 hts gX2_remove_X2_checkPlace rfl rfl rfl (by decide +kernel) ⟨Nat.le_of_ble_eq_true rfl, Nat.le_of_ble_eq_true rfl⟩) hK (va_recv hK.1 hP (ci := 2) (q0 := 1) rfl rfl) rfl hl.1 rfl (Nat.le_of_ble_eq_true rfl) dX2_remove_2 ⟨Nat.le_of_ble_eq_true rfl, Nat.le_of_ble_eq_true rfl⟩ ?_
  refine lv_aload_n hx hb dX2_remove_5 rfl (lv_at hl 0 rfl) ?_
  refine UC.callV (As := []) S (k_X2_notePermitted l hP hD hq) (cwV 0 hts gX2_remove_X2_notePermitted rfl rfl rfl (by decide +kernel) ⟨Nat.le_of_ble_eq_true rfl, Nat.le_of_ble_eq_true rfl⟩) hK eT_bl (fun _ _ _ => trivial) hS (fun _ h => h) (va_recv hK.1 hP (ci := 2) (q0 := 1) rfl rfl) rfl hl.1 rfl (Nat.le_of_ble_eq_true rfl) dX2_remove_6 ⟨Nat.le_of_ble_eq_true rfl, Nat.le_of_ble_eq_true rfl⟩ (fun v H locs hB hS hsz hkp => ?_)
  obtain ⟨rfl, hB⟩ := hB
  obtain ⟨nt, hbn, hP⟩ := hB
  have hP : va_P D aCl ([(la, .inr (4, [.int (mod), .ref (ea), .int (nI (L.length))])), (x, .inr (2, [.ref (la), .ref (na), .int (ju), .int (mi), .int (lo)])), (na, .inl (Y 0, 128, .inl nt)), (ea, .inl (Y 1, cap, .inr (.inr (.inr (.inr es)))))] ++ plW P) H := hP
  have hD : va_D F ([(la, .inr (4, [.int (mod), .ref (ea), .int (nI (L.length))])), (x, .inr (2, [.ref (la), .ref (na), .int (ju), .int (mi), .int (lo)])), (na, .inl (Y 0, 128, .inl nt)), (ea, .inl (Y 1, cap, .inr (.inr (.inr (.inr es)))))] ++ plW P) := va_D.same hD rfl
  have hA0 := rdA_of hP hq
  obtain ⟨hX, hL, hN, hE2, hR, hok⟩ := id hA0
  have hlen := RS_len L
  have hn : L.length ≤ 16 := by have := hok.1; omega
  have hoo : ∀ i, i < L.length → rvOk (gt (RS L) i) := fun i hi => hok.2 i (by omega)
  have hcc := hq.2.2.1
  have hcc2 := hq.2.2.2.1
  refine lv_aload_n hx hb dX2_remove_9 rfl (lv_at hl 0 rfl) ?_
  refine nr_get (C := RX2) (T := TX2) (N := 5) (ci := 2) S (fun _ h => List.mem_cons_of_mem _ (List.mem_append_left _ (List.mem_append_left _ (List.mem_append_left _ (List.mem_append_left _ (List.mem_append_right _ (h))))))) hK hP 1 rfl rfl 0 (by decide) (List.mem_of_getElem? (i := 1) rfl) rfl dX2_remove_10 ?_
  refine lv_iload_n hx hb dX2_remove_13 rfl (lv_at hl 1 rfl) ?_
  refine UC.callV (As := [.int (nI (i))]) S (k_Jx4a65c_remove_915e3 l hP hD (hes_of hq) hcc hcc2 (i := i) (by omega) (hq.2.2.2.2 (i) (by omega))) (cwV 1 hts gX2_remove_Jx4a65c_remove_915e3 rfl rfl rfl (by decide +kernel) ⟨Nat.le_of_ble_eq_true rfl, Nat.le_of_ble_eq_true rfl⟩) hK eT_bl (fun _ _ _ => trivial) hS (fun _ h => h) (va_recv hK.1 hP (ci := 4) (q0 := 0) rfl rfl) rfl hl.1 rfl (Nat.le_of_ble_eq_true rfl) dX2_remove_14 ⟨Nat.le_of_ble_eq_true rfl, Nat.le_of_ble_eq_true rfl⟩ (fun v H locs hB hS hsz hkp => ?_)
  obtain ⟨a9, rfl, hB⟩ := hB
  obtain ⟨rfl, es, hes2, hP⟩ := hB
  rw [← lenA_erase (p := i) (by omega)] at hP
  have hq := cQ_erase hq (p := i) (by omega) hes2
  have hP : va_P D aCl ([(la, .inr (4, [.int (mod + nI 1), .ref (ea), .int (nI ((L.eraseIdx i).length))])), (x, .inr (2, [.ref (la), .ref (na), .int (ju), .int (mi), .int (lo)])), (na, .inl (Y 0, 128, .inl nt)), (ea, .inl (Y 1, cap, .inr (.inr (.inr (.inr es)))))] ++ plW P) H := hP
  have hD : va_D F ([(la, .inr (4, [.int (mod + nI 1), .ref (ea), .int (nI ((L.eraseIdx i).length))])), (x, .inr (2, [.ref (la), .ref (na), .int (ju), .int (mi), .int (lo)])), (na, .inl (Y 0, 128, .inl nt)), (ea, .inl (Y 1, cap, .inr (.inr (.inr (.inr es)))))] ++ plW P) := va_D.same hD rfl
  refine lv_pop hx hb dX2_remove_17 rfl ?_
  refine lv_aload_n hx hb dX2_remove_18 rfl (lv_at hl 0 rfl) ?_
  refine Rd.callV (r := (nI (sumN (fun k => popI (pmI (RS L) (k / 4) (k % 4) (-1) ^^^ pmI (RS (L.eraseIdx i)) (k / 4) (k % 4) (-1))) 128))) (As := []) S (k_X2_changedSinceNoted l (L := L.eraseIdx i) (gg := fun k => pmI (RS L) (k / 4) (k % 4) (-1)) (rdA_of hP hq) hbn) (cwV 0 hts gX2_remove_X2_changedSinceNoted rfl rfl rfl (by decide +kernel) ⟨Nat.le_of_ble_eq_true rfl, Nat.le_of_ble_eq_true rfl⟩) hK (va_recv hK.1 hP (ci := 2) (q0 := 1) rfl rfl) rfl hl.1 rfl (Nat.le_of_ble_eq_true rfl) dX2_remove_19 ⟨Nat.le_of_ble_eq_true rfl, Nat.le_of_ble_eq_true rfl⟩ ?_
  refine W.widen (k := 0) (n := 0) (by omega) (by omega) ?_
  exact hE _ _ _ _ _ dX2_remove_22 (vp_nar_int _) (by rw [← RS_erase hi]; rfl) (⟨_, _, _, L.eraseIdx i, P, RS_erase hi, hq, hP, hD⟩) hS
set_option maxHeartbeats 4000000 in
set_option maxRecDepth 100000 in
theorem k_X2_move (l : Launch) {D : va_G} {Y : Nat → ClassId} {H0 : Heap} {F : Nat → Prop} {la x na ea cap : Nat} {mod ju mi lo : Int32} {es : Nat → Option Nat} {nt : Nat → Int32} {L P : List RA} {i j : Nat} (hP : va_P D aCl ([(la, .inr (4, [.int (mod), .ref (ea), .int (nI (L.length))])), (x, .inr (2, [.ref (la), .ref (na), .int (ju), .int (mi), .int (lo)])), (na, .inl (Y 0, 128, .inl nt)), (ea, .inl (Y 1, cap, .inr (.inr (.inr (.inr es)))))] ++ plW P) H0) (hD : va_D F ([(la, .inr (4, [.int (mod), .ref (ea), .int (nI (L.length))])), (x, .inr (2, [.ref (la), .ref (na), .int (ju), .int (mi), .int (lo)])), (na, .inl (Y 0, 128, .inl nt)), (ea, .inl (Y 1, cap, .inr (.inr (.inr (.inr es)))))] ++ plW P)) (hq : cQ cap es L P) (hi : i < L.length) (hj : j < L.length) : UC l yX2_move wsX2_move 5 0 0 D Y (eT) [.ref (x), .int (nI (i)), .int (nI (j))] H0 F (bI_ (nI (chN (RS L) (((RS L).eraseIdx i).insertIdx j (gt (RS L) i)))) (ccB D Y F la x na ea cap ju mi lo (((RS L).eraseIdx i).insertIdx j (gt (RS L) i)))) := by
  refine UCi.start (cc := cX2_move) (maxL := 4) (rt := .int) (by decide) rfl (Nat.le_of_ble_eq_true rfl) ?_
  intro p e s m args below meth c ls H locs Q S hK hH0 hE0 hHH hS hl hin hE
  rw [← hHH] at hP
  have S : CallFix p m c cX2_move 4 s args wsX2_move RX2 := S
  have hx := S.1
  have hb := S.2.1
  have hts := S.2.2.2.2
  have hl : lv_has ls 4 [(0, .ref (x)), (1, .int (nI (i))), (2, .int (nI (j)))] := hl
  have hA0 := rdA_of hP hq
  obtain ⟨hX, hL, hN, hE2, hR, hok⟩ := id hA0
  have hlen := RS_len L
  have hn : L.length ≤ 16 := by have := hok.1; omega
  have hoo : ∀ i, i < L.length → rvOk (gt (RS L) i) := fun i hi => hok.2 i (by omega)
  have hcc := hq.2.2.1
  have hcc2 := hq.2.2.2.1
  have hq0 := hq
  obtain ⟨kv, fsv, hv⟩ := hv_of hq hi
  have hRS : RS ((L.eraseIdx i).insertIdx j (gl L i)) = ((RS L).eraseIdx i).insertIdx j (gt (RS L) i) := by rw [RS_insert (by rw [lenA_erase hi]; omega), RS_erase hi, gt_RS]
  refine lv_aload_n hx hb dX2_move_0 rfl (lv_at hl 0 rfl) ?_
  refine lv_iload_n hx hb dX2_move_1 rfl (lv_at hl 1 rfl) ?_
  refine RdA.callV (x := (gl L (i)).2.1) (As := [.int (nI (i))]) S (k_X2_ruleAt l hA0 (i := i) (by omega)) (cwV 1 hts gX2_move_X2_ruleAt rfl rfl rfl (by decide +kernel) ⟨Nat.le_of_ble_eq_true rfl, Nat.le_of_ble_eq_true rfl⟩) hK (va_recv hK.1 hP (ci := 2) (q0 := 1) rfl rfl) rfl hl.1 rfl (Nat.le_of_ble_eq_true rfl) dX2_move_2 ⟨Nat.le_of_ble_eq_true rfl, Nat.le_of_ble_eq_true rfl⟩ ?_
  refine lv_astore_n (lv' := [(3, .ref ((gl L (i)).2.1)), (0, .ref (x)), (1, .int (nI (i))), (2, .int (nI (j)))]) hx hb dX2_move_5 rfl hl (by decide) rfl (fun ls hl => ?_)
  refine lv_aload_n hx hb dX2_move_6 rfl (lv_at hl 1 rfl) ?_
  refine lv_iload_n hx hb dX2_move_7 rfl (lv_at hl 3 rfl) ?_
  refine RdU.callV (As := [.int (nI (j))]) S (k_X2_checkPlace l hA0 (i := j) (by omega)) (cwV 1 hts gX2_move_X2_checkPlace rfl rfl rfl (by decide +kernel) ⟨Nat.le_of_ble_eq_true rfl, Nat.le_of_ble_eq_true rfl⟩) hK (va_recv hK.1 hP (ci := 2) (q0 := 1) rfl rfl) rfl hl.1 rfl (Nat.le_of_ble_eq_true rfl) dX2_move_8 ⟨Nat.le_of_ble_eq_true rfl, Nat.le_of_ble_eq_true rfl⟩ ?_
  refine lv_aload_n hx hb dX2_move_11 rfl (lv_at hl 1 rfl) ?_
  refine UC.callV (As := []) S (k_X2_notePermitted l hP hD hq) (cwV 0 hts gX2_move_X2_notePermitted rfl rfl rfl (by decide +kernel) ⟨Nat.le_of_ble_eq_true rfl, Nat.le_of_ble_eq_true rfl⟩) hK eT_bl (fun _ _ _ => trivial) hS (fun _ h => h) (va_recv hK.1 hP (ci := 2) (q0 := 1) rfl rfl) rfl hl.1 rfl (Nat.le_of_ble_eq_true rfl) dX2_move_12 ⟨Nat.le_of_ble_eq_true rfl, Nat.le_of_ble_eq_true rfl⟩ (fun v H locs hB hS hsz hkp => ?_)
  obtain ⟨rfl, hB⟩ := hB
  obtain ⟨nt, hbn, hP⟩ := hB
  have hP : va_P D aCl ([(la, .inr (4, [.int (mod), .ref (ea), .int (nI (L.length))])), (x, .inr (2, [.ref (la), .ref (na), .int (ju), .int (mi), .int (lo)])), (na, .inl (Y 0, 128, .inl nt)), (ea, .inl (Y 1, cap, .inr (.inr (.inr (.inr es)))))] ++ plW P) H := hP
  have hD : va_D F ([(la, .inr (4, [.int (mod), .ref (ea), .int (nI (L.length))])), (x, .inr (2, [.ref (la), .ref (na), .int (ju), .int (mi), .int (lo)])), (na, .inl (Y 0, 128, .inl nt)), (ea, .inl (Y 1, cap, .inr (.inr (.inr (.inr es)))))] ++ plW P) := va_D.same hD rfl
  have hA0 := rdA_of hP hq
  obtain ⟨hX, hL, hN, hE2, hR, hok⟩ := id hA0
  have hlen := RS_len L
  have hn : L.length ≤ 16 := by have := hok.1; omega
  have hoo : ∀ i, i < L.length → rvOk (gt (RS L) i) := fun i hi => hok.2 i (by omega)
  have hcc := hq.2.2.1
  have hcc2 := hq.2.2.2.1
  refine lv_aload_n hx hb dX2_move_15 rfl (lv_at hl 1 rfl) ?_
  refine nr_get (C := RX2) (T := TX2) (N := 5) (ci := 2) S (fun _ h => List.mem_cons_of_mem _ (List.mem_append_left _ (List.mem_append_left _ (List.mem_append_left _ (List.mem_append_left _ (List.mem_append_right _ (h))))))) hK hP 1 rfl rfl 0 (by decide) (List.mem_of_getElem? (i := 1) rfl) rfl dX2_move_16 ?_
  refine lv_iload_n hx hb dX2_move_19 rfl (lv_at hl 2 rfl) ?_
  refine UC.callV (As := [.int (nI (i))]) S (k_Jx4a65c_remove_915e3 l hP hD (hes_of hq) hcc hcc2 (i := i) (by omega) (hq.2.2.2.2 (i) (by omega))) (cwV 1 hts gX2_move_Jx4a65c_remove_915e3 rfl rfl rfl (by decide +kernel) ⟨Nat.le_of_ble_eq_true rfl, Nat.le_of_ble_eq_true rfl⟩) hK eT_bl (fun _ _ _ => trivial) hS (fun _ h => h) (va_recv hK.1 hP (ci := 4) (q0 := 0) rfl rfl) rfl hl.1 rfl (Nat.le_of_ble_eq_true rfl) dX2_move_20 ⟨Nat.le_of_ble_eq_true rfl, Nat.le_of_ble_eq_true rfl⟩ (fun v H locs hB hS hsz hkp => ?_)
  obtain ⟨a9, rfl, hB⟩ := hB
  obtain ⟨rfl, es, hes2, hP⟩ := hB
  rw [← lenA_erase (p := i) (by omega)] at hP
  have hq := cQ_erase hq (p := i) (by omega) hes2
  have hP : va_P D aCl ([(la, .inr (4, [.int (mod + nI 1), .ref (ea), .int (nI ((L.eraseIdx i).length))])), (x, .inr (2, [.ref (la), .ref (na), .int (ju), .int (mi), .int (lo)])), (na, .inl (Y 0, 128, .inl nt)), (ea, .inl (Y 1, cap, .inr (.inr (.inr (.inr es)))))] ++ plW P) H := hP
  have hD : va_D F ([(la, .inr (4, [.int (mod + nI 1), .ref (ea), .int (nI ((L.eraseIdx i).length))])), (x, .inr (2, [.ref (la), .ref (na), .int (ju), .int (mi), .int (lo)])), (na, .inl (Y 0, 128, .inl nt)), (ea, .inl (Y 1, cap, .inr (.inr (.inr (.inr es)))))] ++ plW P) := va_D.same hD rfl
  refine lv_pop hx hb dX2_move_23 rfl ?_
  refine lv_aload_n hx hb dX2_move_24 rfl (lv_at hl 1 rfl) ?_
  refine nr_get (C := RX2) (T := TX2) (N := 5) (ci := 2) S (fun _ h => List.mem_cons_of_mem _ (List.mem_append_left _ (List.mem_append_left _ (List.mem_append_left _ (List.mem_append_left _ (List.mem_append_right _ (h))))))) hK hP 1 rfl rfl 0 (by decide) (List.mem_of_getElem? (i := 1) rfl) rfl dX2_move_25 ?_
  refine lv_iload_n hx hb dX2_move_28 rfl (lv_at hl 3 rfl) ?_
  refine lv_aload_n hx hb dX2_move_29 rfl (lv_at hl 0 rfl) ?_
  refine UC.callV (As := [.int (nI (j)), .ref ((gl L (i)).2.1)]) S (k_Jx4a65c_add_7a177 l hP hD (hes_of hq) (by have := lenA_erase (p := i) hi; omega) hcc2 (i := j) (by have := lenA_erase (p := i) hi; omega) (by have := lenA_erase (p := i) hi; omega) hv) (cwV 2 hts gX2_move_Jx4a65c_add_7a177 rfl rfl rfl (by decide +kernel) ⟨Nat.le_of_ble_eq_true rfl, Nat.le_of_ble_eq_true rfl⟩) hK eT_bl (fun _ _ _ => trivial) hS (fun _ h => h) (va_recv hK.1 hP (ci := 4) (q0 := 0) rfl rfl) rfl hl.1 rfl (Nat.le_of_ble_eq_true rfl) dX2_move_30 ⟨Nat.le_of_ble_eq_true rfl, Nat.le_of_ble_eq_true rfl⟩ (fun v H locs hB hS hsz hkp => ?_)
  obtain ⟨rfl, hB⟩ := hB
  obtain ⟨es3, hes3, hP⟩ := hB
  have hl9 := lenA_erase (p := i) hi
  rw [show (L.eraseIdx i).length + 1 = ((L.eraseIdx i).insertIdx j (gl L i)).length from by rw [lenA_insert (by omega)]] at hP
  have hq := cQ_move hq0 hi hj hes2 (fun k hk => hes3 k (by omega))
  have hP : va_P D aCl ([(la, .inr (4, [.int (mod + nI 1 + nI 1), .ref (ea), .int (nI (((L.eraseIdx i).insertIdx j (gl L i)).length))])), (x, .inr (2, [.ref (la), .ref (na), .int (ju), .int (mi), .int (lo)])), (na, .inl (Y 0, 128, .inl nt)), (ea, .inl (Y 1, cap, .inr (.inr (.inr (.inr es3)))))] ++ plW P) H := hP
  have hD : va_D F ([(la, .inr (4, [.int (mod + nI 1 + nI 1), .ref (ea), .int (nI (((L.eraseIdx i).insertIdx j (gl L i)).length))])), (x, .inr (2, [.ref (la), .ref (na), .int (ju), .int (mi), .int (lo)])), (na, .inl (Y 0, 128, .inl nt)), (ea, .inl (Y 1, cap, .inr (.inr (.inr (.inr es3)))))] ++ plW P) := va_D.same hD rfl
  refine lv_aload_n hx hb dX2_move_33 rfl (lv_at hl 1 rfl) ?_
  refine Rd.callV (r := (nI (sumN (fun k => popI (pmI (RS L) (k / 4) (k % 4) (-1) ^^^ pmI (RS ((L.eraseIdx i).insertIdx j (gl L i))) (k / 4) (k % 4) (-1))) 128))) (As := []) S (k_X2_changedSinceNoted l (L := (L.eraseIdx i).insertIdx j (gl L i)) (gg := fun k => pmI (RS L) (k / 4) (k % 4) (-1)) (rdA_of hP hq) hbn) (cwV 0 hts gX2_move_X2_changedSinceNoted rfl rfl rfl (by decide +kernel) ⟨Nat.le_of_ble_eq_true rfl, Nat.le_of_ble_eq_true rfl⟩) hK (va_recv hK.1 hP (ci := 2) (q0 := 1) rfl rfl) rfl hl.1 rfl (Nat.le_of_ble_eq_true rfl) dX2_move_34 ⟨Nat.le_of_ble_eq_true rfl, Nat.le_of_ble_eq_true rfl⟩ ?_
  refine W.widen (k := 0) (n := 0) (by omega) (by omega) ?_
  exact hE _ _ _ _ _ dX2_move_37 (vp_nar_int _) (by rw [← hRS]; rfl) (⟨_, _, _, (L.eraseIdx i).insertIdx j (gl L i), P, hRS, hq, hP, hD⟩) hS
