/-! the class: judging, dropping, sorting -/
set_option maxHeartbeats 4000000 in
set_option maxRecDepth 100000 in
theorem k_X2_decider (l : Launch) {D : va_G} {Y : Nat → ClassId} {H : Heap} {x la na ea cap : Nat} {mod ju mi lo : Int32} {es : Nat → Option Nat} {nt : Nat → Int32} {L : List RA} {s0 d0 p0 : Nat}  (hA : rdA D Y x la na ea cap mod es nt ju mi lo L H) (hs : s0 < 32) (hd : d0 < 32) (hp : p0 < 4) (hf : fmN (RS L) s0 d0 p0 < L.length) : Rd l yX2_decider wsX2_decider 4 D Y [.ref (x), .int (nI (s0)), .int (nI (d0)), .int (nI (p0))] H (nI (fmN (RS L) s0 d0 p0)) := by
  refine Rd.start (cc := cX2_decider) (maxL := 5) (rt := .int) (by decide) rfl (Nat.le_of_ble_eq_true rfl) ?_
  intro p e s m args below meth c ls Q S hK hl hE
  have S : CallFix p m c cX2_decider 5 s args wsX2_decider RX2 := S
  have hx := S.1
  have hb := S.2.1
  have hts := S.2.2.2.2
  have hl : lv_has ls 5 [(0, .ref (x)), (1, .int (nI (s0))), (2, .int (nI (d0))), (3, .int (nI (p0)))] := hl
  have hA0 := hA
  obtain ⟨hX, hL, hN, hE2, hR, hok⟩ := hA
  have hlen : (RS L).length = L.length := List.length_map ..
  have hn : L.length ≤ 16 := by have := hok.1; omega
  have hoo : ∀ i, i < L.length → rvOk (gt (RS L) i) := fun i hi => hok.2 i (by omega)
  refine lv_iload_n hx hb dX2_decider_0 rfl (lv_at hl 1 rfl) ?_
  refine lv_iload_n hx hb dX2_decider_1 rfl (lv_at hl 2 rfl) ?_
  refine lv_iload_n hx hb dX2_decider_2 rfl (lv_at hl 3 rfl) ?_
  refine RdU.callS (As := [.int (nI (s0)), .int (nI (d0)), .int (nI (p0))]) S (k_X2_checkPacket l (s0 := s0) (d0 := d0) (p0 := p0) (by omega) (by omega) (by omega)) (va_cwS 3 hts gX2_decider_X2_checkPacket rfl rfl rfl (by decide +kernel) ⟨Nat.le_of_ble_eq_true rfl, Nat.le_of_ble_eq_true rfl⟩) hK rfl hl.1 rfl (Nat.le_of_ble_eq_true rfl) dX2_decider_3 ⟨Nat.zero_le _, Nat.zero_le _⟩ ?_
  refine lv_aload_n hx hb dX2_decider_6 rfl (lv_at hl 0 rfl) ?_
  refine lv_iload_n hx hb dX2_decider_7 rfl (lv_at hl 1 rfl) ?_
  refine lv_iload_n hx hb dX2_decider_8 rfl (lv_at hl 2 rfl) ?_
  refine lv_iload_n hx hb dX2_decider_9 rfl (lv_at hl 3 rfl) ?_
  refine Rd.callV (r := (nI (fmN (RS L) (s0) (d0) (p0)))) (As := [.int (nI (s0)), .int (nI (d0)), .int (nI (p0))]) S (k_X2_firstMatch l hA0 (s0 := s0) (d0 := d0) (p0 := p0) (by omega) (by omega) (by omega)) (cwV 3 hts gX2_decider_X2_firstMatch rfl rfl rfl (by decide +kernel) ⟨Nat.le_of_ble_eq_true rfl, Nat.le_of_ble_eq_true rfl⟩) hK (va_recv hK.1 hX (ci := 2) (q0 := 0) rfl rfl) rfl hl.1 rfl (Nat.le_of_ble_eq_true rfl) dX2_decider_10 ⟨Nat.zero_le _, Nat.zero_le _⟩ ?_
  refine lv_istore (lv' := [(4, .int (nI (fmN (RS L) (s0) (d0) (p0)))), (0, .ref (x)), (1, .int (nI (s0))), (2, .int (nI (d0))), (3, .int (nI (p0)))]) hx hb dX2_decider_13 hl (by decide) rfl (fun ls hl => ?_)
  refine lv_iload hx hb dX2_decider_15 (lv_at hl 0 rfl) ?_
  refine lv_aload_n hx hb dX2_decider_17 rfl (lv_at hl 1 rfl) ?_
  refine nr_get (C := RX2) (T := TX2) (N := 5) (ci := 2) S (fun _ h => List.mem_cons_of_mem _ (List.mem_append_left _ (List.mem_append_left _ (List.mem_append_left _ (List.mem_append_left _ (List.mem_append_left _ (List.mem_append_right _ (h)))))))) hK hX 0 rfl rfl 0 (by decide) (List.mem_of_getElem? (i := 3) rfl) rfl dX2_decider_18 ?_
  refine Rd.callV (r := (nI (L.length))) (As := []) S (k_Jx4a65c_size_8abf5 l hL) (cwV 0 hts gX2_decider_Jx4a65c_size_8abf5 rfl rfl rfl (by decide +kernel) ⟨Nat.le_of_ble_eq_true rfl, Nat.le_of_ble_eq_true rfl⟩) hK (va_recv hK.1 hL (ci := 4) (q0 := 0) rfl rfl) rfl hl.1 rfl (Nat.le_of_ble_eq_true rfl) dX2_decider_21 ⟨Nat.zero_le _, Nat.zero_le _⟩ ?_
  refine nr_icmp_lt (tgt := 37) hx hb (by omega) (by omega) dX2_decider_24 (by decide) (fun c_24 => ?_) (fun c_24 => absurd c_24 (by omega))
  refine lv_iload hx hb dX2_decider_37 (lv_at hl 0 rfl) ?_
  exact hE _ _ _ dX2_decider_39 (vp_nar_int _) (rfl)
set_option maxHeartbeats 4000000 in
set_option maxRecDepth 100000 in
theorem k_X2_judge_m (l : Launch) {D : va_G} {Y : Nat → ClassId} {H0 : Heap} {F : Nat → Prop} {la x na ea cap : Nat} {mod ju mi lo : Int32} {es : Nat → Option Nat} {nt : Nat → Int32} {L P : List RA} {s0 d0 p0 : Nat} (hP : va_P D aCl ([(la, .inr (4, [.int (mod), .ref (ea), .int (nI (L.length))])), (x, .inr (2, [.ref (la), .ref (na), .int (ju), .int (mi), .int (lo)])), (na, .inl (Y 0, 128, .inl nt)), (ea, .inl (Y 1, cap, .inr (.inr (.inr (.inr es)))))] ++ plW P) H0) (hD : va_D F ([(la, .inr (4, [.int (mod), .ref (ea), .int (nI (L.length))])), (x, .inr (2, [.ref (la), .ref (na), .int (ju), .int (mi), .int (lo)])), (na, .inl (Y 0, 128, .inl nt)), (ea, .inl (Y 1, cap, .inr (.inr (.inr (.inr es)))))] ++ plW P)) (hq : cQ cap es L P) (hs : s0 < 32) (hd : d0 < 32) (hp : p0 < 4) (hm : fmN (RS L) s0 d0 p0 = L.length) : UC l yX2_judge wsX2_judge 5 0 0 D Y (eT) [.ref (x), .int (nI (s0)), .int (nI (d0)), .int (nI (p0))] H0 F (bI_ (nI 0) (ccB D Y F la x na ea cap (ju + nI 1) (mi + nI 1) (lo + nI L.length) (RS L))) := by
  refine UCi.start (cc := cX2_judge) (maxL := 6) (rt := .boolean) (by decide) rfl (Nat.le_of_ble_eq_true rfl) ?_
  intro p e s m args below meth c ls H locs Q S hK hH0 hE0 hHH hS hl hin hE
  rw [← hHH] at hP
  have S : CallFix p m c cX2_judge 6 s args wsX2_judge RX2 := S
  have hx := S.1
  have hb := S.2.1
  have hts := S.2.2.2.2
  have hl : lv_has ls 6 [(0, .ref (x)), (1, .int (nI (s0))), (2, .int (nI (d0))), (3, .int (nI (p0)))] := hl
  have hA0 := rdA_of hP hq
  obtain ⟨hX, hL, hN, hE2, hR, hok⟩ := id hA0
  have hlen := RS_len L
  have hn : L.length ≤ 16 := by have := hok.1; omega
  have hoo : ∀ i, i < L.length → rvOk (gt (RS L) i) := fun i hi => hok.2 i (by omega)
  have hcc := hq.2.2.1
  have hcc2 := hq.2.2.2.1
  refine lv_iload_n hx hb dX2_judge_0 rfl (lv_at hl 1 rfl) ?_
  refine lv_iload_n hx hb dX2_judge_1 rfl (lv_at hl 2 rfl) ?_
  refine lv_iload_n hx hb dX2_judge_2 rfl (lv_at hl 3 rfl) ?_
  refine RdU.callS (As := [.int (nI (s0)), .int (nI (d0)), .int (nI (p0))]) S (k_X2_checkPacket l (s0 := s0) (d0 := d0) (p0 := p0) (by omega) (by omega) (by omega)) (va_cwS 3 hts gX2_judge_X2_checkPacket rfl rfl rfl (by decide +kernel) ⟨Nat.le_of_ble_eq_true rfl, Nat.le_of_ble_eq_true rfl⟩) hK rfl hl.1 rfl (Nat.le_of_ble_eq_true rfl) dX2_judge_3 ⟨Nat.le_of_ble_eq_true rfl, Nat.le_of_ble_eq_true rfl⟩ ?_
  refine lv_aload_n hx hb dX2_judge_6 rfl (lv_at hl 0 rfl) ?_
  refine lv_iload_n hx hb dX2_judge_7 rfl (lv_at hl 1 rfl) ?_
  refine lv_iload_n hx hb dX2_judge_8 rfl (lv_at hl 2 rfl) ?_
  refine lv_iload_n hx hb dX2_judge_9 rfl (lv_at hl 3 rfl) ?_
  refine Rd.callV (r := (nI (fmN (RS L) (s0) (d0) (p0)))) (As := [.int (nI (s0)), .int (nI (d0)), .int (nI (p0))]) S (k_X2_firstMatch l hA0 (s0 := s0) (d0 := d0) (p0 := p0) (by omega) (by omega) (by omega)) (cwV 3 hts gX2_judge_X2_firstMatch rfl rfl rfl (by decide +kernel) ⟨Nat.le_of_ble_eq_true rfl, Nat.le_of_ble_eq_true rfl⟩) hK (va_recv hK.1 hP (ci := 2) (q0 := 1) rfl rfl) rfl hl.1 rfl (Nat.le_of_ble_eq_true rfl) dX2_judge_10 ⟨Nat.le_of_ble_eq_true rfl, Nat.le_of_ble_eq_true rfl⟩ ?_
  refine lv_istore (lv' := [(4, .int (nI (fmN (RS L) (s0) (d0) (p0)))), (0, .ref (x)), (1, .int (nI (s0))), (2, .int (nI (d0))), (3, .int (nI (p0)))]) hx hb dX2_judge_13 hl (by decide) rfl (fun ls hl => ?_)
  refine lv_aload_n hx hb dX2_judge_15 rfl (lv_at hl 1 rfl) ?_
  refine lv_dup hx hb dX2_judge_16 rfl ?_
  refine nr_get (C := RX2) (T := TX2) (N := 5) (ci := 2) S (fun _ h => List.mem_cons_of_mem _ (List.mem_append_left _ (List.mem_append_left _ (List.mem_append_left _ (List.mem_append_left _ (List.mem_append_right _ (h))))))) hK hP 1 rfl rfl 2 (by decide) (List.mem_of_getElem? (i := 1) rfl) rfl dX2_judge_17 ?_
  refine lv_iconst (v := (nI (1))) hx hb dX2_judge_20 (by decide +kernel) ?_
  refine lv_iadd hx hb dX2_judge_21 ?_
  refine nr_put (C := RX2) (T := TX2) (N := 5) (ci := 2) (v := .int (((ju) + (nI (1))))) S (fun _ h => List.mem_cons_of_mem _ (List.mem_append_left _ (List.mem_append_left _ (List.mem_append_left _ (List.mem_append_left _ (List.mem_append_right _ (h))))))) tyX2 tyX2_ok nmX2 hK hP hD hS 1 rfl rfl 2 (by decide) (List.mem_of_getElem? (i := 1) rfl) rfl rfl rfl (Nat.le_of_ble_eq_true rfl) dX2_judge_22 (fun H locs hP hD hS => ?_)
  have hP : va_P D aCl ([(la, .inr (4, [.int (mod), .ref (ea), .int (nI (L.length))])), (x, .inr (2, [.ref (la), .ref (na), .int (((ju) + (nI (1)))), .int (mi), .int (lo)])), (na, .inl (Y 0, 128, .inl nt)), (ea, .inl (Y 1, cap, .inr (.inr (.inr (.inr es)))))] ++ plW P) H := hP
  have hD : va_D F ([(la, .inr (4, [.int (mod), .ref (ea), .int (nI (L.length))])), (x, .inr (2, [.ref (la), .ref (na), .int (((ju) + (nI (1)))), .int (mi), .int (lo)])), (na, .inl (Y 0, 128, .inl nt)), (ea, .inl (Y 1, cap, .inr (.inr (.inr (.inr es)))))] ++ plW P) := hD
  have hA0 := rdA_of hP hq
  obtain ⟨hX, hL, hN, hE2, hR, hok⟩ := id hA0
  have hlen := RS_len L
  have hn : L.length ≤ 16 := by have := hok.1; omega
  have hoo : ∀ i, i < L.length → rvOk (gt (RS L) i) := fun i hi => hok.2 i (by omega)
  have hcc := hq.2.2.1
  have hcc2 := hq.2.2.2.1
  refine lv_iload hx hb dX2_judge_25 (lv_at hl 0 rfl) ?_
  refine lv_aload_n hx hb dX2_judge_27 rfl (lv_at hl 1 rfl) ?_
  refine nr_get (C := RX2) (T := TX2) (N := 5) (ci := 2) S (fun _ h => List.mem_cons_of_mem _ (List.mem_append_left _ (List.mem_append_left _ (List.mem_append_left _ (List.mem_append_left _ (List.mem_append_right _ (h))))))) hK hP 1 rfl rfl 0 (by decide) (List.mem_of_getElem? (i := 2) rfl) rfl dX2_judge_28 ?_
  refine Rd.callV (r := (nI (L.length))) (As := []) S (k_Jx4a65c_size_8abf5 l hL) (cwV 0 hts gX2_judge_Jx4a65c_size_8abf5 rfl rfl rfl (by decide +kernel) ⟨Nat.le_of_ble_eq_true rfl, Nat.le_of_ble_eq_true rfl⟩) hK (va_recv hK.1 hP (ci := 4) (q0 := 0) rfl rfl) rfl hl.1 rfl (Nat.le_of_ble_eq_true rfl) dX2_judge_31 ⟨Nat.le_of_ble_eq_true rfl, Nat.le_of_ble_eq_true rfl⟩ ?_
  refine nr_icmp_lt (tgt := 65) hx hb (by omega) (by omega) dX2_judge_34 (by decide) (fun c_34 => absurd c_34 (by omega)) (fun c_34 => ?_)
  refine lv_aload_n hx hb dX2_judge_37 rfl (lv_at hl 1 rfl) ?_
  refine lv_dup hx hb dX2_judge_38 rfl ?_
  refine nr_get (C := RX2) (T := TX2) (N := 5) (ci := 2) S (fun _ h => List.mem_cons_of_mem _ (List.mem_append_left _ (List.mem_append_left _ (List.mem_append_left _ (List.mem_append_left _ (List.mem_append_right _ (h))))))) hK hP 1 rfl rfl 3 (by decide) (List.mem_of_getElem? (i := 3) rfl) rfl dX2_judge_39 ?_
  refine lv_iconst (v := (nI (1))) hx hb dX2_judge_42 (by decide +kernel) ?_
  refine lv_iadd hx hb dX2_judge_43 ?_
  refine nr_put (C := RX2) (T := TX2) (N := 5) (ci := 2) (v := .int (((mi) + (nI (1))))) S (fun _ h => List.mem_cons_of_mem _ (List.mem_append_left _ (List.mem_append_left _ (List.mem_append_left _ (List.mem_append_left _ (List.mem_append_right _ (h))))))) tyX2 tyX2_ok nmX2 hK hP hD hS 1 rfl rfl 3 (by decide) (List.mem_of_getElem? (i := 3) rfl) rfl rfl rfl (Nat.le_of_ble_eq_true rfl) dX2_judge_44 (fun H locs hP hD hS => ?_)
  have hP : va_P D aCl ([(la, .inr (4, [.int (mod), .ref (ea), .int (nI (L.length))])), (x, .inr (2, [.ref (la), .ref (na), .int (((ju) + (nI (1)))), .int (((mi) + (nI (1)))), .int (lo)])), (na, .inl (Y 0, 128, .inl nt)), (ea, .inl (Y 1, cap, .inr (.inr (.inr (.inr es)))))] ++ plW P) H := hP
  have hD : va_D F ([(la, .inr (4, [.int (mod), .ref (ea), .int (nI (L.length))])), (x, .inr (2, [.ref (la), .ref (na), .int (((ju) + (nI (1)))), .int (((mi) + (nI (1)))), .int (lo)])), (na, .inl (Y 0, 128, .inl nt)), (ea, .inl (Y 1, cap, .inr (.inr (.inr (.inr es)))))] ++ plW P) := hD
  have hA0 := rdA_of hP hq
  obtain ⟨hX, hL, hN, hE2, hR, hok⟩ := id hA0
  have hlen := RS_len L
  have hn : L.length ≤ 16 := by have := hok.1; omega
  have hoo : ∀ i, i < L.length → rvOk (gt (RS L) i) := fun i hi => hok.2 i (by omega)
  have hcc := hq.2.2.1
  have hcc2 := hq.2.2.2.1
  refine lv_aload_n hx hb dX2_judge_47 rfl (lv_at hl 1 rfl) ?_
  refine lv_dup hx hb dX2_judge_48 rfl ?_
  refine nr_get (C := RX2) (T := TX2) (N := 5) (ci := 2) S (fun _ h => List.mem_cons_of_mem _ (List.mem_append_left _ (List.mem_append_left _ (List.mem_append_left _ (List.mem_append_left _ (List.mem_append_right _ (h))))))) hK hP 1 rfl rfl 4 (by decide) (List.mem_of_getElem? (i := 4) rfl) rfl dX2_judge_49 ?_
  refine lv_aload_n hx hb dX2_judge_52 rfl (lv_at hl 1 rfl) ?_
  refine nr_get (C := RX2) (T := TX2) (N := 5) (ci := 2) S (fun _ h => List.mem_cons_of_mem _ (List.mem_append_left _ (List.mem_append_left _ (List.mem_append_left _ (List.mem_append_left _ (List.mem_append_right _ (h))))))) hK hP 1 rfl rfl 0 (by decide) (List.mem_of_getElem? (i := 2) rfl) rfl dX2_judge_53 ?_
  refine Rd.callV (r := (nI (L.length))) (As := []) S (k_Jx4a65c_size_8abf5 l hL) (cwV 0 hts gX2_judge_Jx4a65c_size_8abf5 rfl rfl rfl (by decide +kernel) ⟨Nat.le_of_ble_eq_true rfl, Nat.le_of_ble_eq_true rfl⟩) hK (va_recv hK.1 hP (ci := 4) (q0 := 0) rfl rfl) rfl hl.1 rfl (Nat.le_of_ble_eq_true rfl) dX2_judge_56 ⟨Nat.le_of_ble_eq_true rfl, Nat.le_of_ble_eq_true rfl⟩ ?_
  refine lv_iadd hx hb dX2_judge_59 ?_
  refine nr_put (C := RX2) (T := TX2) (N := 5) (ci := 2) (v := .int (((lo) + (nI (L.length))))) S (fun _ h => List.mem_cons_of_mem _ (List.mem_append_left _ (List.mem_append_left _ (List.mem_append_left _ (List.mem_append_left _ (List.mem_append_right _ (h))))))) tyX2 tyX2_ok nmX2 hK hP hD hS 1 rfl rfl 4 (by decide) (List.mem_of_getElem? (i := 4) rfl) rfl rfl rfl (Nat.le_of_ble_eq_true rfl) dX2_judge_60 (fun H locs hP hD hS => ?_)
  have hP : va_P D aCl ([(la, .inr (4, [.int (mod), .ref (ea), .int (nI (L.length))])), (x, .inr (2, [.ref (la), .ref (na), .int (((ju) + (nI (1)))), .int (((mi) + (nI (1)))), .int (((lo) + (nI (L.length))))])), (na, .inl (Y 0, 128, .inl nt)), (ea, .inl (Y 1, cap, .inr (.inr (.inr (.inr es)))))] ++ plW P) H := hP
  have hD : va_D F ([(la, .inr (4, [.int (mod), .ref (ea), .int (nI (L.length))])), (x, .inr (2, [.ref (la), .ref (na), .int (((ju) + (nI (1)))), .int (((mi) + (nI (1)))), .int (((lo) + (nI (L.length))))])), (na, .inl (Y 0, 128, .inl nt)), (ea, .inl (Y 1, cap, .inr (.inr (.inr (.inr es)))))] ++ plW P) := hD
  refine lv_iconst (v := (nI (0))) hx hb dX2_judge_63 (by decide +kernel) ?_
  refine W.widen (k := 0) (n := 0) (by omega) (by omega) ?_
  exact hE _ _ _ _ _ dX2_judge_64 (rfl) (rfl) (⟨_, _, _, L, P, rfl, hq, hP, hD⟩) hS
set_option maxHeartbeats 4000000 in
set_option maxRecDepth 100000 in
theorem k_X2_judge_h (l : Launch) {D : va_G} {Y : Nat → ClassId} {H0 : Heap} {F : Nat → Prop} {la x na ea cap : Nat} {mod ju mi lo : Int32} {es : Nat → Option Nat} {nt : Nat → Int32} {L P : List RA} {s0 d0 p0 k : Nat} (hP : va_P D aCl ([(la, .inr (4, [.int (mod), .ref (ea), .int (nI (L.length))])), (x, .inr (2, [.ref (la), .ref (na), .int (ju), .int (mi), .int (lo)])), (na, .inl (Y 0, 128, .inl nt)), (ea, .inl (Y 1, cap, .inr (.inr (.inr (.inr es)))))] ++ plW P) H0) (hD : va_D F ([(la, .inr (4, [.int (mod), .ref (ea), .int (nI (L.length))])), (x, .inr (2, [.ref (la), .ref (na), .int (ju), .int (mi), .int (lo)])), (na, .inl (Y 0, 128, .inl nt)), (ea, .inl (Y 1, cap, .inr (.inr (.inr (.inr es)))))] ++ plW P)) (hq : cQ cap es L P) (hs : s0 < 32) (hd : d0 < 32) (hp : p0 < 4) (hk : k < L.length) (hfm : fmN (RS L) s0 d0 p0 = k) : UC l yX2_judge wsX2_judge 5 0 0 D Y (eT) [.ref (x), .int (nI (s0)), .int (nI (d0)), .int (nI (p0))] H0 F (bI_ (bI (pM (gt (RS L) k))) (ccB D Y F la x na ea cap (ju + nI 1) mi (lo + nI (k + 1)) ((RS L).set k (hitV (gt (RS L) k))))) := by
  refine UCi.start (cc := cX2_judge) (maxL := 6) (rt := .boolean) (by decide) rfl (Nat.le_of_ble_eq_true rfl) ?_
  intro p e s m args below meth c ls H locs Q S hK hH0 hE0 hHH hS hl hin hE
  rw [← hHH] at hP
  have S : CallFix p m c cX2_judge 6 s args wsX2_judge RX2 := S
  have hx := S.1
  have hb := S.2.1
  have hts := S.2.2.2.2
  have hl : lv_has ls 6 [(0, .ref (x)), (1, .int (nI (s0))), (2, .int (nI (d0))), (3, .int (nI (p0)))] := hl
  have hA0 := rdA_of hP hq
  obtain ⟨hX, hL, hN, hE2, hR, hok⟩ := id hA0
  have hlen := RS_len L
  have hn : L.length ≤ 16 := by have := hok.1; omega
  have hoo : ∀ i, i < L.length → rvOk (gt (RS L) i) := fun i hi => hok.2 i (by omega)
  have hcc := hq.2.2.1
  have hcc2 := hq.2.2.2.1
  refine lv_iload_n hx hb dX2_judge_0 rfl (lv_at hl 1 rfl) ?_
  refine lv_iload_n hx hb dX2_judge_1 rfl (lv_at hl 2 rfl) ?_
  refine lv_iload_n hx hb dX2_judge_2 rfl (lv_at hl 3 rfl) ?_
  refine RdU.callS (As := [.int (nI (s0)), .int (nI (d0)), .int (nI (p0))]) S (k_X2_checkPacket l (s0 := s0) (d0 := d0) (p0 := p0) (by omega) (by omega) (by omega)) (va_cwS 3 hts gX2_judge_X2_checkPacket rfl rfl rfl (by decide +kernel) ⟨Nat.le_of_ble_eq_true rfl, Nat.le_of_ble_eq_true rfl⟩) hK rfl hl.1 rfl (Nat.le_of_ble_eq_true rfl) dX2_judge_3 ⟨Nat.le_of_ble_eq_true rfl, Nat.le_of_ble_eq_true rfl⟩ ?_
  refine lv_aload_n hx hb dX2_judge_6 rfl (lv_at hl 0 rfl) ?_
  refine lv_iload_n hx hb dX2_judge_7 rfl (lv_at hl 1 rfl) ?_
  refine lv_iload_n hx hb dX2_judge_8 rfl (lv_at hl 2 rfl) ?_
  refine lv_iload_n hx hb dX2_judge_9 rfl (lv_at hl 3 rfl) ?_
  refine Rd.callV (r := (nI (k))) (As := [.int (nI (s0)), .int (nI (d0)), .int (nI (p0))]) S (hfm ▸ k_X2_firstMatch l hA0 (s0 := s0) (d0 := d0) (p0 := p0) (by omega) (by omega) (by omega)) (cwV 3 hts gX2_judge_X2_firstMatch rfl rfl rfl (by decide +kernel) ⟨Nat.le_of_ble_eq_true rfl, Nat.le_of_ble_eq_true rfl⟩) hK (va_recv hK.1 hP (ci := 2) (q0 := 1) rfl rfl) rfl hl.1 rfl (Nat.le_of_ble_eq_true rfl) dX2_judge_10 ⟨Nat.le_of_ble_eq_true rfl, Nat.le_of_ble_eq_true rfl⟩ ?_
  refine lv_istore (lv' := [(4, .int (nI (k))), (0, .ref (x)), (1, .int (nI (s0))), (2, .int (nI (d0))), (3, .int (nI (p0)))]) hx hb dX2_judge_13 hl (by decide) rfl (fun ls hl => ?_)
  refine lv_aload_n hx hb dX2_judge_15 rfl (lv_at hl 1 rfl) ?_
  refine lv_dup hx hb dX2_judge_16 rfl ?_
  refine nr_get (C := RX2) (T := TX2) (N := 5) (ci := 2) S (fun _ h => List.mem_cons_of_mem _ (List.mem_append_left _ (List.mem_append_left _ (List.mem_append_left _ (List.mem_append_left _ (List.mem_append_right _ (h))))))) hK hP 1 rfl rfl 2 (by decide) (List.mem_of_getElem? (i := 1) rfl) rfl dX2_judge_17 ?_
  refine lv_iconst (v := (nI (1))) hx hb dX2_judge_20 (by decide +kernel) ?_
  refine lv_iadd hx hb dX2_judge_21 ?_
  refine nr_put (C := RX2) (T := TX2) (N := 5) (ci := 2) (v := .int (((ju) + (nI (1))))) S (fun _ h => List.mem_cons_of_mem _ (List.mem_append_left _ (List.mem_append_left _ (List.mem_append_left _ (List.mem_append_left _ (List.mem_append_right _ (h))))))) tyX2 tyX2_ok nmX2 hK hP hD hS 1 rfl rfl 2 (by decide) (List.mem_of_getElem? (i := 1) rfl) rfl rfl rfl (Nat.le_of_ble_eq_true rfl) dX2_judge_22 (fun H locs hP hD hS => ?_)
  have hP : va_P D aCl ([(la, .inr (4, [.int (mod), .ref (ea), .int (nI (L.length))])), (x, .inr (2, [.ref (la), .ref (na), .int (((ju) + (nI (1)))), .int (mi), .int (lo)])), (na, .inl (Y 0, 128, .inl nt)), (ea, .inl (Y 1, cap, .inr (.inr (.inr (.inr es)))))] ++ plW P) H := hP
  have hD : va_D F ([(la, .inr (4, [.int (mod), .ref (ea), .int (nI (L.length))])), (x, .inr (2, [.ref (la), .ref (na), .int (((ju) + (nI (1)))), .int (mi), .int (lo)])), (na, .inl (Y 0, 128, .inl nt)), (ea, .inl (Y 1, cap, .inr (.inr (.inr (.inr es)))))] ++ plW P) := hD
  have hA0 := rdA_of hP hq
  obtain ⟨hX, hL, hN, hE2, hR, hok⟩ := id hA0
  have hlen := RS_len L
  have hn : L.length ≤ 16 := by have := hok.1; omega
  have hoo : ∀ i, i < L.length → rvOk (gt (RS L) i) := fun i hi => hok.2 i (by omega)
  have hcc := hq.2.2.1
  have hcc2 := hq.2.2.2.1
  refine lv_iload hx hb dX2_judge_25 (lv_at hl 0 rfl) ?_
  refine lv_aload_n hx hb dX2_judge_27 rfl (lv_at hl 1 rfl) ?_
  refine nr_get (C := RX2) (T := TX2) (N := 5) (ci := 2) S (fun _ h => List.mem_cons_of_mem _ (List.mem_append_left _ (List.mem_append_left _ (List.mem_append_left _ (List.mem_append_left _ (List.mem_append_right _ (h))))))) hK hP 1 rfl rfl 0 (by decide) (List.mem_of_getElem? (i := 2) rfl) rfl dX2_judge_28 ?_
  refine Rd.callV (r := (nI (L.length))) (As := []) S (k_Jx4a65c_size_8abf5 l hL) (cwV 0 hts gX2_judge_Jx4a65c_size_8abf5 rfl rfl rfl (by decide +kernel) ⟨Nat.le_of_ble_eq_true rfl, Nat.le_of_ble_eq_true rfl⟩) hK (va_recv hK.1 hP (ci := 4) (q0 := 0) rfl rfl) rfl hl.1 rfl (Nat.le_of_ble_eq_true rfl) dX2_judge_31 ⟨Nat.le_of_ble_eq_true rfl, Nat.le_of_ble_eq_true rfl⟩ ?_
  refine nr_icmp_lt (tgt := 65) hx hb (by omega) (by omega) dX2_judge_34 (by decide) (fun c_34 => ?_) (fun c_34 => absurd c_34 (by omega))
  refine lv_aload_n hx hb dX2_judge_65 rfl (lv_at hl 1 rfl) ?_
  refine nr_get (C := RX2) (T := TX2) (N := 5) (ci := 2) S (fun _ h => List.mem_cons_of_mem _ (List.mem_append_left _ (List.mem_append_left _ (List.mem_append_left _ (List.mem_append_left _ (List.mem_append_right _ (h))))))) hK hP 1 rfl rfl 0 (by decide) (List.mem_of_getElem? (i := 2) rfl) rfl dX2_judge_66 ?_
  refine lv_iload hx hb dX2_judge_69 (lv_at hl 0 rfl) ?_
  refine RdA.callV (x := (gl L (k)).2.1) (As := [.int (nI (k))]) S (k_Jx4a65c_get_915e3 l hL (hE2 (by omega)).1 (i := k) (by omega) (hE2 (by omega)).2.1 (hE2 (by omega)).2.2 (hR (k) (by omega)).1) (cwV 1 hts gX2_judge_Jx4a65c_get_915e3 rfl rfl rfl (by decide +kernel) ⟨Nat.le_of_ble_eq_true rfl, Nat.le_of_ble_eq_true rfl⟩) hK (va_recv hK.1 hP (ci := 4) (q0 := 0) rfl rfl) rfl hl.1 rfl (Nat.le_of_ble_eq_true rfl) dX2_judge_71 ⟨Nat.le_of_ble_eq_true rfl, Nat.le_of_ble_eq_true rfl⟩ ?_
  refine nr_cast (C := RX1) (T := TX1) (N := 5) (ci := 1) S (List.mem_of_getElem? (i := 5) rfl) hK (hR (k) (by omega)).2 0 rfl rfl dX2_judge_74 ?_
  refine lv_astore (lv' := [(5, .ref ((gl L (k)).2.1)), (4, .int (nI (k))), (0, .ref (x)), (1, .int (nI (s0))), (2, .int (nI (d0))), (3, .int (nI (p0)))]) hx hb dX2_judge_77 hl (by decide) rfl (fun ls hl => ?_)
  refine lv_aload hx hb dX2_judge_79 (lv_at hl 0 rfl) ?_
  refine lv_dup hx hb dX2_judge_81 rfl ?_
  refine nr_get (C := RX1) (T := TX1) (N := 5) (ci := 1) S (fun _ h => List.mem_cons_of_mem _ (List.mem_append_left _ (List.mem_append_left _ (List.mem_append_left _ (List.mem_append_right _ (h)))))) hK (hR (k) (by omega)).2 0 rfl rfl 4 (by decide) (List.mem_of_getElem? (i := 6) rfl) rfl dX2_judge_82 ?_
  refine lv_iconst (v := (nI (1))) hx hb dX2_judge_85 (by decide +kernel) ?_
  refine lv_iadd hx hb dX2_judge_86 ?_
  obtain ⟨kp, hkp, hkg, hc0, hc1, hc2, hot, hput⟩ := cQ_put hq hk
  refine nr_put (C := RX1) (T := TX1) (N := 5) (ci := 1) (v := .int (((hT (gt (RS L) (k))) + (nI (1))))) (fs := [.int (bI (pM (gl L k).1)), .ref (gl L k).2.2.1, .ref (gl L k).2.2.2, .int (nI (pR (gl L k).1)), .int (hT (gl L k).1)]) S (fun _ h => List.mem_cons_of_mem _ (List.mem_append_left _ (List.mem_append_left _ (List.mem_append_left _ (List.mem_append_right _ (h)))))) tyX1 tyX1_ok nmX1 hK hP hD hS (3 * kp + 0 + 4) hc0 rfl 4 (by decide) (List.mem_of_getElem? (i := 6) rfl) rfl rfl rfl (Nat.le_of_ble_eq_true rfl) dX2_judge_87 (fun H locs hP hD hS => ?_)
  have hq := hput (hitV (gl L k).1) (gl L k).2.2.1 (gl L k).2.2.2 (by have h9 := hoo k hk; rw [gt_RS] at h9; exact h9)
  have hw9 : ∀ (c1 c2 c3 c4 : Nat × va_E), ([c1, c2, c3, c4] ++ plW P).set (3 * kp + 0 + 4) ((gl L k).2.1, .inr (1, [.int (bI (pM (gl L k).1)), .ref (gl L k).2.2.1, .ref (gl L k).2.2.2, .int (nI (pR (gl L k).1)), .int (hT (gl L k).1 + nI 1)])) = [c1, c2, c3, c4] ++ plW (P.set kp (hitV (gl L k).1, (gl L k).2)) := fun c1 c2 c3 c4 => by
    have h9 := plW_set (r2 := hitV (gl L k).1) P kp hkp (by rw [hkg]; rfl) (by rw [hkg]; rfl) (by rw [hkg]; rfl) (by rw [hkg]; rfl)
    rw [← hkg] at h9
    rw [h9]
    rfl
  have hP : va_P D aCl ([(la, .inr (4, [.int (mod), .ref (ea), .int (nI ((L.set k (hitV (gl L k).1, (gl L k).2)).length))])), (x, .inr (2, [.ref (la), .ref (na), .int (((ju) + (nI (1)))), .int (mi), .int (lo)])), (na, .inl (Y 0, 128, .inl nt)), (ea, .inl (Y 1, cap, .inr (.inr (.inr (.inr es)))))] ++ plW (P.set kp (hitV (gl L k).1, (gl L k).2))) H := by rw [List.length_set, ← hw9]; rw [gt_RS] at hP; exact hP
  have hD : va_D F ([(la, .inr (4, [.int (mod), .ref (ea), .int (nI ((L.set k (hitV (gl L k).1, (gl L k).2)).length))])), (x, .inr (2, [.ref (la), .ref (na), .int (((ju) + (nI (1)))), .int (mi), .int (lo)])), (na, .inl (Y 0, 128, .inl nt)), (ea, .inl (Y 1, cap, .inr (.inr (.inr (.inr es)))))] ++ plW (P.set kp (hitV (gl L k).1, (gl L k).2))) := by rw [List.length_set, ← hw9]; rw [gt_RS] at hD; exact hD
  refine lv_aload_n hx hb dX2_judge_90 rfl (lv_at hl 2 rfl) ?_
  refine lv_dup hx hb dX2_judge_91 rfl ?_
  refine nr_get (C := RX2) (T := TX2) (N := 5) (ci := 2) S (fun _ h => List.mem_cons_of_mem _ (List.mem_append_left _ (List.mem_append_left _ (List.mem_append_left _ (List.mem_append_left _ (List.mem_append_right _ (h))))))) hK hP 1 rfl rfl 4 (by decide) (List.mem_of_getElem? (i := 4) rfl) rfl dX2_judge_92 ?_
  refine lv_iload hx hb dX2_judge_95 (lv_at hl 1 rfl) ?_
  refine lv_iconst (v := (nI (1))) hx hb dX2_judge_97 (by decide +kernel) ?_
  refine nr_iadd hx hb dX2_judge_98 ?_
  refine lv_iadd hx hb dX2_judge_99 ?_
  refine nr_put (C := RX2) (T := TX2) (N := 5) (ci := 2) (v := .int (((lo) + (nI (k + 1))))) S (fun _ h => List.mem_cons_of_mem _ (List.mem_append_left _ (List.mem_append_left _ (List.mem_append_left _ (List.mem_append_left _ (List.mem_append_right _ (h))))))) tyX2 tyX2_ok nmX2 hK hP hD hS 1 rfl rfl 4 (by decide) (List.mem_of_getElem? (i := 4) rfl) rfl rfl rfl (Nat.le_of_ble_eq_true rfl) dX2_judge_100 (fun H locs hP hD hS => ?_)
  have hP : va_P D aCl ([(la, .inr (4, [.int (mod), .ref (ea), .int (nI ((L.set k (hitV (gl L k).1, (gl L k).2)).length))])), (x, .inr (2, [.ref (la), .ref (na), .int (((ju) + (nI (1)))), .int (mi), .int (((lo) + (nI (k + 1))))])), (na, .inl (Y 0, 128, .inl nt)), (ea, .inl (Y 1, cap, .inr (.inr (.inr (.inr es)))))] ++ plW (P.set kp (hitV (gl L k).1, (gl L k).2))) H := hP
  have hD : va_D F ([(la, .inr (4, [.int (mod), .ref (ea), .int (nI ((L.set k (hitV (gl L k).1, (gl L k).2)).length))])), (x, .inr (2, [.ref (la), .ref (na), .int (((ju) + (nI (1)))), .int (mi), .int (((lo) + (nI (k + 1))))])), (na, .inl (Y 0, 128, .inl nt)), (ea, .inl (Y 1, cap, .inr (.inr (.inr (.inr es)))))] ++ plW (P.set kp (hitV (gl L k).1, (gl L k).2))) := hD
  have hR5 := ((rdA_of hP hq).2.2.2.2.1 k (by rw [List.length_set]; exact hk)).2
  rw [gt_RS, gl_set _ _ _ _ hk, if_pos rfl] at hR5
  refine lv_aload hx hb dX2_judge_103 (lv_at hl 0 rfl) ?_
  refine nr_get (C := RX1) (T := TX1) (N := 5) (ci := 1) S (fun _ h => List.mem_cons_of_mem _ (List.mem_append_left _ (List.mem_append_left _ (List.mem_append_left _ (List.mem_append_right _ (h)))))) hK hR5 0 rfl rfl 0 (by decide) (List.mem_of_getElem? (i := 7) rfl) rfl dX2_judge_105 ?_
  refine W.widen (k := 0) (n := 0) (by omega) (by omega) ?_
  exact hE _ _ _ _ _ dX2_judge_108 (bI_nar _) (by rw [gt_RS]; rfl) (⟨_, _, _, (L.set k (hitV (gl L k).1, (gl L k).2)), _, RS_hit hk, hq, hP, hD⟩) hS
set_option maxHeartbeats 4000000 in
set_option maxRecDepth 100000 in
theorem k_X2_dropLastNeedless (l : Launch) {D : va_G} {Y : Nat → ClassId} {H0 : Heap} {F : Nat → Prop} {la x na ea cap : Nat} {mod ju mi lo : Int32} {es : Nat → Option Nat} {nt : Nat → Int32} {L P : List RA} (hP : va_P D aCl ([(la, .inr (4, [.int (mod), .ref (ea), .int (nI (L.length))])), (x, .inr (2, [.ref (la), .ref (na), .int (ju), .int (mi), .int (lo)])), (na, .inl (Y 0, 128, .inl nt)), (ea, .inl (Y 1, cap, .inr (.inr (.inr (.inr es)))))] ++ plW P) H0) (hD : va_D F ([(la, .inr (4, [.int (mod), .ref (ea), .int (nI (L.length))])), (x, .inr (2, [.ref (la), .ref (na), .int (ju), .int (mi), .int (lo)])), (na, .inl (Y 0, 128, .inl nt)), (ea, .inl (Y 1, cap, .inr (.inr (.inr (.inr es)))))] ++ plW P)) (hq : cQ cap es L P) : UC l yX2_dropLastNeedless wsX2_dropLastNeedless 5 0 0 D Y (eT) [.ref (x)] H0 F (bI_ (bI (!decide (lstN (ndB (RS L)) L.length = 0))) (ccB D Y F la x na ea cap ju mi lo (if lstN (ndB (RS L)) L.length = 0 then RS L else (RS L).eraseIdx (lstN (ndB (RS L)) L.length - 1)))) := by
  refine UCi.start (cc := cX2_dropLastNeedless) (maxL := 2) (rt := .boolean) (by decide) rfl (Nat.le_of_ble_eq_true rfl) ?_
  intro p e s m args below meth c ls H locs Q S hK hH0 hE0 hHH hS hl hin hE
  rw [← hHH] at hP
  have S : CallFix p m c cX2_dropLastNeedless 2 s args wsX2_dropLastNeedless RX2 := S
  have hx := S.1
  have hb := S.2.1
  have hts := S.2.2.2.2
  have hl : lv_has ls 2 [(0, .ref (x))] := hl
  have hA0 := rdA_of hP hq
  obtain ⟨hX, hL, hN, hE2, hR, hok⟩ := id hA0
  have hlen := RS_len L
  have hn : L.length ≤ 16 := by have := hok.1; omega
  have hoo : ∀ i, i < L.length → rvOk (gt (RS L) i) := fun i hi => hok.2 i (by omega)
  have hcc := hq.2.2.1
  have hcc2 := hq.2.2.2.1
  refine lv_aload_n hx hb dX2_dropLastNeedless_0 rfl (lv_at hl 0 rfl) ?_
  refine nr_get (C := RX2) (T := TX2) (N := 5) (ci := 2) S (fun _ h => List.mem_cons_of_mem _ (List.mem_append_left _ (List.mem_append_left _ (List.mem_append_left _ (List.mem_append_right _ (h)))))) hK hP 1 rfl rfl 0 (by decide) (List.mem_of_getElem? (i := 1) rfl) rfl dX2_dropLastNeedless_1 ?_
  refine Rd.callV (r := (nI (L.length))) (As := []) S (k_Jx4a65c_size_8abf5 l hL) (cwV 0 hts gX2_dropLastNeedless_Jx4a65c_size_8abf5 rfl rfl rfl (by decide +kernel) ⟨Nat.le_of_ble_eq_true rfl, Nat.le_of_ble_eq_true rfl⟩) hK (va_recv hK.1 hP (ci := 4) (q0 := 0) rfl rfl) rfl hl.1 rfl (Nat.le_of_ble_eq_true rfl) dX2_dropLastNeedless_4 ⟨Nat.le_of_ble_eq_true rfl, Nat.le_of_ble_eq_true rfl⟩ ?_
  refine lv_iconst (v := (nI (1))) hx hb dX2_dropLastNeedless_7 (by decide +kernel) ?_
  refine lv_isub hx hb dX2_dropLastNeedless_8 ?_
  refine lv_istore_n (lv' := [(1, .int (((nI (L.length)) - (nI (1))))), (0, .ref (x))]) hx hb dX2_dropLastNeedless_9 rfl hl (by decide) rfl (fun ls hl => ?_)
  have loop_10 : ∀ (fu_10 : Nat) (xz : Int32) (z : Nat), (z ≤ L.length) → (xz = nI z - nI 1) → (lstN (ndB (RS L)) L.length = lstN (ndB (RS L)) z) → z < fu_10 → ∀ (H : Heap) (locs : List Loc), va_P D aCl ([(la, .inr (4, [.int (mod), .ref (ea), .int (nI (L.length))])), (x, .inr (2, [.ref (la), .ref (na), .int (ju), .int (mi), .int (lo)])), (na, .inl (Y 0, 128, .inl nt)), (ea, .inl (Y 1, cap, .inr (.inr (.inr (.inr es)))))] ++ plW P) H → va_S F H0 H locs → ∀ ls : Array Slot, lv_has ls 2 [(1, .int (xz)), (0, .ref (x))] → W p l e (rmG 5 0 0) s m args below meth c H locs 0 0 Q (F0 m 10 ls []) := by
    intro fu_10
    induction fu_10 with
    | zero => exact fun xz z _ _ _ hk => absurd hk (Nat.not_lt_zero _)
    | succ fu_10 ih_10 =>
      intro xz z g1 g2 g3 hk_10 H locs hP hS ls hl
      have hD : va_D F ([(la, .inr (4, [.int (mod), .ref (ea), .int (nI (L.length))])), (x, .inr (2, [.ref (la), .ref (na), .int (ju), .int (mi), .int (lo)])), (na, .inl (Y 0, 128, .inl nt)), (ea, .inl (Y 1, cap, .inr (.inr (.inr (.inr es)))))] ++ plW P) := va_D.same hD rfl
      refine lv_iload_n hx hb dX2_dropLastNeedless_10 rfl (lv_at hl 0 rfl) ?_
      refine lv_if_lt (tgt := 50) hx hb dX2_dropLastNeedless_11 (by decide) (fun c_11 => ?_) (fun c_11 => ?_)
      · have hlz : lstN (ndB (RS L)) L.length = 0 := by rw [g3, show z = 0 from Nat.le_zero.mp ((nI_lts (b := 0) (by omega) (by omega)).mp (by rw [← g2]; exact c_11))]; rfl
        refine lv_iconst (v := (nI (0))) hx hb dX2_dropLastNeedless_50 (by decide +kernel) ?_
        refine W.widen (k := 0) (n := 0) (by omega) (by omega) ?_
        exact hE _ _ _ _ _ dX2_dropLastNeedless_51 (rfl) (bI_f (by rw [hlz]; rfl)) (⟨_, _, _, L, P, by rw [hlz]; rfl, hq, hP, hD⟩) hS
      · have c_11 : 0 < z := Nat.lt_of_not_le (fun q => c_11 (by rw [g2]; exact (nI_lts (b := 0) (by omega) (by omega)).mpr q))
        obtain ⟨k0, rfl⟩ : ∃ k0, z = k0 + 1 := ⟨z - 1, by omega⟩
        have g2 : xz = nI k0 := by rw [g2, pk_sub (by omega), Nat.add_sub_cancel]
        subst g2
        have hA0 := rdA_of hP hq
        obtain ⟨hX, hL, hN, hE2, hR, hok⟩ := id hA0
        have hlen := RS_len L
        have hn : L.length ≤ 16 := by have := hok.1; omega
        have hoo : ∀ i, i < L.length → rvOk (gt (RS L) i) := fun i hi => hok.2 i (by omega)
        have hcc := hq.2.2.1
        have hcc2 := hq.2.2.2.1
        refine lv_aload_n hx hb dX2_dropLastNeedless_14 rfl (lv_at hl 1 rfl) ?_
        refine lv_aload_n hx hb dX2_dropLastNeedless_15 rfl (lv_at hl 1 rfl) ?_
        refine nr_get (C := RX2) (T := TX2) (N := 5) (ci := 2) S (fun _ h => List.mem_cons_of_mem _ (List.mem_append_left _ (List.mem_append_left _ (List.mem_append_left _ (List.mem_append_right _ (h)))))) hK hP 1 rfl rfl 0 (by decide) (List.mem_of_getElem? (i := 1) rfl) rfl dX2_dropLastNeedless_16 ?_
        refine lv_iload_n hx hb dX2_dropLastNeedless_19 rfl (lv_at hl 0 rfl) ?_
        refine RdA.callV (x := (gl L (k0)).2.1) (As := [.int (nI (k0))]) S (k_Jx4a65c_get_915e3 l hL (hE2 (by omega)).1 (i := k0) (by omega) (hE2 (by omega)).2.1 (hE2 (by omega)).2.2 (hR (k0) (by omega)).1) (cwV 1 hts gX2_dropLastNeedless_Jx4a65c_get_915e3 rfl rfl rfl (by decide +kernel) ⟨Nat.le_of_ble_eq_true rfl, Nat.le_of_ble_eq_true rfl⟩) hK (va_recv hK.1 hP (ci := 4) (q0 := 0) rfl rfl) rfl hl.1 rfl (Nat.le_of_ble_eq_true rfl) dX2_dropLastNeedless_20 ⟨Nat.le_of_ble_eq_true rfl, Nat.le_of_ble_eq_true rfl⟩ ?_
        refine nr_cast (C := RX1) (T := TX1) (N := 5) (ci := 1) S (List.mem_of_getElem? (i := 2) rfl) hK (hR (k0) (by omega)).2 0 rfl rfl dX2_dropLastNeedless_23 ?_
        refine lv_iload_n hx hb dX2_dropLastNeedless_26 rfl (lv_at hl 0 rfl) ?_
        refine Rd.callV (r := (bI (ndB (RS L) (k0)))) (As := [.ref ((gl L (k0)).2.1), .int (nI (k0))]) S (k_X2_isNeedless l hA0 (pl := k0) (by omega)) (cwV 2 hts gX2_dropLastNeedless_X2_isNeedless rfl rfl rfl (by decide +kernel) ⟨Nat.le_of_ble_eq_true rfl, Nat.le_of_ble_eq_true rfl⟩) hK (va_recv hK.1 hP (ci := 2) (q0 := 1) rfl rfl) rfl hl.1 rfl (Nat.le_of_ble_eq_true rfl) dX2_dropLastNeedless_27 ⟨Nat.le_of_ble_eq_true rfl, Nat.le_of_ble_eq_true rfl⟩ ?_
        refine nr_ifB_eq (tgt := 44) hx hb dX2_dropLastNeedless_30 (by decide) (fun c_30 => ?_) (fun c_30 => ?_)
        · refine lv_iinc (v := (nI k0 - nI 1)) (lv' := [(1, .int (nI k0 - nI 1)), (0, .ref (x))]) hx hb dX2_dropLastNeedless_44 hl (k := 0) rfl (m1_sub _) (by decide) rfl (fun ls hl => ?_)
          refine lv_goto (tgt := 10) hx hb dX2_dropLastNeedless_47 (by decide) ?_
          exact ih_10 ((nI k0 - nI 1)) (k0) (by omega) (rfl) (by rw [g3]; exact lstN_go c_30) (by omega) _ _ hP hS ls (lv_sub hl [0, 1] rfl)
        · refine lv_aload_n hx hb dX2_dropLastNeedless_33 rfl (lv_at hl 1 rfl) ?_
          refine nr_get (C := RX2) (T := TX2) (N := 5) (ci := 2) S (fun _ h => List.mem_cons_of_mem _ (List.mem_append_left _ (List.mem_append_left _ (List.mem_append_left _ (List.mem_append_right _ (h)))))) hK hP 1 rfl rfl 0 (by decide) (List.mem_of_getElem? (i := 1) rfl) rfl dX2_dropLastNeedless_34 ?_
          refine lv_iload_n hx hb dX2_dropLastNeedless_37 rfl (lv_at hl 0 rfl) ?_
          refine UC.callV (As := [.int (nI (k0))]) S (k_Jx4a65c_remove_915e3 l hP hD (hes_of hq) hcc hcc2 (i := k0) (by omega) (hq.2.2.2.2 (k0) (by omega))) (cwV 1 hts gX2_dropLastNeedless_Jx4a65c_remove_915e3 rfl rfl rfl (by decide +kernel) ⟨Nat.le_of_ble_eq_true rfl, Nat.le_of_ble_eq_true rfl⟩) hK eT_bl (fun _ _ _ => trivial) hS (fun _ h => h) (va_recv hK.1 hP (ci := 4) (q0 := 0) rfl rfl) rfl hl.1 rfl (Nat.le_of_ble_eq_true rfl) dX2_dropLastNeedless_38 ⟨Nat.le_of_ble_eq_true rfl, Nat.le_of_ble_eq_true rfl⟩ (fun v H locs hB hS hsz hkp => ?_)
          obtain ⟨a9, rfl, hB⟩ := hB
          obtain ⟨rfl, es, hes2, hP⟩ := hB
          rw [← lenA_erase (p := k0) (by omega)] at hP
          have hq := cQ_erase hq (p := k0) (by omega) hes2
          have hP : va_P D aCl ([(la, .inr (4, [.int (mod + nI 1), .ref (ea), .int (nI ((L.eraseIdx k0).length))])), (x, .inr (2, [.ref (la), .ref (na), .int (ju), .int (mi), .int (lo)])), (na, .inl (Y 0, 128, .inl nt)), (ea, .inl (Y 1, cap, .inr (.inr (.inr (.inr es)))))] ++ plW P) H := hP
          have hD : va_D F ([(la, .inr (4, [.int (mod + nI 1), .ref (ea), .int (nI ((L.eraseIdx k0).length))])), (x, .inr (2, [.ref (la), .ref (na), .int (ju), .int (mi), .int (lo)])), (na, .inl (Y 0, 128, .inl nt)), (ea, .inl (Y 1, cap, .inr (.inr (.inr (.inr es)))))] ++ plW P) := va_D.same hD rfl
          have hlz := g3.trans (lstN_hit c_30)
          refine lv_pop hx hb dX2_dropLastNeedless_41 rfl ?_
          refine lv_iconst (v := (nI (1))) hx hb dX2_dropLastNeedless_42 (by decide +kernel) ?_
          refine W.widen (k := 0) (n := 0) (by omega) (by omega) ?_
          exact hE _ _ _ _ _ dX2_dropLastNeedless_43 (rfl) (bI_t (by rw [hlz]; rfl)) (⟨_, _, _, L.eraseIdx k0, P, by rw [hlz]; exact RS_erase (by omega), hq, hP, hD⟩) hS
  exact loop_10 _ ((((nI (L.length)) - (nI (1))))) (L.length) (Nat.le_refl _) (rfl) (rfl) (Nat.lt_succ_self _) _ _ hP hS ls (lv_sub hl [0, 1] rfl)
set_option maxHeartbeats 4000000 in
set_option maxRecDepth 100000 in
theorem k_X2_exchangeInOnePass (l : Launch) {D : va_G} {Y : Nat → ClassId} {H0 : Heap} {F : Nat → Prop} {la x na ea cap : Nat} {mod ju mi lo : Int32} {es : Nat → Option Nat} {nt : Nat → Int32} {L P : List RA} (hP : va_P D aCl ([(la, .inr (4, [.int (mod), .ref (ea), .int (nI (L.length))])), (x, .inr (2, [.ref (la), .ref (na), .int (ju), .int (mi), .int (lo)])), (na, .inl (Y 0, 128, .inl nt)), (ea, .inl (Y 1, cap, .inr (.inr (.inr (.inr es)))))] ++ plW P) H0) (hD : va_D F ([(la, .inr (4, [.int (mod), .ref (ea), .int (nI (L.length))])), (x, .inr (2, [.ref (la), .ref (na), .int (ju), .int (mi), .int (lo)])), (na, .inl (Y 0, 128, .inl nt)), (ea, .inl (Y 1, cap, .inr (.inr (.inr (.inr es)))))] ++ plW P)) (hq : cQ cap es L P) : UC l yX2_exchangeInOnePass wsX2_exchangeInOnePass 4 0 0 D Y (eT) [.ref (x)] H0 F (bI_ (nI (pas (RS L)).2) (ccB D Y F la x na ea cap ju mi lo (pas (RS L)).1)) := by
  refine UCi.start (cc := cX2_exchangeInOnePass) (maxL := 5) (rt := .int) (by decide) rfl (Nat.le_of_ble_eq_true rfl) ?_
  intro p e s m args below meth c ls H locs Q S hK hH0 hE0 hHH hS hl hin hE
  rw [← hHH] at hP
  have S : CallFix p m c cX2_exchangeInOnePass 5 s args wsX2_exchangeInOnePass RX2 := S
  have hx := S.1
  have hb := S.2.1
  have hts := S.2.2.2.2
  have hl : lv_has ls 5 [(0, .ref (x))] := hl
  have hA0 := rdA_of hP hq
  obtain ⟨hX, hL, hN, hE2, hR, hok⟩ := id hA0
  have hlen := RS_len L
  have hn : L.length ≤ 16 := by have := hok.1; omega
  have hoo : ∀ i, i < L.length → rvOk (gt (RS L) i) := fun i hi => hok.2 i (by omega)
  have hcc := hq.2.2.1
  have hcc2 := hq.2.2.2.1
  refine lv_iconst (v := (nI (0))) hx hb dX2_exchangeInOnePass_0 (by decide +kernel) ?_
  refine lv_istore_n (lv' := [(1, .int (nI (0))), (0, .ref (x))]) hx hb dX2_exchangeInOnePass_1 rfl hl (by decide) rfl (fun ls hl => ?_)
  refine lv_iconst (v := (nI (0))) hx hb dX2_exchangeInOnePass_2 (by decide +kernel) ?_
  refine lv_istore_n (lv' := [(2, .int (nI (0))), (1, .int (nI (0))), (0, .ref (x))]) hx hb dX2_exchangeInOnePass_3 rfl hl (by decide) rfl (fun ls hl => ?_)
  have loop_4 : ∀ (fu_4 : Nat) (n2 : Nat) (i : Nat) (mod1 : Int32) (es1 : Nat → Option Nat) (L1 : List RA), (cQ cap es1 L1 P ∧ i ≤ L.length - 1) → (RS L1 = (psN (RS L) i).1) → (n2 = (psN (RS L) i).2) → L.length - i < fu_4 → ∀ (H : Heap) (locs : List Loc), va_P D aCl ([(la, .inr (4, [.int (mod1), .ref (ea), .int (nI (L1.length))])), (x, .inr (2, [.ref (la), .ref (na), .int (ju), .int (mi), .int (lo)])), (na, .inl (Y 0, 128, .inl nt)), (ea, .inl (Y 1, cap, .inr (.inr (.inr (.inr es1)))))] ++ plW P) H → va_S F H0 H locs → ∀ ls : Array Slot, lv_has ls 5 [(2, .int (nI (i))), (1, .int (nI (n2))), (0, .ref (x))] → W p l e (rmG 4 0 0) s m args below meth c H locs 0 0 Q (F0 m 4 ls []) := by
    intro fu_4
    induction fu_4 with
    | zero => exact fun n2 i mod1 es1 L1 _ _ _ hk => absurd hk (Nat.not_lt_zero _)
    | succ fu_4 ih_4 =>
      intro n2 i mod1 es1 L1 e0 e1 e2 hk_4 H locs hP hS ls hl
      have hD : va_D F ([(la, .inr (4, [.int (mod1), .ref (ea), .int (nI (L1.length))])), (x, .inr (2, [.ref (la), .ref (na), .int (ju), .int (mi), .int (lo)])), (na, .inl (Y 0, 128, .inl nt)), (ea, .inl (Y 1, cap, .inr (.inr (.inr (.inr es1)))))] ++ plW P) := va_D.same hD rfl
      refine lv_iload_n hx hb dX2_exchangeInOnePass_4 rfl (lv_at hl 0 rfl) ?_
      have hq := e0.1
      have hl1 : L1.length = L.length := by
        have h9 := congrArg List.length e1
        rw [RS_len] at h9
        by_cases hz : 0 < L.length
        · rw [psN_len i (by rw [RS_len]; omega), RS_len] at h9
          exact h9
        · rw [show i = 0 from by omega] at h9
          exact h9.trans (RS_len L)
      have hA0 := rdA_of hP hq
      obtain ⟨hX, hL, hN, hE2, hR, hok⟩ := id hA0
      have hlen := RS_len L1
      have hn : L1.length ≤ 16 := by have := hok.1; omega
      have hoo : ∀ i, i < L1.length → rvOk (gt (RS L1) i) := fun i hi => hok.2 i (by omega)
      have hcc := hq.2.2.1
      have hcc2 := hq.2.2.2.1
      refine lv_aload_n hx hb dX2_exchangeInOnePass_5 rfl (lv_at hl 2 rfl) ?_
      refine nr_get (C := RX2) (T := TX2) (N := 5) (ci := 2) S (fun _ h => List.mem_cons_of_mem _ (List.mem_append_left _ (List.mem_append_left _ (List.mem_append_left _ (List.mem_append_right _ (h)))))) hK hP 1 rfl rfl 0 (by decide) (List.mem_of_getElem? (i := 1) rfl) rfl dX2_exchangeInOnePass_6 ?_
      refine Rd.callV (r := (nI (L1.length))) (As := []) S (k_Jx4a65c_size_8abf5 l hL) (cwV 0 hts gX2_exchangeInOnePass_Jx4a65c_size_8abf5 rfl rfl rfl (by decide +kernel) ⟨Nat.le_of_ble_eq_true rfl, Nat.le_of_ble_eq_true rfl⟩) hK (va_recv hK.1 hP (ci := 4) (q0 := 0) rfl rfl) rfl hl.1 rfl (Nat.le_of_ble_eq_true rfl) dX2_exchangeInOnePass_9 ⟨Nat.le_of_ble_eq_true rfl, Nat.le_of_ble_eq_true rfl⟩ ?_
      refine lv_iconst (v := (nI (1))) hx hb dX2_exchangeInOnePass_12 (by decide +kernel) ?_
      refine lv_isub hx hb dX2_exchangeInOnePass_13 ?_
      refine lv_icmp_ge (tgt := 97) hx hb dX2_exchangeInOnePass_14 (by decide) (fun c_14 => ?_) (fun c_14 => ?_)
      · have hil : L1.length ≤ i + 1 := (nI_les (by omega) (by omega)).mp c_14
        have hps : psN (RS L) i = pas (RS L) := by unfold pas; rw [RS_len, show i = L.length - 1 from by omega]
        rw [hps] at e1 e2
        refine lv_iload_n hx hb dX2_exchangeInOnePass_97 rfl (lv_at hl 1 rfl) ?_
        refine W.widen (k := 0) (n := 0) (by omega) (by omega) ?_
        exact hE _ _ _ _ _ dX2_exchangeInOnePass_98 (vp_nar_int _) (congrArg nI e2) (⟨_, _, _, L1, P, e1, hq, hP, hD⟩) hS
      · have hi2 : i + 1 < L1.length := Nat.lt_of_not_le (fun q => c_14 ((nI_les (by omega) (by omega)).mpr q))
        refine lv_aload_n hx hb dX2_exchangeInOnePass_17 rfl (lv_at hl 2 rfl) ?_
        refine nr_get (C := RX2) (T := TX2) (N := 5) (ci := 2) S (fun _ h => List.mem_cons_of_mem _ (List.mem_append_left _ (List.mem_append_left _ (List.mem_append_left _ (List.mem_append_right _ (h)))))) hK hP 1 rfl rfl 0 (by decide) (List.mem_of_getElem? (i := 1) rfl) rfl dX2_exchangeInOnePass_18 ?_
        refine lv_iload_n hx hb dX2_exchangeInOnePass_21 rfl (lv_at hl 0 rfl) ?_
        refine RdA.callV (x := (gl L1 (i)).2.1) (As := [.int (nI (i))]) S (k_Jx4a65c_get_915e3 l hL (hE2 (by omega)).1 (i := i) (by omega) (hE2 (by omega)).2.1 (hE2 (by omega)).2.2 (hR (i) (by omega)).1) (cwV 1 hts gX2_exchangeInOnePass_Jx4a65c_get_915e3 rfl rfl rfl (by decide +kernel) ⟨Nat.le_of_ble_eq_true rfl, Nat.le_of_ble_eq_true rfl⟩) hK (va_recv hK.1 hP (ci := 4) (q0 := 0) rfl rfl) rfl hl.1 rfl (Nat.le_of_ble_eq_true rfl) dX2_exchangeInOnePass_22 ⟨Nat.le_of_ble_eq_true rfl, Nat.le_of_ble_eq_true rfl⟩ ?_
        refine nr_cast (C := RX1) (T := TX1) (N := 5) (ci := 1) S (List.mem_of_getElem? (i := 2) rfl) hK (hR (i) (by omega)).2 0 rfl rfl dX2_exchangeInOnePass_25 ?_
        refine lv_astore_n (lv' := [(3, .ref ((gl L1 (i)).2.1)), (2, .int (nI (i))), (1, .int (nI (n2))), (0, .ref (x))]) hx hb dX2_exchangeInOnePass_28 rfl hl (by decide) rfl (fun ls hl => ?_)
        refine lv_aload_n hx hb dX2_exchangeInOnePass_29 rfl (lv_at hl 3 rfl) ?_
        refine nr_get (C := RX2) (T := TX2) (N := 5) (ci := 2) S (fun _ h => List.mem_cons_of_mem _ (List.mem_append_left _ (List.mem_append_left _ (List.mem_append_left _ (List.mem_append_right _ (h)))))) hK hP 1 rfl rfl 0 (by decide) (List.mem_of_getElem? (i := 1) rfl) rfl dX2_exchangeInOnePass_30 ?_
        refine lv_iload_n hx hb dX2_exchangeInOnePass_33 rfl (lv_at hl 1 rfl) ?_
        refine lv_iconst (v := (nI (1))) hx hb dX2_exchangeInOnePass_34 (by decide +kernel) ?_
        refine nr_iadd hx hb dX2_exchangeInOnePass_35 ?_
        refine RdA.callV (x := (gl L1 (i + 1)).2.1) (As := [.int (nI (i + 1))]) S (k_Jx4a65c_get_915e3 l hL (hE2 (by omega)).1 (i := i + 1) (by omega) (hE2 (by omega)).2.1 (hE2 (by omega)).2.2 (hR (i + 1) (by omega)).1) (cwV 1 hts gX2_exchangeInOnePass_Jx4a65c_get_915e3 rfl rfl rfl (by decide +kernel) ⟨Nat.le_of_ble_eq_true rfl, Nat.le_of_ble_eq_true rfl⟩) hK (va_recv hK.1 hP (ci := 4) (q0 := 0) rfl rfl) rfl hl.1 rfl (Nat.le_of_ble_eq_true rfl) dX2_exchangeInOnePass_36 ⟨Nat.le_of_ble_eq_true rfl, Nat.le_of_ble_eq_true rfl⟩ ?_
        refine nr_cast (C := RX1) (T := TX1) (N := 5) (ci := 1) S (List.mem_of_getElem? (i := 2) rfl) hK (hR (i + 1) (by omega)).2 0 rfl rfl dX2_exchangeInOnePass_39 ?_
        refine lv_astore (lv' := [(4, .ref ((gl L1 (i + 1)).2.1)), (3, .ref ((gl L1 (i)).2.1)), (2, .int (nI (i))), (1, .int (nI (n2))), (0, .ref (x))]) hx hb dX2_exchangeInOnePass_42 hl (by decide) rfl (fun ls hl => ?_)
        refine lv_aload hx hb dX2_exchangeInOnePass_44 (lv_at hl 0 rfl) ?_
        refine nr_get (C := RX1) (T := TX1) (N := 5) (ci := 1) S (fun _ h => List.mem_cons_of_mem _ (List.mem_append_left _ (List.mem_append_left _ (List.mem_append_right _ (h))))) hK (hR (i + 1) (by omega)).2 0 rfl rfl 4 (by decide) (List.mem_of_getElem? (i := 3) rfl) rfl dX2_exchangeInOnePass_46 ?_
        refine lv_aload_n hx hb dX2_exchangeInOnePass_49 rfl (lv_at hl 1 rfl) ?_
        refine nr_get (C := RX1) (T := TX1) (N := 5) (ci := 1) S (fun _ h => List.mem_cons_of_mem _ (List.mem_append_left _ (List.mem_append_left _ (List.mem_append_right _ (h))))) hK (hR (i) (by omega)).2 0 rfl rfl 4 (by decide) (List.mem_of_getElem? (i := 3) rfl) rfl dX2_exchangeInOnePass_50 ?_
        refine lv_icmp_le (tgt := 91) hx hb dX2_exchangeInOnePass_53 (by decide) (fun c_53 => ?_) (fun c_53 => ?_)
        · have hsw : swB (psN (RS L) i).1 i = false := by rw [← e1]; unfold swB; first | (rw [decide_eq_false (Int32.not_lt.mpr c_53)]; rfl) | (rw [← ex_cm (hoo i (by omega)) (hoo (i + 1) hi2), show exB (gt (RS L1) i) (gt (RS L1) (i + 1)) = false from c_62, Bool.and_false])
          refine lv_iinc (v := (nI (i + 1))) (lv' := [(2, .int (nI (i + 1))), (4, .ref ((gl L1 (i + 1)).2.1)), (3, .ref ((gl L1 (i)).2.1)), (1, .int (nI (n2))), (0, .ref (x))]) hx hb dX2_exchangeInOnePass_91 hl (k := 2) rfl (nI_add _ _) (by decide) rfl (fun ls hl => ?_)
          refine lv_goto (tgt := 4) hx hb dX2_exchangeInOnePass_94 (by decide) ?_
          exact ih_4 (n2) (i + 1) (mod1) (es1) (L1) (⟨hq, by omega⟩) (by rw [psN_f hsw]; exact e1) (by rw [psN_f hsw]; exact e2) (by omega) _ _ hP hS ls (lv_sub hl [0, 3, 4] rfl)
        · refine lv_aload_n hx hb dX2_exchangeInOnePass_56 rfl (lv_at hl 1 rfl) ?_
          refine lv_aload hx hb dX2_exchangeInOnePass_57 (lv_at hl 0 rfl) ?_
          refine Rd.callV (r := (bI (exB (gt (RS L1) (i)) (gt (RS L1) (i + 1))))) (As := [.ref ((gl L1 (i + 1)).2.1)]) S (k_X1_isExchangeable l (hR (i) (by omega)).2 (hR (i + 1) (by omega)).2 (hoo (i) (by omega)) (hoo (i + 1) (by omega))) (cwV 1 hts gX2_exchangeInOnePass_X1_isExchangeable rfl rfl rfl (by decide +kernel) ⟨Nat.le_of_ble_eq_true rfl, Nat.le_of_ble_eq_true rfl⟩) hK (va_recv hK.1 (hR (i) (by omega)).2 (ci := 1) (q0 := 0) rfl rfl) rfl hl.1 rfl (Nat.le_of_ble_eq_true rfl) dX2_exchangeInOnePass_59 ⟨Nat.le_of_ble_eq_true rfl, Nat.le_of_ble_eq_true rfl⟩ ?_
          refine nr_ifB_eq (tgt := 91) hx hb dX2_exchangeInOnePass_62 (by decide) (fun c_62 => ?_) (fun c_62 => ?_)
          · have hsw : swB (psN (RS L) i).1 i = false := by rw [← e1]; unfold swB; first | (rw [decide_eq_false (Int32.not_lt.mpr c_53)]; rfl) | (rw [← ex_cm (hoo i (by omega)) (hoo (i + 1) hi2), show exB (gt (RS L1) i) (gt (RS L1) (i + 1)) = false from c_62, Bool.and_false])
            refine lv_iinc (v := (nI (i + 1))) (lv' := [(2, .int (nI (i + 1))), (4, .ref ((gl L1 (i + 1)).2.1)), (3, .ref ((gl L1 (i)).2.1)), (1, .int (nI (n2))), (0, .ref (x))]) hx hb dX2_exchangeInOnePass_91 hl (k := 2) rfl (nI_add _ _) (by decide) rfl (fun ls hl => ?_)
            refine lv_goto (tgt := 4) hx hb dX2_exchangeInOnePass_94 (by decide) ?_
            exact ih_4 (n2) (i + 1) (mod1) (es1) (L1) (⟨hq, by omega⟩) (by rw [psN_f hsw]; exact e1) (by rw [psN_f hsw]; exact e2) (by omega) _ _ hP hS ls (lv_sub hl [0, 3, 4] rfl)
          · have hsw : swB (psN (RS L) i).1 i = true := by rw [← e1]; unfold swB; rw [← ex_cm (hoo i (by omega)) (hoo (i + 1) hi2), decide_eq_true (Int32.not_le.mp c_53), show exB (gt (RS L1) i) (gt (RS L1) (i + 1)) = true from c_62]; rfl
            obtain ⟨kv1, fs1, hv1⟩ := hv_of hq (j := i) (by omega)
            obtain ⟨kv2, fs2, hv2⟩ := hv_of hq hi2
            have hes1 := hes_of hq
            refine lv_aload_n hx hb dX2_exchangeInOnePass_65 rfl (lv_at hl 4 rfl) ?_
            refine nr_get (C := RX2) (T := TX2) (N := 5) (ci := 2) S (fun _ h => List.mem_cons_of_mem _ (List.mem_append_left _ (List.mem_append_left _ (List.mem_append_left _ (List.mem_append_right _ (h)))))) hK hP 1 rfl rfl 0 (by decide) (List.mem_of_getElem? (i := 1) rfl) rfl dX2_exchangeInOnePass_66 ?_
            refine lv_iload_n hx hb dX2_exchangeInOnePass_69 rfl (lv_at hl 2 rfl) ?_
            refine lv_aload hx hb dX2_exchangeInOnePass_70 (lv_at hl 0 rfl) ?_
            refine UC.callV (As := [.int (nI (i)), .ref ((gl L1 (i + 1)).2.1)]) S (k_Jx4a65c_set_bcc79 l hP hD hes1 hcc hcc2 (i := i) (by omega) (hq.2.2.2.2 i (by omega)) hv2) (cwV 2 hts gX2_exchangeInOnePass_Jx4a65c_set_bcc79 rfl rfl rfl (by decide +kernel) ⟨Nat.le_of_ble_eq_true rfl, Nat.le_of_ble_eq_true rfl⟩) hK eT_bl (fun _ _ _ => trivial) hS (fun _ h => h) (va_recv hK.1 hP (ci := 4) (q0 := 0) rfl rfl) rfl hl.1 rfl (Nat.le_of_ble_eq_true rfl) dX2_exchangeInOnePass_72 ⟨Nat.le_of_ble_eq_true rfl, Nat.le_of_ble_eq_true rfl⟩ (fun v H locs hB hS hsz hkp => ?_)
            obtain ⟨a9, rfl, hB⟩ := hB
            have hP : va_P D aCl ([(la, .inr (4, [.int (mod1), .ref (ea), .int (nI (L1.length))])), (x, .inr (2, [.ref (la), .ref (na), .int (ju), .int (mi), .int (lo)])), (na, .inl (Y 0, 128, .inl nt)), (ea, .inl (Y 1, cap, .inr (.inr (.inr (.inr (va_up es1 (i) (some ((gl L1 (i + 1)).2.1))))))))] ++ plW P) H := hB
            have hD : va_D F ([(la, .inr (4, [.int (mod1), .ref (ea), .int (nI (L1.length))])), (x, .inr (2, [.ref (la), .ref (na), .int (ju), .int (mi), .int (lo)])), (na, .inl (Y 0, 128, .inl nt)), (ea, .inl (Y 1, cap, .inr (.inr (.inr (.inr (va_up es1 (i) (some ((gl L1 (i + 1)).2.1))))))))] ++ plW P) := va_D.same hD rfl
            have hesb : ∀ j, j < L1.length → ∃ (y k : Nat) (fs : List Value), (va_up es1 i (some (gl L1 (i + 1)).2.1)) j = some y ∧ (plW P)[k]? = some (y, .inr (1, fs)) := fun j hj => by
              by_cases hz : j = i
              · exact ⟨(gl L1 (i + 1)).2.1, kv2, fs2, by rw [hz, up_same], hv2⟩
              · rw [up_ne hz]
                exact hes1 j hj
            refine lv_pop hx hb dX2_exchangeInOnePass_75 rfl ?_
            refine lv_aload_n hx hb dX2_exchangeInOnePass_76 rfl (lv_at hl 4 rfl) ?_
            refine nr_get (C := RX2) (T := TX2) (N := 5) (ci := 2) S (fun _ h => List.mem_cons_of_mem _ (List.mem_append_left _ (List.mem_append_left _ (List.mem_append_left _ (List.mem_append_right _ (h)))))) hK hP 1 rfl rfl 0 (by decide) (List.mem_of_getElem? (i := 1) rfl) rfl dX2_exchangeInOnePass_77 ?_
            refine lv_iload_n hx hb dX2_exchangeInOnePass_80 rfl (lv_at hl 2 rfl) ?_
            refine lv_iconst (v := (nI (1))) hx hb dX2_exchangeInOnePass_81 (by decide +kernel) ?_
            refine nr_iadd hx hb dX2_exchangeInOnePass_82 ?_
            refine lv_aload_n hx hb dX2_exchangeInOnePass_83 rfl (lv_at hl 1 rfl) ?_
            refine UC.callV (As := [.int (nI (i + 1)), .ref ((gl L1 (i)).2.1)]) S (k_Jx4a65c_set_bcc79 l hP hD hesb hcc hcc2 (i := i + 1) (a0 := (gl L1 (i + 1)).2.1) (by omega) (by rw [up_ne (by omega)]; exact hq.2.2.2.2 (i + 1) hi2) hv1) (cwV 2 hts gX2_exchangeInOnePass_Jx4a65c_set_bcc79 rfl rfl rfl (by decide +kernel) ⟨Nat.le_of_ble_eq_true rfl, Nat.le_of_ble_eq_true rfl⟩) hK eT_bl (fun _ _ _ => trivial) hS (fun _ h => h) (va_recv hK.1 hP (ci := 4) (q0 := 0) rfl rfl) rfl hl.1 rfl (Nat.le_of_ble_eq_true rfl) dX2_exchangeInOnePass_84 ⟨Nat.le_of_ble_eq_true rfl, Nat.le_of_ble_eq_true rfl⟩ (fun v H locs hB hS hsz hkp => ?_)
            obtain ⟨a9, rfl, hB⟩ := hB
            have hP : va_P D aCl ([(la, .inr (4, [.int (mod1), .ref (ea), .int (nI (L1.length))])), (x, .inr (2, [.ref (la), .ref (na), .int (ju), .int (mi), .int (lo)])), (na, .inl (Y 0, 128, .inl nt)), (ea, .inl (Y 1, cap, .inr (.inr (.inr (.inr (va_up (va_up es1 (i) (some ((gl L1 (i + 1)).2.1))) (i + 1) (some ((gl L1 (i)).2.1))))))))] ++ plW P) H := hB
            have hD : va_D F ([(la, .inr (4, [.int (mod1), .ref (ea), .int (nI (L1.length))])), (x, .inr (2, [.ref (la), .ref (na), .int (ju), .int (mi), .int (lo)])), (na, .inl (Y 0, 128, .inl nt)), (ea, .inl (Y 1, cap, .inr (.inr (.inr (.inr (va_up (va_up es1 (i) (some ((gl L1 (i + 1)).2.1))) (i + 1) (some ((gl L1 (i)).2.1))))))))] ++ plW P) := va_D.same hD rfl
            obtain ⟨hq, hRS1⟩ := cQ_swap hq hi2 (es2 := (va_up (va_up es1 (i) (some ((gl L1 (i + 1)).2.1))) (i + 1) (some ((gl L1 (i)).2.1)))) (fun k hk => by
              by_cases hz : k = i + 1
              · rw [hz, up_same, if_neg (by omega), if_pos rfl]
              · rw [up_ne hz]
                by_cases hz2 : k = i
                · rw [hz2, up_same, if_pos rfl]
                · rw [up_ne hz2, if_neg hz2, if_neg hz])
            have hP : va_P D aCl ([(la, .inr (4, [.int (mod1), .ref (ea), .int (nI (((L1.set i (gl L1 (i + 1))).set (i + 1) (gl L1 i)).length))])), (x, .inr (2, [.ref (la), .ref (na), .int (ju), .int (mi), .int (lo)])), (na, .inl (Y 0, 128, .inl nt)), (ea, .inl (Y 1, cap, .inr (.inr (.inr (.inr (va_up (va_up es1 (i) (some ((gl L1 (i + 1)).2.1))) (i + 1) (some ((gl L1 (i)).2.1))))))))] ++ plW P) H := by rw [List.length_set, List.length_set]; exact hP
            have hD : va_D F ([(la, .inr (4, [.int (mod1), .ref (ea), .int (nI (((L1.set i (gl L1 (i + 1))).set (i + 1) (gl L1 i)).length))])), (x, .inr (2, [.ref (la), .ref (na), .int (ju), .int (mi), .int (lo)])), (na, .inl (Y 0, 128, .inl nt)), (ea, .inl (Y 1, cap, .inr (.inr (.inr (.inr (va_up (va_up es1 (i) (some ((gl L1 (i + 1)).2.1))) (i + 1) (some ((gl L1 (i)).2.1))))))))] ++ plW P) := va_D.same hD rfl
            refine lv_pop hx hb dX2_exchangeInOnePass_87 rfl ?_
            refine lv_iinc (v := (nI (n2 + 1))) (lv' := [(1, .int (nI (n2 + 1))), (4, .ref ((gl L1 (i + 1)).2.1)), (3, .ref ((gl L1 (i)).2.1)), (2, .int (nI (i))), (0, .ref (x))]) hx hb dX2_exchangeInOnePass_88 hl (k := 3) rfl (nI_add _ _) (by decide) rfl (fun ls hl => ?_)
            refine lv_iinc (v := (nI (i + 1))) (lv' := [(2, .int (nI (i + 1))), (1, .int (nI (n2 + 1))), (4, .ref ((gl L1 (i + 1)).2.1)), (3, .ref ((gl L1 (i)).2.1)), (0, .ref (x))]) hx hb dX2_exchangeInOnePass_91 hl (k := 3) rfl (nI_add _ _) (by decide) rfl (fun ls hl => ?_)
            refine lv_goto (tgt := 4) hx hb dX2_exchangeInOnePass_94 (by decide) ?_
            exact ih_4 (n2 + 1) (i + 1) (mod1) ((va_up (va_up es1 (i) (some ((gl L1 (i + 1)).2.1))) (i + 1) (some ((gl L1 (i)).2.1)))) (((L1.set i (gl L1 (i + 1))).set (i + 1) (gl L1 i))) (⟨hq, by omega⟩) (by rw [psN_t hsw, hRS1, e1]) (by rw [psN_t hsw, e2]) (by omega) _ _ hP hS ls (lv_sub hl [0, 1, 4] rfl)
  exact loop_4 _ (0) (0) (mod) (es) (L) (⟨hq, Nat.zero_le _⟩) (rfl) (rfl) (Nat.lt_succ_self _) _ _ hP hS ls (lv_sub hl [0, 1, 2] rfl)
set_option maxHeartbeats 4000000 in
set_option maxRecDepth 100000 in
theorem k_X2_sortByHits (l : Launch) {D : va_G} {Y : Nat → ClassId} {H0 : Heap} {F : Nat → Prop} {la x na ea cap : Nat} {mod ju mi lo : Int32} {es : Nat → Option Nat} {nt : Nat → Int32} {L P : List RA} (hP : va_P D aCl ([(la, .inr (4, [.int (mod), .ref (ea), .int (nI (L.length))])), (x, .inr (2, [.ref (la), .ref (na), .int (ju), .int (mi), .int (lo)])), (na, .inl (Y 0, 128, .inl nt)), (ea, .inl (Y 1, cap, .inr (.inr (.inr (.inr es)))))] ++ plW P) H0) (hD : va_D F ([(la, .inr (4, [.int (mod), .ref (ea), .int (nI (L.length))])), (x, .inr (2, [.ref (la), .ref (na), .int (ju), .int (mi), .int (lo)])), (na, .inl (Y 0, 128, .inl nt)), (ea, .inl (Y 1, cap, .inr (.inr (.inr (.inr es)))))] ++ plW P)) (hq : cQ cap es L P) : UC l yX2_sortByHits wsX2_sortByHits 5 0 0 D Y (eT) [.ref (x)] H0 F (bI_ (nI (sor (RS L)).2) (ccB D Y F la x na ea cap ju mi lo (sor (RS L)).1)) := by
  refine UCi.start (cc := cX2_sortByHits) (maxL := 4) (rt := .int) (by decide) rfl (Nat.le_of_ble_eq_true rfl) ?_
  intro p e s m args below meth c ls H locs Q S hK hH0 hE0 hHH hS hl hin hE
  rw [← hHH] at hP
  have S : CallFix p m c cX2_sortByHits 4 s args wsX2_sortByHits RX2 := S
  have hx := S.1
  have hb := S.2.1
  have hts := S.2.2.2.2
  have hl : lv_has ls 4 [(0, .ref (x))] := hl
  have hA0 := rdA_of hP hq
  obtain ⟨hX, hL, hN, hE2, hR, hok⟩ := id hA0
  have hlen := RS_len L
  have hn : L.length ≤ 16 := by have := hok.1; omega
  have hoo : ∀ i, i < L.length → rvOk (gt (RS L) i) := fun i hi => hok.2 i (by omega)
  have hcc := hq.2.2.1
  have hcc2 := hq.2.2.2.1
  refine lv_iconst (v := (nI (0))) hx hb dX2_sortByHits_0 (by decide +kernel) ?_
  refine lv_istore_n (lv' := [(1, .int (nI (0))), (0, .ref (x))]) hx hb dX2_sortByHits_1 rfl hl (by decide) rfl (fun ls hl => ?_)
  refine lv_iconst (v := (nI (0))) hx hb dX2_sortByHits_2 (by decide +kernel) ?_
  refine lv_istore_n (lv' := [(2, .int (nI (0))), (1, .int (nI (0))), (0, .ref (x))]) hx hb dX2_sortByHits_3 rfl hl (by decide) rfl (fun ls hl => ?_)
  have loop_4 : ∀ (fu_4 : Nat) (n : Nat) (pz : Nat) (mod1 : Int32) (es1 : Nat → Option Nat) (nt1 : Nat → Int32) (L1 : List RA) (P1 : List RA), (cQ cap es1 L1 P1) → (∃ k, invR (RS L1) < k ∧ k + pz ≤ 241 ∧ n + (soF k (RS L1)).2 = (sor (RS L)).2 ∧ (soF k (RS L1)).1 = (sor (RS L)).1) → (va_D F ([(la, .inr (4, [.int (mod1), .ref (ea), .int (nI (L1.length))])), (x, .inr (2, [.ref (la), .ref (na), .int (ju), .int (mi), .int (lo)])), (na, .inl (Y 0, 128, .inl nt1)), (ea, .inl (Y 1, cap, .inr (.inr (.inr (.inr es1)))))] ++ plW P1)) → 256 - pz < fu_4 → ∀ (H : Heap) (locs : List Loc), va_P D aCl ([(la, .inr (4, [.int (mod1), .ref (ea), .int (nI (L1.length))])), (x, .inr (2, [.ref (la), .ref (na), .int (ju), .int (mi), .int (lo)])), (na, .inl (Y 0, 128, .inl nt1)), (ea, .inl (Y 1, cap, .inr (.inr (.inr (.inr es1)))))] ++ plW P1) H → va_S F H0 H locs → ∀ ls : Array Slot, lv_has ls 4 [(2, .int (nI (pz))), (1, .int (nI (n))), (0, .ref (x))] → W p l e (rmG 5 0 0) s m args below meth c H locs 0 0 Q (F0 m 4 ls []) := by
    intro fu_4
    induction fu_4 with
    | zero => exact fun n pz mod1 es1 nt1 L1 P1 _ _ _ hk => absurd hk (Nat.not_lt_zero _)
    | succ fu_4 ih_4 =>
      intro n pz mod1 es1 nt1 L1 P1 e0 e1 e2 hk_4 H locs hP hS ls hl
      have hD : va_D F ([(la, .inr (4, [.int (mod1), .ref (ea), .int (nI (L1.length))])), (x, .inr (2, [.ref (la), .ref (na), .int (ju), .int (mi), .int (lo)])), (na, .inl (Y 0, 128, .inl nt1)), (ea, .inl (Y 1, cap, .inr (.inr (.inr (.inr es1)))))] ++ plW P1) := e2
      refine lv_iload_n hx hb dX2_sortByHits_4 rfl (lv_at hl 0 rfl) ?_
      have hq := e0
      have hA0 := rdA_of hP hq
      obtain ⟨hX, hL, hN, hE2, hR, hok⟩ := id hA0
      have hlen := RS_len L1
      have hn : L1.length ≤ 16 := by have := hok.1; omega
      have hoo : ∀ i, i < L1.length → rvOk (gt (RS L1) i) := fun i hi => hok.2 i (by omega)
      have hcc := hq.2.2.1
      have hcc2 := hq.2.2.2.1
      obtain ⟨kq, hk1, hk2, hk3, hk4⟩ := e1
      refine lv_sipush (v := (nI (256))) hx hb dX2_sortByHits_5 (by decide +kernel) ?_
      refine nr_icmp_ge (tgt := 32) hx hb (by omega) (by omega) dX2_sortByHits_8 (by decide) (fun c_8 => absurd c_8 (by omega)) (fun c_8 => ?_)
      refine lv_aload_n hx hb dX2_sortByHits_11 rfl (lv_at hl 2 rfl) ?_
      refine UC.callV (As := []) S (k_X2_exchangeInOnePass l hP hD hq) (cwV 0 hts gX2_sortByHits_X2_exchangeInOnePass rfl rfl rfl (by decide +kernel) ⟨Nat.le_of_ble_eq_true rfl, Nat.le_of_ble_eq_true rfl⟩) hK eT_bl (fun _ _ _ => trivial) hS (fun _ h => h) (va_recv hK.1 hP (ci := 2) (q0 := 1) rfl rfl) rfl hl.1 rfl (Nat.le_of_ble_eq_true rfl) dX2_sortByHits_12 ⟨Nat.le_of_ble_eq_true rfl, Nat.le_of_ble_eq_true rfl⟩ (fun v H locs hB hS hsz hkp => ?_)
      obtain ⟨rfl, hB⟩ := hB
      obtain ⟨mod2, es2, nt2, L2, P2, hRS2, hq2, hP, hD⟩ := hB
      obtain ⟨kr, rfl⟩ : ∃ kr, kq = kr + 1 := ⟨kq - 1, by omega⟩
      have hpi := pas_inv (RS L1)
      refine lv_istore_n (lv' := [(3, .int (nI ((pas (RS L1)).2))), (2, .int (nI (pz))), (1, .int (nI (n))), (0, .ref (x))]) hx hb dX2_sortByHits_15 rfl hl (by decide) rfl (fun ls hl => ?_)
      refine lv_iload_n hx hb dX2_sortByHits_16 rfl (lv_at hl 0 rfl) ?_
      refine nr_if_ne (tgt := 22) hx hb (by omega) dX2_sortByHits_17 (by decide) (fun c_17 => ?_) (fun c_17 => ?_)
      · have hc9 : (pas (RS L1)).2 ≠ 0 := Nat.ne_of_gt c_17
        rw [soF_n hc9] at hk3 hk4
        rw [hRS2.symm] at hk3 hk4 hpi
        have hk5 : invR (RS L2) < kr := by omega
        have hk6 : n + (pas (RS L1)).2 + (soF kr (RS L2)).2 = (sor (RS L)).2 := by rw [← hk3]; show _ = n + ((pas (RS L1)).2 + (soF kr (RS L2)).2); omega
        have hk7 : (soF kr (RS L2)).1 = (sor (RS L)).1 := hk4
        refine lv_iload_n hx hb dX2_sortByHits_22 rfl (lv_at hl 2 rfl) ?_
        refine lv_iload_n hx hb dX2_sortByHits_23 rfl (lv_at hl 0 rfl) ?_
        refine nr_iadd hx hb dX2_sortByHits_24 ?_
        refine lv_istore_n (lv' := [(1, .int (nI (n + ((pas (RS L1)).2)))), (3, .int (nI ((pas (RS L1)).2))), (2, .int (nI (pz))), (0, .ref (x))]) hx hb dX2_sortByHits_25 rfl hl (by decide) rfl (fun ls hl => ?_)
        refine lv_iinc (v := (nI (pz + 1))) (lv' := [(2, .int (nI (pz + 1))), (1, .int (nI (n + ((pas (RS L1)).2)))), (3, .int (nI ((pas (RS L1)).2))), (0, .ref (x))]) hx hb dX2_sortByHits_26 hl (k := 2) rfl (nI_add _ _) (by decide) rfl (fun ls hl => ?_)
        refine lv_goto (tgt := 4) hx hb dX2_sortByHits_29 (by decide) ?_
        exact ih_4 (n + ((pas (RS L1)).2)) (pz + 1) (mod2) (es2) (nt2) (L2) (P2) (hq2) (⟨kr, hk5, by omega, hk6, hk7⟩) (hD) (by omega) _ _ hP hS ls (lv_sub hl [0, 1, 3] rfl)
      · rw [soF_0 c_17] at hk3 hk4
        refine lv_iload_n hx hb dX2_sortByHits_20 rfl (lv_at hl 2 rfl) ?_
        refine W.widen (k := 0) (n := 0) (by omega) (by omega) ?_
        exact hE _ _ _ _ _ dX2_sortByHits_21 (vp_nar_int _) (congrArg nI (by rw [← hk3]; rfl)) (⟨mod2, es2, nt2, L2, P2, hRS2.trans hk4, hq2, hP, hD⟩) hS
  exact loop_4 _ (0) (0) (mod) (es) (nt) (L) (P) (hq) (⟨241, by have := invR_le (rs := RS L) (by omega); omega, Nat.le_refl _, Nat.zero_add _, rfl⟩) (hD) (Nat.lt_succ_self _) _ _ hP hS ls (lv_sub hl [0, 1, 2] rfl)
