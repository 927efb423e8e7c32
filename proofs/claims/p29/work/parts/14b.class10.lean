/-! the empty list; the model made -/
theorem set3 {wl : va_W} {i : Nat} {x y c1 c2 c3 : Nat × va_E} {c : Nat × va_E} (h : wl[i]? = some c) : (wl.set i x ++ [c1] ++ [c2] ++ [c3]).set i y = wl.set i y ++ [c1] ++ [c2] ++ [c3] := by
  have h2 := (List.getElem?_eq_some_iff.mp h).1
  rw [List.set_append_left _ _ (by simp only [List.length_append, List.length_set]; omega), set2 h]
theorem set4 {wl : va_W} {i : Nat} {x y c1 c2 c3 c4 : Nat × va_E} {c : Nat × va_E} (h : wl[i]? = some c) : (wl.set i x ++ [c1] ++ [c2] ++ [c3] ++ [c4]).set i y = wl.set i y ++ [c1] ++ [c2] ++ [c3] ++ [c4] := by
  have h2 := (List.getElem?_eq_some_iff.mp h).1
  rw [List.set_append_left _ _ (by simp only [List.length_append, List.length_set]; omega), set3 h]
theorem set5 {wl : va_W} {i : Nat} {x y c1 c2 c3 c4 c5 : Nat × va_E} {c : Nat × va_E} (h : wl[i]? = some c) : (wl.set i x ++ [c1] ++ [c2] ++ [c3] ++ [c4] ++ [c5]).set i y = wl.set i y ++ [c1] ++ [c2] ++ [c3] ++ [c4] ++ [c5] := by
  have h2 := (List.getElem?_eq_some_iff.mp h).1
  rw [List.set_append_left _ _ (by simp only [List.length_append, List.length_set]; omega), set4 h]
theorem rdA0 {D : va_G} {Y : Nat → ClassId} {la x na t0 : Nat} {mod : Int32} {es : Nat → Option Nat} {nt : Nat → Int32} {ju mi lo : Int32} {H : Heap} (hP : va_P D aCl ([(la, .inr (4, [.int mod, .ref t0, .int (nI 0)])), (x, .inr (2, [.ref la, .ref na, .int ju, .int mi, .int lo])), (na, .inl (Y 0, 128, .inl nt))] ++ ([] : va_W)) H) : rdA D Y x la na t0 0 mod es nt ju mi lo [] H :=
  ⟨hP.sub [1] rfl, hP.sub [0] rfl, hP.sub [2] rfl, fun z => absurd z (Nat.lt_irrefl 0), fun i hi => absurd hi (Nat.not_lt_zero i), Nat.zero_le _, fun i hi => absurd hi (Nat.not_lt_zero i)⟩
set_option maxHeartbeats 4000000 in
set_option maxRecDepth 100000 in
theorem k_X2_exchangeInOnePass_0 (l : Launch) {D : va_G} {Y : Nat → ClassId} {H : Heap} {x la na ea cap : Nat} {mod ju mi lo : Int32} {es : Nat → Option Nat} {nt : Nat → Int32} {L : List RA}  (hA : rdA D Y x la na ea cap mod es nt ju mi lo L H) (hz : L.length = 0) : Rd l yX2_exchangeInOnePass wsX2_exchangeInOnePass 4 D Y [.ref (x)] H (nI 0) := by
  refine Rd.start (cc := cX2_exchangeInOnePass) (maxL := 5) (rt := .int) (by decide) rfl (Nat.le_of_ble_eq_true rfl) ?_
  intro p e s m args below meth c ls Q S hK hl hE
  have S : CallFix p m c cX2_exchangeInOnePass 5 s args wsX2_exchangeInOnePass RX2 := S
  have hx := S.1
  have hb := S.2.1
  have hts := S.2.2.2.2
  have hl : lv_has ls 5 [(0, .ref (x))] := hl
  have hA0 := hA
  obtain ⟨hX, hL, hN, hE2, hR, hok⟩ := hA
  have hlen : (RS L).length = L.length := List.length_map ..
  have hn : L.length ≤ 16 := by have := hok.1; omega
  have hoo : ∀ i, i < L.length → rvOk (gt (RS L) i) := fun i hi => hok.2 i (by omega)
  refine lv_iconst (v := (nI (0))) hx hb dX2_exchangeInOnePass_0 (by decide +kernel) ?_
  refine lv_istore_n (lv' := [(1, .int (nI (0))), (0, .ref (x))]) hx hb dX2_exchangeInOnePass_1 rfl hl (by decide) rfl (fun ls hl => ?_)
  refine lv_iconst (v := (nI (0))) hx hb dX2_exchangeInOnePass_2 (by decide +kernel) ?_
  refine lv_istore_n (lv' := [(2, .int (nI (0))), (1, .int (nI (0))), (0, .ref (x))]) hx hb dX2_exchangeInOnePass_3 rfl hl (by decide) rfl (fun ls hl => ?_)
  refine lv_iload_n hx hb dX2_exchangeInOnePass_4 rfl (lv_at hl 0 rfl) ?_
  refine lv_aload_n hx hb dX2_exchangeInOnePass_5 rfl (lv_at hl 2 rfl) ?_
  refine nr_get (C := RX2) (T := TX2) (N := 5) (ci := 2) S (fun _ h => List.mem_cons_of_mem _ (List.mem_append_left _ (List.mem_append_left _ (List.mem_append_left _ (List.mem_append_right _ (h)))))) hK hX 0 rfl rfl 0 (by decide) (List.mem_of_getElem? (i := 1) rfl) rfl dX2_exchangeInOnePass_6 ?_
  refine Rd.callV (r := (nI (L.length))) (As := []) S (k_Jx4a65c_size_8abf5 l hL) (cwV 0 hts gX2_exchangeInOnePass_Jx4a65c_size_8abf5 rfl rfl rfl (by decide +kernel) ⟨Nat.le_of_ble_eq_true rfl, Nat.le_of_ble_eq_true rfl⟩) hK (va_recv hK.1 hL (ci := 4) (q0 := 0) rfl rfl) rfl hl.1 rfl (Nat.le_of_ble_eq_true rfl) dX2_exchangeInOnePass_9 ⟨Nat.zero_le _, Nat.zero_le _⟩ ?_
  refine lv_iconst (v := (nI (1))) hx hb dX2_exchangeInOnePass_12 (by decide +kernel) ?_
  refine lv_isub hx hb dX2_exchangeInOnePass_13 ?_
  refine lv_icmp_ge (tgt := 97) hx hb dX2_exchangeInOnePass_14 (by decide) (fun c_14 => ?_) (fun c_14 => absurd c_14 (fun q9 => q9 ((nI_les (by omega) (by omega)).mpr (by omega))))
  refine lv_iload_n hx hb dX2_exchangeInOnePass_97 rfl (lv_at hl 1 rfl) ?_
  exact hE _ _ _ dX2_exchangeInOnePass_98 (vp_nar_int _) (rfl)
set_option maxHeartbeats 4000000 in
set_option maxRecDepth 100000 in
theorem k_X2_sortByHits_0 (l : Launch) {D : va_G} {Y : Nat → ClassId} {H : Heap} {x la na ea cap : Nat} {mod ju mi lo : Int32} {es : Nat → Option Nat} {nt : Nat → Int32} {L : List RA}  (hA : rdA D Y x la na ea cap mod es nt ju mi lo L H) (hz : L.length = 0) (hA0 : rdA D Y x la na ea cap mod es nt ju mi lo L H) : Rd l yX2_sortByHits wsX2_sortByHits 5 D Y [.ref (x)] H (nI 0) := by
  refine Rd.start (cc := cX2_sortByHits) (maxL := 4) (rt := .int) (by decide) rfl (Nat.le_of_ble_eq_true rfl) ?_
  intro p e s m args below meth c ls Q S hK hl hE
  have S : CallFix p m c cX2_sortByHits 4 s args wsX2_sortByHits RX2 := S
  have hx := S.1
  have hb := S.2.1
  have hts := S.2.2.2.2
  have hl : lv_has ls 4 [(0, .ref (x))] := hl
  have hA0 := hA
  obtain ⟨hX, hL, hN, hE2, hR, hok⟩ := hA
  have hlen : (RS L).length = L.length := List.length_map ..
  have hn : L.length ≤ 16 := by have := hok.1; omega
  have hoo : ∀ i, i < L.length → rvOk (gt (RS L) i) := fun i hi => hok.2 i (by omega)
  refine lv_iconst (v := (nI (0))) hx hb dX2_sortByHits_0 (by decide +kernel) ?_
  refine lv_istore_n (lv' := [(1, .int (nI (0))), (0, .ref (x))]) hx hb dX2_sortByHits_1 rfl hl (by decide) rfl (fun ls hl => ?_)
  refine lv_iconst (v := (nI (0))) hx hb dX2_sortByHits_2 (by decide +kernel) ?_
  refine lv_istore_n (lv' := [(2, .int (nI (0))), (1, .int (nI (0))), (0, .ref (x))]) hx hb dX2_sortByHits_3 rfl hl (by decide) rfl (fun ls hl => ?_)
  refine lv_iload_n hx hb dX2_sortByHits_4 rfl (lv_at hl 0 rfl) ?_
  refine lv_sipush (v := (nI (256))) hx hb dX2_sortByHits_5 (by decide +kernel) ?_
  refine nr_icmp_ge (tgt := 32) hx hb (by omega) (by omega) dX2_sortByHits_8 (by decide) (fun c_8 => absurd c_8 (by decide)) (fun c_8 => ?_)
  refine lv_aload_n hx hb dX2_sortByHits_11 rfl (lv_at hl 2 rfl) ?_
  refine Rd.callV (r := (nI (0))) (As := []) S (k_X2_exchangeInOnePass_0 l hA0 hz) (cwV 0 hts gX2_sortByHits_X2_exchangeInOnePass rfl rfl rfl (by decide +kernel) ⟨Nat.le_of_ble_eq_true rfl, Nat.le_of_ble_eq_true rfl⟩) hK (va_recv hK.1 hX (ci := 2) (q0 := 0) rfl rfl) rfl hl.1 rfl (Nat.le_of_ble_eq_true rfl) dX2_sortByHits_12 ⟨Nat.zero_le _, Nat.zero_le _⟩ ?_
  refine lv_istore_n (lv' := [(3, .int (nI (0))), (2, .int (nI (0))), (1, .int (nI (0))), (0, .ref (x))]) hx hb dX2_sortByHits_15 rfl hl (by decide) rfl (fun ls hl => ?_)
  refine lv_iload_n hx hb dX2_sortByHits_16 rfl (lv_at hl 0 rfl) ?_
  refine nr_if_ne (tgt := 22) hx hb (by omega) dX2_sortByHits_17 (by decide) (fun c_17 => absurd c_17 (by decide)) (fun c_17 => ?_)
  refine lv_iload_n hx hb dX2_sortByHits_20 rfl (lv_at hl 2 rfl) ?_
  exact hE _ _ _ dX2_sortByHits_21 (vp_nar_int _) (rfl)
set_option maxHeartbeats 4000000 in
set_option maxRecDepth 100000 in
theorem k_X2_shorten_0 (l : Launch) {D : va_G} {Y : Nat → ClassId} {H : Heap} {x la na ea cap : Nat} {mod ju mi lo : Int32} {es : Nat → Option Nat} {nt : Nat → Int32} {L : List RA}  (hA : rdA D Y x la na ea cap mod es nt ju mi lo L H) (hz : L.length = 0) : Rd l yX2_shorten wsX2_shorten 5 D Y [.ref (x)] H (nI 0) := by
  refine Rd.start (cc := cX2_shorten) (maxL := 4) (rt := .int) (by decide) rfl (Nat.le_of_ble_eq_true rfl) ?_
  intro p e s m args below meth c ls Q S hK hl hE
  have S : CallFix p m c cX2_shorten 4 s args wsX2_shorten RX2 := S
  have hx := S.1
  have hb := S.2.1
  have hts := S.2.2.2.2
  have hl : lv_has ls 4 [(0, .ref (x))] := hl
  have hA0 := hA
  obtain ⟨hX, hL, hN, hE2, hR, hok⟩ := hA
  have hlen : (RS L).length = L.length := List.length_map ..
  have hn : L.length ≤ 16 := by have := hok.1; omega
  have hoo : ∀ i, i < L.length → rvOk (gt (RS L) i) := fun i hi => hok.2 i (by omega)
  refine lv_aload_n hx hb dX2_shorten_0 rfl (lv_at hl 0 rfl) ?_
  refine nr_get (C := RX2) (T := TX2) (N := 5) (ci := 2) S (fun _ h => List.mem_cons_of_mem _ (List.mem_append_left _ (List.mem_append_left _ (List.mem_append_left _ (List.mem_append_right _ (h)))))) hK hX 0 rfl rfl 0 (by decide) (List.mem_of_getElem? (i := 1) rfl) rfl dX2_shorten_1 ?_
  refine Rd.callV (r := (nI (L.length))) (As := []) S (k_Jx4a65c_size_8abf5 l hL) (cwV 0 hts gX2_shorten_Jx4a65c_size_8abf5 rfl rfl rfl (by decide +kernel) ⟨Nat.le_of_ble_eq_true rfl, Nat.le_of_ble_eq_true rfl⟩) hK (va_recv hK.1 hL (ci := 4) (q0 := 0) rfl rfl) rfl hl.1 rfl (Nat.le_of_ble_eq_true rfl) dX2_shorten_4 ⟨Nat.zero_le _, Nat.zero_le _⟩ ?_
  refine lv_istore_n (lv' := [(1, .int (nI (L.length))), (0, .ref (x))]) hx hb dX2_shorten_7 rfl hl (by decide) rfl (fun ls hl => ?_)
  refine lv_iconst (v := (nI (1))) hx hb dX2_shorten_8 (by decide +kernel) ?_
  refine lv_istore_n (lv' := [(2, .int (nI (1))), (1, .int (nI (L.length))), (0, .ref (x))]) hx hb dX2_shorten_9 rfl hl (by decide) rfl (fun ls hl => ?_)
  refine lv_iconst (v := (nI (0))) hx hb dX2_shorten_10 (by decide +kernel) ?_
  refine lv_istore_n (lv' := [(3, .int (nI (0))), (2, .int (nI (1))), (1, .int (nI (L.length))), (0, .ref (x))]) hx hb dX2_shorten_11 rfl hl (by decide) rfl (fun ls hl => ?_)
  refine lv_iload_n hx hb dX2_shorten_12 rfl (lv_at hl 0 rfl) ?_
  refine lv_iload_n hx hb dX2_shorten_13 rfl (lv_at hl 2 rfl) ?_
  refine nr_icmp_ge (tgt := 47) hx hb (by omega) (by omega) dX2_shorten_14 (by decide) (fun c_14 => ?_) (fun c_14 => absurd c_14 (by omega))
  refine lv_iload_n hx hb dX2_shorten_47 rfl (lv_at hl 2 rfl) ?_
  refine lv_aload_n hx hb dX2_shorten_48 rfl (lv_at hl 3 rfl) ?_
  refine nr_get (C := RX2) (T := TX2) (N := 5) (ci := 2) S (fun _ h => List.mem_cons_of_mem _ (List.mem_append_left _ (List.mem_append_left _ (List.mem_append_left _ (List.mem_append_right _ (h)))))) hK hX 0 rfl rfl 0 (by decide) (List.mem_of_getElem? (i := 1) rfl) rfl dX2_shorten_49 ?_
  refine Rd.callV (r := (nI (L.length))) (As := []) S (k_Jx4a65c_size_8abf5 l hL) (cwV 0 hts gX2_shorten_Jx4a65c_size_8abf5 rfl rfl rfl (by decide +kernel) ⟨Nat.le_of_ble_eq_true rfl, Nat.le_of_ble_eq_true rfl⟩) hK (va_recv hK.1 hL (ci := 4) (q0 := 0) rfl rfl) rfl hl.1 rfl (Nat.le_of_ble_eq_true rfl) dX2_shorten_52 ⟨Nat.zero_le _, Nat.zero_le _⟩ ?_
  refine nr_isub hx hb (by omega) dX2_shorten_55 ?_
  exact hE _ _ _ dX2_shorten_56 (vp_nar_int _) (congrArg nI (by omega))
set_option maxHeartbeats 4000000 in
set_option maxRecDepth 100000 in
theorem k_X2_judge_0 (l : Launch) {D : va_G} {Y : Nat → ClassId} {H0 : Heap} {F : Nat → Prop} {la x na t0 : Nat} {mod ju mi lo : Int32} {nt : Nat → Int32} {s0 d0 p0 : Nat} (hP : va_P D aCl ([(la, .inr (4, [.int (mod), .ref (t0), .int (nI (0))])), (x, .inr (2, [.ref (la), .ref (na), .int (ju), .int (mi), .int (lo)])), (na, .inl (Y 0, 128, .inl nt))] ++ ([] : va_W)) H0) (hD : va_D F ([(la, .inr (4, [.int (mod), .ref (t0), .int (nI (0))])), (x, .inr (2, [.ref (la), .ref (na), .int (ju), .int (mi), .int (lo)])), (na, .inl (Y 0, 128, .inl nt))] ++ ([] : va_W))) (hs : s0 < 32) (hd : d0 < 32) (hp : p0 < 4) : UC l yX2_judge wsX2_judge 5 0 0 D Y (eT) [.ref (x), .int (nI (s0)), .int (nI (d0)), .int (nI (p0))] H0 F (bI_ (nI 0) (fun H => va_P D aCl ([(la, .inr (4, [.int (mod), .ref (t0), .int (nI (0))])), (x, .inr (2, [.ref (la), .ref (na), .int (ju + nI 1), .int (mi + nI 1), .int (lo + nI 0)])), (na, .inl (Y 0, 128, .inl nt))] ++ ([] : va_W)) H)) := by
  refine UCi.start (cc := cX2_judge) (maxL := 6) (rt := .boolean) (by decide) rfl (Nat.le_of_ble_eq_true rfl) ?_
  intro p e s m args below meth c ls H locs Q S hK hH0 hE0 hHH hS hl hin hE
  rw [← hHH] at hP
  have S : CallFix p m c cX2_judge 6 s args wsX2_judge RX2 := S
  have hx := S.1
  have hb := S.2.1
  have hts := S.2.2.2.2
  have hl : lv_has ls 6 [(0, .ref (x)), (1, .int (nI (s0))), (2, .int (nI (d0))), (3, .int (nI (p0)))] := hl
  have hA0 := rdA0 (es := fun _ => none) hP
  obtain ⟨hX, hL, hN, hE2, hR, hok⟩ := id hA0
  have hfm0 : fmN (RS []) s0 d0 p0 = 0 := rfl
  refine lv_iload_n hx hb dX2_judge_0 rfl (lv_at hl 1 rfl) ?_
  refine lv_iload_n hx hb dX2_judge_1 rfl (lv_at hl 2 rfl) ?_
  refine lv_iload_n hx hb dX2_judge_2 rfl (lv_at hl 3 rfl) ?_
  refine RdU.callS (As := [.int (nI (s0)), .int (nI (d0)), .int (nI (p0))]) S (k_X2_checkPacket l (s0 := s0) (d0 := d0) (p0 := p0) (by omega) (by omega) (by omega)) (va_cwS 3 hts gX2_judge_X2_checkPacket rfl rfl rfl (by decide +kernel) ⟨Nat.le_of_ble_eq_true rfl, Nat.le_of_ble_eq_true rfl⟩) hK rfl hl.1 rfl (Nat.le_of_ble_eq_true rfl) dX2_judge_3 ⟨Nat.le_of_ble_eq_true rfl, Nat.le_of_ble_eq_true rfl⟩ ?_
  refine lv_aload_n hx hb dX2_judge_6 rfl (lv_at hl 0 rfl) ?_
  refine lv_iload_n hx hb dX2_judge_7 rfl (lv_at hl 1 rfl) ?_
  refine lv_iload_n hx hb dX2_judge_8 rfl (lv_at hl 2 rfl) ?_
  refine lv_iload_n hx hb dX2_judge_9 rfl (lv_at hl 3 rfl) ?_
  refine Rd.callV (r := (nI (0))) (As := [.int (nI (s0)), .int (nI (d0)), .int (nI (p0))]) S (hfm0 ▸ k_X2_firstMatch l hA0 (s0 := s0) (d0 := d0) (p0 := p0) (by omega) (by omega) (by omega)) (cwV 3 hts gX2_judge_X2_firstMatch rfl rfl rfl (by decide +kernel) ⟨Nat.le_of_ble_eq_true rfl, Nat.le_of_ble_eq_true rfl⟩) hK (va_recv hK.1 hP (ci := 2) (q0 := 1) rfl rfl) rfl hl.1 rfl (Nat.le_of_ble_eq_true rfl) dX2_judge_10 ⟨Nat.le_of_ble_eq_true rfl, Nat.le_of_ble_eq_true rfl⟩ ?_
  refine lv_istore (lv' := [(4, .int (nI (0))), (0, .ref (x)), (1, .int (nI (s0))), (2, .int (nI (d0))), (3, .int (nI (p0)))]) hx hb dX2_judge_13 hl (by decide) rfl (fun ls hl => ?_)
  refine lv_aload_n hx hb dX2_judge_15 rfl (lv_at hl 1 rfl) ?_
  refine lv_dup hx hb dX2_judge_16 rfl ?_
  refine nr_get (C := RX2) (T := TX2) (N := 5) (ci := 2) S (fun _ h => List.mem_cons_of_mem _ (List.mem_append_left _ (List.mem_append_left _ (List.mem_append_left _ (List.mem_append_left _ (List.mem_append_right _ (h))))))) hK hP 1 rfl rfl 2 (by decide) (List.mem_of_getElem? (i := 1) rfl) rfl dX2_judge_17 ?_
  refine lv_iconst (v := (nI (1))) hx hb dX2_judge_20 (by decide +kernel) ?_
  refine lv_iadd hx hb dX2_judge_21 ?_
  refine nr_put (C := RX2) (T := TX2) (N := 5) (ci := 2) (v := .int (((ju) + (nI (1))))) S (fun _ h => List.mem_cons_of_mem _ (List.mem_append_left _ (List.mem_append_left _ (List.mem_append_left _ (List.mem_append_left _ (List.mem_append_right _ (h))))))) tyX2 tyX2_ok nmX2 hK hP hD hS 1 rfl rfl 2 (by decide) (List.mem_of_getElem? (i := 1) rfl) rfl rfl rfl (Nat.le_of_ble_eq_true rfl) dX2_judge_22 (fun H locs hP hD hS => ?_)
  have hP : va_P D aCl ([(la, .inr (4, [.int (mod), .ref (t0), .int (nI (0))])), (x, .inr (2, [.ref (la), .ref (na), .int (((ju) + (nI (1)))), .int (mi), .int (lo)])), (na, .inl (Y 0, 128, .inl nt))] ++ ([] : va_W)) H := hP
  have hD : va_D F ([(la, .inr (4, [.int (mod), .ref (t0), .int (nI (0))])), (x, .inr (2, [.ref (la), .ref (na), .int (((ju) + (nI (1)))), .int (mi), .int (lo)])), (na, .inl (Y 0, 128, .inl nt))] ++ ([] : va_W)) := hD
  refine lv_iload hx hb dX2_judge_25 (lv_at hl 0 rfl) ?_
  refine lv_aload_n hx hb dX2_judge_27 rfl (lv_at hl 1 rfl) ?_
  refine nr_get (C := RX2) (T := TX2) (N := 5) (ci := 2) S (fun _ h => List.mem_cons_of_mem _ (List.mem_append_left _ (List.mem_append_left _ (List.mem_append_left _ (List.mem_append_left _ (List.mem_append_right _ (h))))))) hK hP 1 rfl rfl 0 (by decide) (List.mem_of_getElem? (i := 2) rfl) rfl dX2_judge_28 ?_
  refine Rd.callV (r := (nI (0))) (As := []) S (k_Jx4a65c_size_8abf5 l (hP.sub [0] rfl)) (cwV 0 hts gX2_judge_Jx4a65c_size_8abf5 rfl rfl rfl (by decide +kernel) ⟨Nat.le_of_ble_eq_true rfl, Nat.le_of_ble_eq_true rfl⟩) hK (va_recv hK.1 hP (ci := 4) (q0 := 0) rfl rfl) rfl hl.1 rfl (Nat.le_of_ble_eq_true rfl) dX2_judge_31 ⟨Nat.le_of_ble_eq_true rfl, Nat.le_of_ble_eq_true rfl⟩ ?_
  refine nr_icmp_lt (tgt := 65) hx hb (by omega) (by omega) dX2_judge_34 (by decide) (fun c_34 => absurd c_34 (by decide)) (fun c_34 => ?_)
  refine lv_aload_n hx hb dX2_judge_37 rfl (lv_at hl 1 rfl) ?_
  refine lv_dup hx hb dX2_judge_38 rfl ?_
  refine nr_get (C := RX2) (T := TX2) (N := 5) (ci := 2) S (fun _ h => List.mem_cons_of_mem _ (List.mem_append_left _ (List.mem_append_left _ (List.mem_append_left _ (List.mem_append_left _ (List.mem_append_right _ (h))))))) hK hP 1 rfl rfl 3 (by decide) (List.mem_of_getElem? (i := 3) rfl) rfl dX2_judge_39 ?_
  refine lv_iconst (v := (nI (1))) hx hb dX2_judge_42 (by decide +kernel) ?_
  refine lv_iadd hx hb dX2_judge_43 ?_
  refine nr_put (C := RX2) (T := TX2) (N := 5) (ci := 2) (v := .int (((mi) + (nI (1))))) S (fun _ h => List.mem_cons_of_mem _ (List.mem_append_left _ (List.mem_append_left _ (List.mem_append_left _ (List.mem_append_left _ (List.mem_append_right _ (h))))))) tyX2 tyX2_ok nmX2 hK hP hD hS 1 rfl rfl 3 (by decide) (List.mem_of_getElem? (i := 3) rfl) rfl rfl rfl (Nat.le_of_ble_eq_true rfl) dX2_judge_44 (fun H locs hP hD hS => ?_)
  have hP : va_P D aCl ([(la, .inr (4, [.int (mod), .ref (t0), .int (nI (0))])), (x, .inr (2, [.ref (la), .ref (na), .int (((ju) + (nI (1)))), .int (((mi) + (nI (1)))), .int (lo)])), (na, .inl (Y 0, 128, .inl nt))] ++ ([] : va_W)) H := hP
  have hD : va_D F ([(la, .inr (4, [.int (mod), .ref (t0), .int (nI (0))])), (x, .inr (2, [.ref (la), .ref (na), .int (((ju) + (nI (1)))), .int (((mi) + (nI (1)))), .int (lo)])), (na, .inl (Y 0, 128, .inl nt))] ++ ([] : va_W)) := hD
  refine lv_aload_n hx hb dX2_judge_47 rfl (lv_at hl 1 rfl) ?_
  refine lv_dup hx hb dX2_judge_48 rfl ?_
  refine nr_get (C := RX2) (T := TX2) (N := 5) (ci := 2) S (fun _ h => List.mem_cons_of_mem _ (List.mem_append_left _ (List.mem_append_left _ (List.mem_append_left _ (List.mem_append_left _ (List.mem_append_right _ (h))))))) hK hP 1 rfl rfl 4 (by decide) (List.mem_of_getElem? (i := 4) rfl) rfl dX2_judge_49 ?_
  refine lv_aload_n hx hb dX2_judge_52 rfl (lv_at hl 1 rfl) ?_
  refine nr_get (C := RX2) (T := TX2) (N := 5) (ci := 2) S (fun _ h => List.mem_cons_of_mem _ (List.mem_append_left _ (List.mem_append_left _ (List.mem_append_left _ (List.mem_append_left _ (List.mem_append_right _ (h))))))) hK hP 1 rfl rfl 0 (by decide) (List.mem_of_getElem? (i := 2) rfl) rfl dX2_judge_53 ?_
  refine Rd.callV (r := (nI (0))) (As := []) S (k_Jx4a65c_size_8abf5 l (hP.sub [0] rfl)) (cwV 0 hts gX2_judge_Jx4a65c_size_8abf5 rfl rfl rfl (by decide +kernel) ⟨Nat.le_of_ble_eq_true rfl, Nat.le_of_ble_eq_true rfl⟩) hK (va_recv hK.1 hP (ci := 4) (q0 := 0) rfl rfl) rfl hl.1 rfl (Nat.le_of_ble_eq_true rfl) dX2_judge_56 ⟨Nat.le_of_ble_eq_true rfl, Nat.le_of_ble_eq_true rfl⟩ ?_
  refine lv_iadd hx hb dX2_judge_59 ?_
  refine nr_put (C := RX2) (T := TX2) (N := 5) (ci := 2) (v := .int (((lo) + (nI (0))))) S (fun _ h => List.mem_cons_of_mem _ (List.mem_append_left _ (List.mem_append_left _ (List.mem_append_left _ (List.mem_append_left _ (List.mem_append_right _ (h))))))) tyX2 tyX2_ok nmX2 hK hP hD hS 1 rfl rfl 4 (by decide) (List.mem_of_getElem? (i := 4) rfl) rfl rfl rfl (Nat.le_of_ble_eq_true rfl) dX2_judge_60 (fun H locs hP hD hS => ?_)
  have hP : va_P D aCl ([(la, .inr (4, [.int (mod), .ref (t0), .int (nI (0))])), (x, .inr (2, [.ref (la), .ref (na), .int (((ju) + (nI (1)))), .int (((mi) + (nI (1)))), .int (((lo) + (nI (0))))])), (na, .inl (Y 0, 128, .inl nt))] ++ ([] : va_W)) H := hP
  have hD : va_D F ([(la, .inr (4, [.int (mod), .ref (t0), .int (nI (0))])), (x, .inr (2, [.ref (la), .ref (na), .int (((ju) + (nI (1)))), .int (((mi) + (nI (1)))), .int (((lo) + (nI (0))))])), (na, .inl (Y 0, 128, .inl nt))] ++ ([] : va_W)) := hD
  refine lv_iconst (v := (nI (0))) hx hb dX2_judge_63 (by decide +kernel) ?_
  refine W.widen (k := 0) (n := 0) (by omega) (by omega) ?_
  exact hE _ _ _ _ _ dX2_judge_64 (rfl) (rfl) (hP) hS
