/-! the law's own small methods -/
set_option maxHeartbeats 4000000 in
set_option maxRecDepth 100000 in
theorem k_L_low (l : Launch) {D : va_G} {Y : Nat → ClassId} {H : Heap} {v : Int32} {n : Nat} (hn : 0 < n) (hn2 : n < 2 ^ 31) : Rd l yL_low wsL_low 0 D Y [.int (v), .int (nI (n))] H (nI (lowN v n)) := by
  refine Rd.start (cc := cL_low) (maxL := 2) (rt := .int) (by decide) rfl (Nat.le_of_ble_eq_true rfl) ?_
  intro p e s m args below meth c ls Q S hK hl hE
  have S : CallFix p m c cL_low 2 s args wsL_low RL := S
  have hx := S.1
  have hb := S.2.1
  have hts := S.2.2.2.2
  have hl : lv_has ls 2 [(0, .int (v)), (1, .int (nI (n)))] := hl
  have hm := lowM_lt v
  refine lv_iload_n hx hb dL_low_0 rfl (lv_at hl 0 rfl) ?_
  refine lv_ldc hx hb S.2.2.2.1 (hts _ (List.mem_of_getElem? (i := 1) rfl)) dL_low_1 ?_
  refine lv_iand hx hb dL_low_3 ?_
  refine nr_top (y := (nI (lowM v))) (low_and v) ?_
  refine lv_iload_n hx hb dL_low_4 rfl (lv_at hl 1 rfl) ?_
  refine nr_irem hx hb (by omega) hn hn2 dL_low_5 ?_
  exact hE _ _ _ dL_low_6 (vp_nar_int _) (rfl)
set_option maxHeartbeats 4000000 in
set_option maxRecDepth 100000 in
theorem k_L_many (l : Launch) {D : va_G} {Y : Nat → ClassId} {H : Heap} {pr : Nat}  : Rd l yL_many wsL_many 0 D Y [.int (nI (pr))] H (nI (sumN (fun j => bN (bt (nI pr) j)) 4)) := by
  refine Rd.start (cc := cL_many) (maxL := 3) (rt := .int) (by decide) rfl (Nat.le_of_ble_eq_true rfl) ?_
  intro p e s m args below meth c ls Q S hK hl hE
  have S : CallFix p m c cL_many 3 s args wsL_many RL := S
  have hx := S.1
  have hb := S.2.1
  have hts := S.2.2.2.2
  have hl : lv_has ls 3 [(0, .int (nI (pr)))] := hl
  refine lv_iconst (v := (nI (0))) hx hb dL_many_0 (by decide +kernel) ?_
  refine lv_istore_n (lv' := [(1, .int (nI (0))), (0, .int (nI (pr)))]) hx hb dL_many_1 rfl hl (by decide) rfl (fun ls hl => ?_)
  refine lv_iconst (v := (nI (0))) hx hb dL_many_2 (by decide +kernel) ?_
  refine lv_istore_n (lv' := [(2, .int (nI (0))), (1, .int (nI (0))), (0, .int (nI (pr)))]) hx hb dL_many_3 rfl hl (by decide) rfl (fun ls hl => ?_)
  have loop_4 : ∀ (fu_4 : Nat) (n : Nat) (k : Nat), (k ≤ 4) → (n = sumN (fun j => bN (bt (nI pr) j)) k) → 4 - k < fu_4 → ∀ ls : Array Slot, lv_has ls 3 [(2, .int (nI (k))), (1, .int (nI (n))), (0, .int (nI (pr)))] → W p l e (rmN 0) s m args below meth c H [] 0 0 Q (F0 m 4 ls []) := by
    intro fu_4
    induction fu_4 with
    | zero => exact fun n k _ _ hk => absurd hk (Nat.not_lt_zero _)
    | succ fu_4 ih_4 =>
      intro n k h1 h2 hk_4 ls hl
      refine lv_iload_n hx hb dL_many_4 rfl (lv_at hl 0 rfl) ?_
      refine lv_iconst (v := (nI (4))) hx hb dL_many_5 (by decide +kernel) ?_
      refine nr_icmp_ge (tgt := 23) hx hb (by omega) (by omega) dL_many_6 (by decide) (fun c_6 => ?_) (fun c_6 => ?_)
      · refine lv_iload_n hx hb dL_many_23 rfl (lv_at hl 1 rfl) ?_
        exact hE _ _ _ dL_many_24 (vp_nar_int _) (by rw [h2, show k = 4 from by omega])
      · refine lv_iload_n hx hb dL_many_9 rfl (lv_at hl 1 rfl) ?_
        refine lv_iload_n hx hb dL_many_10 rfl (lv_at hl 2 rfl) ?_
        refine lv_iload_n hx hb dL_many_11 rfl (lv_at hl 0 rfl) ?_
        refine lv_ishr hx hb dL_many_12 ?_
        refine lv_iconst (v := (nI (1))) hx hb dL_many_13 (by decide +kernel) ?_
        refine lv_iand hx hb dL_many_14 ?_
        refine nr_top (y := (nI (bN (bt (nI pr) k)))) (bit_and (nI pr) (by omega)) ?_
        refine nr_iadd hx hb dL_many_15 ?_
        refine lv_istore_n (lv' := [(1, .int (nI (n + (bN (bt (nI pr) k))))), (2, .int (nI (k))), (0, .int (nI (pr)))]) hx hb dL_many_16 rfl hl (by decide) rfl (fun ls hl => ?_)
        refine lv_iinc (v := (nI (k + 1))) (lv' := [(2, .int (nI (k + 1))), (1, .int (nI (n + (bN (bt (nI pr) k))))), (0, .int (nI (pr)))]) hx hb dL_many_17 hl (k := 1) rfl (nI_add _ _) (by decide) rfl (fun ls hl => ?_)
        refine lv_goto (tgt := 4) hx hb dL_many_20 (by decide) ?_
        exact ih_4 (n + (bN (bt (nI pr) k))) (k + 1) (by omega) (by rw [h2]; rfl) (by omega) ls (lv_sub hl [0, 1, 2] rfl)
  exact loop_4 _ (0) (0) (by omega) (rfl) (Nat.lt_succ_self _) ls (lv_sub hl [0, 1, 2] rfl)
set_option maxHeartbeats 4000000 in
set_option maxRecDepth 100000 in
/-- its call returns -/
theorem hu_add (l : Launch) {D : va_G} {Y : Nat → ClassId} {H0 : Heap} {F : Nat → Prop} {t0 x : Nat} {fsx : List Value} {a0 : Int32} {a1 : Int32} {a2 : Int32} {a3 : Int32} {a4 : Int32} {a5 : Bool} {r : Int32} {B : Heap → Prop} {dM mM sM : Nat} (hd : dM + 1 ≤ 12) (hm : mM ≤ 40) (hs : sM ≤ 120) (hM : UC l yX2_add wsX2_add dM mM sM D Y (eL t0 F F) [.ref x, .int a0, .int a1, .int a2, .int a3, .int a4, .int (bI a5)] H0 F (bI_ (r) B)) (hX : va_P D aCl [(x, .inr (2, fsx))] H0) : UC l yL_add wsL_add 12 40 120 D Y (eL t0 F F) [.ref x, .int a0, .int a1, .int a2, .int a3, .int a4, .int (bI a5)] H0 F (bI_ (r) (B)) := by
  refine UCw.start (cc := cL_add) (maxL := 8) (rt := .int) (hh := [(0, 13, 14, 14), (0, 13, 19, 17)]) (by decide) rfl (Nat.le_of_ble_eq_true rfl) ?_
  intro p e s m args below meth c ls Q S hK hH0 hE0 hl htab hE
  have S : CallFix p m c cL_add 8 s args wsL_add RL := S
  have hx := S.1
  have hb := S.2.1
  have hts := S.2.2.2.2
  have hl : lv_has ls 8 [(0, .ref x), (1, .int a0), (2, .int a1), (3, .int a2), (4, .int a3), (5, .int a4), (6, .int (bI a5))] := hl
  have hS : va_S F H0 H0 [] := va_S.rf
  refine lv_aload_n hx hb dL_add_0 rfl (lv_at hl 0 rfl) ?_
  refine lv_iload_n hx hb dL_add_1 rfl (lv_at hl 1 rfl) ?_
  refine lv_iload_n hx hb dL_add_2 rfl (lv_at hl 2 rfl) ?_
  refine lv_iload_n hx hb dL_add_3 rfl (lv_at hl 3 rfl) ?_
  refine lv_iload hx hb dL_add_4 (lv_at hl 4 rfl) ?_
  refine lv_iload hx hb dL_add_6 (lv_at hl 5 rfl) ?_
  refine lv_iload hx hb dL_add_8 (lv_at hl 6 rfl) ?_
  refine UC.callV (As := [.int a0, .int a1, .int a2, .int a3, .int a4, .int (bI a5)]) S hM (cwV 6 hts gL_add_X2_add rfl rfl rfl (by decide +kernel) ⟨(by show dM + 1 ≤ 12; omega), (by show 8 + (9 + 11) + 40 * dM ≤ 40 * 12; omega)⟩) hK eL_bl (fun U hW hU => eL.go hE0 hW (hU.trans hH0.symm)) hS (fun q h => h) (va_recv hK.1 hX (ci := 2) (q0 := 0) rfl rfl) rfl hl.1 rfl (Nat.le_of_ble_eq_true rfl) dL_add_10 ⟨(by show 0 + mM ≤ 40; omega), (by show 0 + sM ≤ 120; omega)⟩ (fun v H locs hB hS hsz hkp => ?_)
  obtain ⟨rfl, hB⟩ := hB
  refine W.widen (k := 40) (n := 120) (by omega) (by omega) ?_
  exact hE _ _ _ _ _ dL_add_13 rfl rfl hB hS
set_option maxHeartbeats 4000000 in
set_option maxRecDepth 100000 in
/-- its call throws -/
theorem ht_add1 (l : Launch) {D : va_G} {Y : Nat → ClassId} {H0 : Heap} {F : Nat → Prop} {t0 x : Nat} {fsx : List Value} {a0 : Int32} {a1 : Int32} {a2 : Int32} {a3 : Int32} {a4 : Int32} {a5 : Bool} {dM : Nat} (hd : dM + 1 ≤ 12) (hM : Th l yX2_add wsX2_add dM D Y F [.ref x, .int a0, .int a1, .int a2, .int a3, .int a4, .int (bI a5)] H0 xIA) (hX : va_P D aCl [(x, .inr (2, fsx))] H0) : UC l yL_add wsL_add 12 40 120 D Y (eL t0 F F) [.ref x, .int a0, .int a1, .int a2, .int a3, .int a4, .int (bI a5)] H0 F (bI_ ((-99999 : Int32)) (Kp H0)) := by
  refine UCw.start (cc := cL_add) (maxL := 8) (rt := .int) (hh := [(0, 13, 14, 14), (0, 13, 19, 17)]) (by decide) rfl (Nat.le_of_ble_eq_true rfl) ?_
  intro p e s m args below meth c ls Q S hK hH0 hE0 hl htab hE
  have S : CallFix p m c cL_add 8 s args wsL_add RL := S
  have hx := S.1
  have hb := S.2.1
  have hts := S.2.2.2.2
  have hl : lv_has ls 8 [(0, .ref x), (1, .int a0), (2, .int a1), (3, .int a2), (4, .int a3), (5, .int a4), (6, .int (bI a5))] := hl
  have hS : va_S F H0 H0 [] := va_S.rf
  refine lv_aload_n hx hb dL_add_0 rfl (lv_at hl 0 rfl) ?_
  refine lv_iload_n hx hb dL_add_1 rfl (lv_at hl 1 rfl) ?_
  refine lv_iload_n hx hb dL_add_2 rfl (lv_at hl 2 rfl) ?_
  refine lv_iload_n hx hb dL_add_3 rfl (lv_at hl 3 rfl) ?_
  refine lv_iload hx hb dL_add_4 (lv_at hl 4 rfl) ?_
  refine lv_iload hx hb dL_add_6 (lv_at hl 5 rfl) ?_
  refine lv_iload hx hb dL_add_8 (lv_at hl 6 rfl) ?_
  refine Th.catchV (As := [.int a0, .int a1, .int a2, .int a3, .int a4, .int (bI a5)]) (name := xIA) S hM (cwV 6 hts gL_add_X2_add rfl rfl rfl (by decide +kernel) ⟨(by show dM + 1 ≤ 12; omega), (by show 8 + (9 + 11) + 40 * dM ≤ 40 * 12; omega)⟩) hK (by rw [← hH0]; exact hE0.2.1) hS (va_recv hK.1 hX (ci := 2) (q0 := 0) rfl rfl) rfl hl.1 rfl (Nat.le_of_ble_eq_true rfl) dL_add_10 ⟨Nat.le_of_ble_eq_true rfl, Nat.le_of_ble_eq_true rfl⟩ [] ⟨0, 13, 14, 14⟩ [⟨0, 13, 19, 17⟩] (by rw [htab]; rfl) (fun z hz => absurd hz List.not_mem_nil) (by decide) (by decide) (hts _ (List.mem_of_getElem? (i := 1) rfl)) (va_Nw.use (xB_on _ (by decide +kernel)) (hE0.2.1.2.2.1 (.castable xIA xIA) (by decide +kernel))) (fun q9 H1 hz hk hS => ?_)
  refine W.widen (k := 40) (n := 120) (by omega) (by omega) ?_
  refine lv_astore (lv' := [(7, .ref q9), (0, .ref x), (1, .int a0), (2, .int a1), (3, .int a2), (4, .int a3), (5, .int a4), (6, .int (bI a5))]) hx hb dL_add_14 hl (by decide) rfl (fun ls hl => ?_)
  refine lv_ldc hx hb S.2.2.2.1 (hts _ (List.mem_of_getElem? (i := 3) rfl)) dL_add_16 ?_
  exact hE _ _ _ _ _ dL_add_18 rfl rfl ⟨hz, hk⟩ hS
set_option maxHeartbeats 4000000 in
set_option maxRecDepth 100000 in
/-- its call throws -/
theorem ht_add2 (l : Launch) {D : va_G} {Y : Nat → ClassId} {H0 : Heap} {F : Nat → Prop} {t0 x : Nat} {fsx : List Value} {a0 : Int32} {a1 : Int32} {a2 : Int32} {a3 : Int32} {a4 : Int32} {a5 : Bool} {dM : Nat} (hd : dM + 1 ≤ 12) (hM : Th l yX2_add wsX2_add dM D Y F [.ref x, .int a0, .int a1, .int a2, .int a3, .int a4, .int (bI a5)] H0 xIS) (hX : va_P D aCl [(x, .inr (2, fsx))] H0) : UC l yL_add wsL_add 12 40 120 D Y (eL t0 F F) [.ref x, .int a0, .int a1, .int a2, .int a3, .int a4, .int (bI a5)] H0 F (bI_ ((-99999 : Int32)) (Kp H0)) := by
  refine UCw.start (cc := cL_add) (maxL := 8) (rt := .int) (hh := [(0, 13, 14, 14), (0, 13, 19, 17)]) (by decide) rfl (Nat.le_of_ble_eq_true rfl) ?_
  intro p e s m args below meth c ls Q S hK hH0 hE0 hl htab hE
  have S : CallFix p m c cL_add 8 s args wsL_add RL := S
  have hx := S.1
  have hb := S.2.1
  have hts := S.2.2.2.2
  have hl : lv_has ls 8 [(0, .ref x), (1, .int a0), (2, .int a1), (3, .int a2), (4, .int a3), (5, .int a4), (6, .int (bI a5))] := hl
  have hS : va_S F H0 H0 [] := va_S.rf
  refine lv_aload_n hx hb dL_add_0 rfl (lv_at hl 0 rfl) ?_
  refine lv_iload_n hx hb dL_add_1 rfl (lv_at hl 1 rfl) ?_
  refine lv_iload_n hx hb dL_add_2 rfl (lv_at hl 2 rfl) ?_
  refine lv_iload_n hx hb dL_add_3 rfl (lv_at hl 3 rfl) ?_
  refine lv_iload hx hb dL_add_4 (lv_at hl 4 rfl) ?_
  refine lv_iload hx hb dL_add_6 (lv_at hl 5 rfl) ?_
  refine lv_iload hx hb dL_add_8 (lv_at hl 6 rfl) ?_
  refine Th.catchV (As := [.int a0, .int a1, .int a2, .int a3, .int a4, .int (bI a5)]) (name := xIS) S hM (cwV 6 hts gL_add_X2_add rfl rfl rfl (by decide +kernel) ⟨(by show dM + 1 ≤ 12; omega), (by show 8 + (9 + 11) + 40 * dM ≤ 40 * 12; omega)⟩) hK (by rw [← hH0]; exact hE0.2.1) hS (va_recv hK.1 hX (ci := 2) (q0 := 0) rfl rfl) rfl hl.1 rfl (Nat.le_of_ble_eq_true rfl) dL_add_10 ⟨Nat.le_of_ble_eq_true rfl, Nat.le_of_ble_eq_true rfl⟩ [⟨0, 13, 14, 14⟩] ⟨0, 13, 19, 17⟩ [] (by rw [htab]; rfl) (fun z hz => by rcases List.mem_singleton.mp hz with rfl; exact Or.inr ⟨by decide, _, (hts _ (List.mem_of_getElem? (i := 1) rfl)), hE0.2.2⟩) (by decide) (by decide) (hts _ (List.mem_of_getElem? (i := 2) rfl)) (va_Nw.use (xB_on _ (by decide +kernel)) (hE0.2.1.2.2.1 (.castable xIS xIS) (by decide +kernel))) (fun q9 H1 hz hk hS => ?_)
  refine W.widen (k := 40) (n := 120) (by omega) (by omega) ?_
  refine lv_astore (lv' := [(7, .ref q9), (0, .ref x), (1, .int a0), (2, .int a1), (3, .int a2), (4, .int a3), (5, .int a4), (6, .int (bI a5))]) hx hb dL_add_19 hl (by decide) rfl (fun ls hl => ?_)
  refine lv_ldc hx hb S.2.2.2.1 (hts _ (List.mem_of_getElem? (i := 3) rfl)) dL_add_21 ?_
  exact hE _ _ _ _ _ dL_add_23 rfl rfl ⟨hz, hk⟩ hS
set_option maxHeartbeats 4000000 in
set_option maxRecDepth 100000 in
/-- its call returns -/
theorem hu_judge (l : Launch) {D : va_G} {Y : Nat → ClassId} {H0 : Heap} {F : Nat → Prop} {t0 x : Nat} {fsx : List Value} {a0 : Int32} {a1 : Int32} {a2 : Int32} {r : Bool} {B : Heap → Prop} {dM mM sM : Nat} (hd : dM + 1 ≤ 12) (hm : mM ≤ 40) (hs : sM ≤ 120) (hM : UC l yX2_judge wsX2_judge dM mM sM D Y (eL t0 F F) [.ref x, .int a0, .int a1, .int a2] H0 F (bI_ (bI r) B)) (hX : va_P D aCl [(x, .inr (2, fsx))] H0) : UC l yL_judge wsL_judge 12 40 120 D Y (eL t0 F F) [.ref x, .int a0, .int a1, .int a2] H0 F (bI_ (bI r) (B)) := by
  refine UCw.start (cc := cL_judge) (maxL := 5) (rt := .int) (hh := [(0, 15, 16, 14)]) (by decide) rfl (Nat.le_of_ble_eq_true rfl) ?_
  intro p e s m args below meth c ls Q S hK hH0 hE0 hl htab hE
  have S : CallFix p m c cL_judge 5 s args wsL_judge RL := S
  have hx := S.1
  have hb := S.2.1
  have hts := S.2.2.2.2
  have hl : lv_has ls 5 [(0, .ref x), (1, .int a0), (2, .int a1), (3, .int a2)] := hl
  have hS : va_S F H0 H0 [] := va_S.rf
  refine lv_aload_n hx hb dL_judge_0 rfl (lv_at hl 0 rfl) ?_
  refine lv_iload_n hx hb dL_judge_1 rfl (lv_at hl 1 rfl) ?_
  refine lv_iload_n hx hb dL_judge_2 rfl (lv_at hl 2 rfl) ?_
  refine lv_iload_n hx hb dL_judge_3 rfl (lv_at hl 3 rfl) ?_
  refine UC.callV (As := [.int a0, .int a1, .int a2]) S hM (cwV 3 hts gL_judge_X2_judge rfl rfl rfl (by decide +kernel) ⟨(by show dM + 1 ≤ 12; omega), (by show 8 + (6 + 11) + 40 * dM ≤ 40 * 12; omega)⟩) hK eL_bl (fun U hW hU => eL.go hE0 hW (hU.trans hH0.symm)) hS (fun q h => h) (va_recv hK.1 hX (ci := 2) (q0 := 0) rfl rfl) rfl hl.1 rfl (Nat.le_of_ble_eq_true rfl) dL_judge_4 ⟨(by show 0 + mM ≤ 40; omega), (by show 0 + sM ≤ 120; omega)⟩ (fun v H locs hB hS hsz hkp => ?_)
  obtain ⟨rfl, hB⟩ := hB
  refine W.widen (k := 40) (n := 120) (by omega) (by omega) ?_
  refine nr_ifB_eq (tgt := 14) hx hb dL_judge_7 (by decide) (fun c_b => ?_) (fun c_b => ?_)
  · refine lv_iconst (v := nI 0) hx hb dL_judge_14 (by decide +kernel) ?_
    exact hE _ _ _ _ _ dL_judge_15 rfl (bI_f c_b) hB hS
  · refine lv_iconst (v := nI 1) hx hb dL_judge_10 (by decide +kernel) ?_
    refine lv_goto (tgt := 15) hx hb dL_judge_11 (by decide) ?_
    exact hE _ _ _ _ _ dL_judge_15 rfl (bI_t c_b) hB hS
set_option maxHeartbeats 4000000 in
set_option maxRecDepth 100000 in
/-- its call throws -/
theorem ht_judge1 (l : Launch) {D : va_G} {Y : Nat → ClassId} {H0 : Heap} {F : Nat → Prop} {t0 x : Nat} {fsx : List Value} {a0 : Int32} {a1 : Int32} {a2 : Int32} {dM : Nat} (hd : dM + 1 ≤ 12) (hM : Th l yX2_judge wsX2_judge dM D Y F [.ref x, .int a0, .int a1, .int a2] H0 xIA) (hX : va_P D aCl [(x, .inr (2, fsx))] H0) : UC l yL_judge wsL_judge 12 40 120 D Y (eL t0 F F) [.ref x, .int a0, .int a1, .int a2] H0 F (bI_ ((-99999 : Int32)) (Kp H0)) := by
  refine UCw.start (cc := cL_judge) (maxL := 5) (rt := .int) (hh := [(0, 15, 16, 14)]) (by decide) rfl (Nat.le_of_ble_eq_true rfl) ?_
  intro p e s m args below meth c ls Q S hK hH0 hE0 hl htab hE
  have S : CallFix p m c cL_judge 5 s args wsL_judge RL := S
  have hx := S.1
  have hb := S.2.1
  have hts := S.2.2.2.2
  have hl : lv_has ls 5 [(0, .ref x), (1, .int a0), (2, .int a1), (3, .int a2)] := hl
  have hS : va_S F H0 H0 [] := va_S.rf
  refine lv_aload_n hx hb dL_judge_0 rfl (lv_at hl 0 rfl) ?_
  refine lv_iload_n hx hb dL_judge_1 rfl (lv_at hl 1 rfl) ?_
  refine lv_iload_n hx hb dL_judge_2 rfl (lv_at hl 2 rfl) ?_
  refine lv_iload_n hx hb dL_judge_3 rfl (lv_at hl 3 rfl) ?_
  refine Th.catchV (As := [.int a0, .int a1, .int a2]) (name := xIA) S hM (cwV 3 hts gL_judge_X2_judge rfl rfl rfl (by decide +kernel) ⟨(by show dM + 1 ≤ 12; omega), (by show 8 + (6 + 11) + 40 * dM ≤ 40 * 12; omega)⟩) hK (by rw [← hH0]; exact hE0.2.1) hS (va_recv hK.1 hX (ci := 2) (q0 := 0) rfl rfl) rfl hl.1 rfl (Nat.le_of_ble_eq_true rfl) dL_judge_4 ⟨Nat.le_of_ble_eq_true rfl, Nat.le_of_ble_eq_true rfl⟩ [] ⟨0, 15, 16, 14⟩ [] (by rw [htab]; rfl) (fun z hz => absurd hz List.not_mem_nil) (by decide) (by decide) (hts _ (List.mem_of_getElem? (i := 1) rfl)) (va_Nw.use (xB_on _ (by decide +kernel)) (hE0.2.1.2.2.1 (.castable xIA xIA) (by decide +kernel))) (fun q9 H1 hz hk hS => ?_)
  refine W.widen (k := 40) (n := 120) (by omega) (by omega) ?_
  refine lv_astore (lv' := [(4, .ref q9), (0, .ref x), (1, .int a0), (2, .int a1), (3, .int a2)]) hx hb dL_judge_16 hl (by decide) rfl (fun ls hl => ?_)
  refine lv_ldc hx hb S.2.2.2.1 (hts _ (List.mem_of_getElem? (i := 2) rfl)) dL_judge_18 ?_
  exact hE _ _ _ _ _ dL_judge_20 rfl rfl ⟨hz, hk⟩ hS
set_option maxHeartbeats 4000000 in
set_option maxRecDepth 100000 in
/-- its call returns -/
theorem hu_tendsM (l : Launch) {D : va_G} {Y : Nat → ClassId} {H0 : Heap} {F : Nat → Prop} {t0 x : Nat} {fsx : List Value} {a1 : Int32} {a2 : Int32} {r : Int32} {B : Heap → Prop} {dM mM sM : Nat} (hd : dM + 1 ≤ 12) (hm : mM ≤ 40) (hs : sM ≤ 120) (hM : UC l yX2_move wsX2_move dM mM sM D Y (eL t0 F F) [.ref x, .int a1, .int a2] H0 F (bI_ (r) B)) (hX : va_P D aCl [(x, .inr (2, fsx))] H0) : UC l yL_tends wsL_tends 12 40 120 D Y (eL t0 F F) [.ref x, .int (nI 0), .int a1, .int a2] H0 F (bI_ (r) (B)) := by
  refine UCw.start (cc := cL_tends) (maxL := 5) (rt := .int) (hh := [(0, 18, 19, 27)]) (by decide) rfl (Nat.le_of_ble_eq_true rfl) ?_
  intro p e s m args below meth c ls Q S hK hH0 hE0 hl htab hE
  have S : CallFix p m c cL_tends 5 s args wsL_tends RL := S
  have hx := S.1
  have hb := S.2.1
  have hts := S.2.2.2.2
  have hl : lv_has ls 5 [(0, .ref x), (1, .int (nI 0)), (2, .int a1), (3, .int a2)] := hl
  have hS : va_S F H0 H0 [] := va_S.rf
  refine lv_iload_n hx hb dL_tends_0 rfl (lv_at hl 1 rfl) ?_
  refine lv_if_ne (tgt := 13) hx hb dL_tends_1 (by decide) (fun z => absurd rfl z) (fun _ => ?_)
  refine lv_aload_n hx hb dL_tends_4 rfl (lv_at hl 0 rfl) ?_
  refine lv_iload_n hx hb dL_tends_5 rfl (lv_at hl 2 rfl) ?_
  refine lv_iload_n hx hb dL_tends_6 rfl (lv_at hl 3 rfl) ?_
  refine UC.callV (As := [.int a1, .int a2]) S hM (cwV 2 hts gL_tends_X2_move rfl rfl rfl (by decide +kernel) ⟨(by show dM + 1 ≤ 12; omega), (by show 8 + (4 + 11) + 40 * dM ≤ 40 * 12; omega)⟩) hK eL_bl (fun U hW hU => eL.go hE0 hW (hU.trans hH0.symm)) hS (fun q h => h) (va_recv hK.1 hX (ci := 2) (q0 := 0) rfl rfl) rfl hl.1 rfl (Nat.le_of_ble_eq_true rfl) dL_tends_7 ⟨(by show 0 + mM ≤ 40; omega), (by show 0 + sM ≤ 120; omega)⟩ (fun v H locs hB hS hsz hkp => ?_)
  obtain ⟨rfl, hB⟩ := hB
  refine W.widen (k := 40) (n := 120) (by omega) (by omega) ?_
  refine lv_goto (tgt := 18) hx hb dL_tends_10 (by decide) ?_
  exact hE _ _ _ _ _ dL_tends_18 rfl rfl hB hS
set_option maxHeartbeats 4000000 in
set_option maxRecDepth 100000 in
/-- its call throws -/
theorem ht_tendsM1 (l : Launch) {D : va_G} {Y : Nat → ClassId} {H0 : Heap} {F : Nat → Prop} {t0 x : Nat} {fsx : List Value} {a1 : Int32} {a2 : Int32} {dM : Nat} (hd : dM + 1 ≤ 12) (hM : Th l yX2_move wsX2_move dM D Y F [.ref x, .int a1, .int a2] H0 xIO) (hX : va_P D aCl [(x, .inr (2, fsx))] H0) : UC l yL_tends wsL_tends 12 40 120 D Y (eL t0 F F) [.ref x, .int (nI 0), .int a1, .int a2] H0 F (bI_ ((-99999 : Int32)) (Kp H0)) := by
  refine UCw.start (cc := cL_tends) (maxL := 5) (rt := .int) (hh := [(0, 18, 19, 27)]) (by decide) rfl (Nat.le_of_ble_eq_true rfl) ?_
  intro p e s m args below meth c ls Q S hK hH0 hE0 hl htab hE
  have S : CallFix p m c cL_tends 5 s args wsL_tends RL := S
  have hx := S.1
  have hb := S.2.1
  have hts := S.2.2.2.2
  have hl : lv_has ls 5 [(0, .ref x), (1, .int (nI 0)), (2, .int a1), (3, .int a2)] := hl
  have hS : va_S F H0 H0 [] := va_S.rf
  refine lv_iload_n hx hb dL_tends_0 rfl (lv_at hl 1 rfl) ?_
  refine lv_if_ne (tgt := 13) hx hb dL_tends_1 (by decide) (fun z => absurd rfl z) (fun _ => ?_)
  refine lv_aload_n hx hb dL_tends_4 rfl (lv_at hl 0 rfl) ?_
  refine lv_iload_n hx hb dL_tends_5 rfl (lv_at hl 2 rfl) ?_
  refine lv_iload_n hx hb dL_tends_6 rfl (lv_at hl 3 rfl) ?_
  refine Th.catchV (As := [.int a1, .int a2]) (name := xIO) S hM (cwV 2 hts gL_tends_X2_move rfl rfl rfl (by decide +kernel) ⟨(by show dM + 1 ≤ 12; omega), (by show 8 + (4 + 11) + 40 * dM ≤ 40 * 12; omega)⟩) hK (by rw [← hH0]; exact hE0.2.1) hS (va_recv hK.1 hX (ci := 2) (q0 := 0) rfl rfl) rfl hl.1 rfl (Nat.le_of_ble_eq_true rfl) dL_tends_7 ⟨Nat.le_of_ble_eq_true rfl, Nat.le_of_ble_eq_true rfl⟩ [] ⟨0, 18, 19, 27⟩ [] (by rw [htab]; rfl) (fun z hz => absurd hz List.not_mem_nil) (by decide) (by decide) (hts _ (List.mem_of_getElem? (i := 1) rfl)) (va_Nw.use (xB_on _ (by decide +kernel)) (hE0.2.1.2.2.1 (.castable xIO xIO) (by decide +kernel))) (fun q9 H1 hz hk hS => ?_)
  refine W.widen (k := 40) (n := 120) (by omega) (by omega) ?_
  refine lv_astore (lv' := [(4, .ref q9), (0, .ref x), (1, .int (nI 0)), (2, .int a1), (3, .int a2)]) hx hb dL_tends_19 hl (by decide) rfl (fun ls hl => ?_)
  refine lv_ldc hx hb S.2.2.2.1 (hts _ (List.mem_of_getElem? (i := 2) rfl)) dL_tends_21 ?_
  exact hE _ _ _ _ _ dL_tends_23 rfl rfl ⟨hz, hk⟩ hS
set_option maxHeartbeats 4000000 in
set_option maxRecDepth 100000 in
/-- its call returns -/
theorem hu_tendsR (l : Launch) {D : va_G} {Y : Nat → ClassId} {H0 : Heap} {F : Nat → Prop} {t0 x : Nat} {fsx : List Value} {a1 : Int32} {a2 : Int32} {r : Int32} {B : Heap → Prop} {dM mM sM : Nat} (hd : dM + 1 ≤ 12) (hm : mM ≤ 40) (hs : sM ≤ 120) (hM : UC l yX2_remove wsX2_remove dM mM sM D Y (eL t0 F F) [.ref x, .int a1] H0 F (bI_ (r) B)) (hX : va_P D aCl [(x, .inr (2, fsx))] H0) : UC l yL_tends wsL_tends 12 40 120 D Y (eL t0 F F) [.ref x, .int (nI 1), .int a1, .int a2] H0 F (bI_ (r) (B)) := by
  refine UCw.start (cc := cL_tends) (maxL := 5) (rt := .int) (hh := [(0, 18, 19, 27)]) (by decide) rfl (Nat.le_of_ble_eq_true rfl) ?_
  intro p e s m args below meth c ls Q S hK hH0 hE0 hl htab hE
  have S : CallFix p m c cL_tends 5 s args wsL_tends RL := S
  have hx := S.1
  have hb := S.2.1
  have hts := S.2.2.2.2
  have hl : lv_has ls 5 [(0, .ref x), (1, .int (nI 1)), (2, .int a1), (3, .int a2)] := hl
  have hS : va_S F H0 H0 [] := va_S.rf
  refine lv_iload_n hx hb dL_tends_0 rfl (lv_at hl 1 rfl) ?_
  refine lv_if_ne (tgt := 13) hx hb dL_tends_1 (by decide) (fun _ => ?_) (fun z => absurd z (by decide))
  refine lv_aload_n hx hb dL_tends_13 rfl (lv_at hl 0 rfl) ?_
  refine lv_iload_n hx hb dL_tends_14 rfl (lv_at hl 2 rfl) ?_
  refine UC.callV (As := [.int a1]) S hM (cwV 1 hts gL_tends_X2_remove rfl rfl rfl (by decide +kernel) ⟨(by show dM + 1 ≤ 12; omega), (by show 8 + (2 + 11) + 40 * dM ≤ 40 * 12; omega)⟩) hK eL_bl (fun U hW hU => eL.go hE0 hW (hU.trans hH0.symm)) hS (fun q h => h) (va_recv hK.1 hX (ci := 2) (q0 := 0) rfl rfl) rfl hl.1 rfl (Nat.le_of_ble_eq_true rfl) dL_tends_15 ⟨(by show 0 + mM ≤ 40; omega), (by show 0 + sM ≤ 120; omega)⟩ (fun v H locs hB hS hsz hkp => ?_)
  obtain ⟨rfl, hB⟩ := hB
  refine W.widen (k := 40) (n := 120) (by omega) (by omega) ?_
  exact hE _ _ _ _ _ dL_tends_18 rfl rfl hB hS
set_option maxHeartbeats 4000000 in
set_option maxRecDepth 100000 in
/-- its call throws -/
theorem ht_tendsR1 (l : Launch) {D : va_G} {Y : Nat → ClassId} {H0 : Heap} {F : Nat → Prop} {t0 x : Nat} {fsx : List Value} {a1 : Int32} {a2 : Int32} {dM : Nat} (hd : dM + 1 ≤ 12) (hM : Th l yX2_remove wsX2_remove dM D Y F [.ref x, .int a1] H0 xIO) (hX : va_P D aCl [(x, .inr (2, fsx))] H0) : UC l yL_tends wsL_tends 12 40 120 D Y (eL t0 F F) [.ref x, .int (nI 1), .int a1, .int a2] H0 F (bI_ ((-99999 : Int32)) (Kp H0)) := by
  refine UCw.start (cc := cL_tends) (maxL := 5) (rt := .int) (hh := [(0, 18, 19, 27)]) (by decide) rfl (Nat.le_of_ble_eq_true rfl) ?_
  intro p e s m args below meth c ls Q S hK hH0 hE0 hl htab hE
  have S : CallFix p m c cL_tends 5 s args wsL_tends RL := S
  have hx := S.1
  have hb := S.2.1
  have hts := S.2.2.2.2
  have hl : lv_has ls 5 [(0, .ref x), (1, .int (nI 1)), (2, .int a1), (3, .int a2)] := hl
  have hS : va_S F H0 H0 [] := va_S.rf
  refine lv_iload_n hx hb dL_tends_0 rfl (lv_at hl 1 rfl) ?_
  refine lv_if_ne (tgt := 13) hx hb dL_tends_1 (by decide) (fun _ => ?_) (fun z => absurd z (by decide))
  refine lv_aload_n hx hb dL_tends_13 rfl (lv_at hl 0 rfl) ?_
  refine lv_iload_n hx hb dL_tends_14 rfl (lv_at hl 2 rfl) ?_
  refine Th.catchV (As := [.int a1]) (name := xIO) S hM (cwV 1 hts gL_tends_X2_remove rfl rfl rfl (by decide +kernel) ⟨(by show dM + 1 ≤ 12; omega), (by show 8 + (2 + 11) + 40 * dM ≤ 40 * 12; omega)⟩) hK (by rw [← hH0]; exact hE0.2.1) hS (va_recv hK.1 hX (ci := 2) (q0 := 0) rfl rfl) rfl hl.1 rfl (Nat.le_of_ble_eq_true rfl) dL_tends_15 ⟨Nat.le_of_ble_eq_true rfl, Nat.le_of_ble_eq_true rfl⟩ [] ⟨0, 18, 19, 27⟩ [] (by rw [htab]; rfl) (fun z hz => absurd hz List.not_mem_nil) (by decide) (by decide) (hts _ (List.mem_of_getElem? (i := 1) rfl)) (va_Nw.use (xB_on _ (by decide +kernel)) (hE0.2.1.2.2.1 (.castable xIO xIO) (by decide +kernel))) (fun q9 H1 hz hk hS => ?_)
  refine W.widen (k := 40) (n := 120) (by omega) (by omega) ?_
  refine lv_astore (lv' := [(4, .ref q9), (0, .ref x), (1, .int (nI 1)), (2, .int a1), (3, .int a2)]) hx hb dL_tends_19 hl (by decide) rfl (fun ls hl => ?_)
  refine lv_ldc hx hb S.2.2.2.1 (hts _ (List.mem_of_getElem? (i := 2) rfl)) dL_tends_21 ?_
  exact hE _ _ _ _ _ dL_tends_23 rfl rfl ⟨hz, hk⟩ hS
set_option maxHeartbeats 4000000 in
set_option maxRecDepth 100000 in
/-- its call returns -/
theorem hu_decider (l : Launch) {D : va_G} {Y : Nat → ClassId} {H0 : Heap} {F : Nat → Prop} {t0 x : Nat} {fsx : List Value} {a0 : Int32} {a1 : Int32} {a2 : Int32} {r : Int32} {B : Heap → Prop} {dM mM sM : Nat} (hd : dM + 1 ≤ 10) (hm : mM ≤ 1) (hs : sM ≤ 6) (hM : UC l yX2_decider wsX2_decider dM mM sM D Y (eL t0 F F) [.ref x, .int a0, .int a1, .int a2] H0 F (bI_ (r) B)) (hX : va_P D aCl [(x, .inr (2, fsx))] H0) : UC l yL_decider wsL_decider 10 1 6 D Y (eL t0 F F) [.ref x, .int a0, .int a1, .int a2] H0 F (bI_ (r) (B)) := by
  refine UCw.start (cc := cL_decider) (maxL := 5) (rt := .int) (hh := [(0, 7, 8, 37)]) (by decide) rfl (Nat.le_of_ble_eq_true rfl) ?_
  intro p e s m args below meth c ls Q S hK hH0 hE0 hl htab hE
  have S : CallFix p m c cL_decider 5 s args wsL_decider RL := S
  have hx := S.1
  have hb := S.2.1
  have hts := S.2.2.2.2
  have hl : lv_has ls 5 [(0, .ref x), (1, .int a0), (2, .int a1), (3, .int a2)] := hl
  have hS : va_S F H0 H0 [] := va_S.rf
  refine lv_aload_n hx hb dL_decider_0 rfl (lv_at hl 0 rfl) ?_
  refine lv_iload_n hx hb dL_decider_1 rfl (lv_at hl 1 rfl) ?_
  refine lv_iload_n hx hb dL_decider_2 rfl (lv_at hl 2 rfl) ?_
  refine lv_iload_n hx hb dL_decider_3 rfl (lv_at hl 3 rfl) ?_
  refine UC.callV (As := [.int a0, .int a1, .int a2]) S hM (cwV 3 hts gL_decider_X2_decider rfl rfl rfl (by decide +kernel) ⟨(by show dM + 1 ≤ 10; omega), (by show 8 + (5 + 11) + 40 * dM ≤ 40 * 10; omega)⟩) hK eL_bl (fun U hW hU => eL.go hE0 hW (hU.trans hH0.symm)) hS (fun q h => h) (va_recv hK.1 hX (ci := 2) (q0 := 0) rfl rfl) rfl hl.1 rfl (Nat.le_of_ble_eq_true rfl) dL_decider_4 ⟨(by show 0 + mM ≤ 1; omega), (by show 0 + sM ≤ 6; omega)⟩ (fun v H locs hB hS hsz hkp => ?_)
  obtain ⟨rfl, hB⟩ := hB
  refine W.widen (k := 1) (n := 6) (by omega) (by omega) ?_
  exact hE _ _ _ _ _ dL_decider_7 rfl rfl hB hS
set_option maxHeartbeats 4000000 in
set_option maxRecDepth 100000 in
/-- its call throws -/
theorem ht_decider1 (l : Launch) {D : va_G} {Y : Nat → ClassId} {H0 : Heap} {F : Nat → Prop} {t0 x : Nat} {fsx : List Value} {a0 : Int32} {a1 : Int32} {a2 : Int32} {dM : Nat} (hd : dM + 1 ≤ 10) (hM : Th l yX2_decider wsX2_decider dM D Y F [.ref x, .int a0, .int a1, .int a2] H0 xNE) (hX : va_P D aCl [(x, .inr (2, fsx))] H0) : UC l yL_decider wsL_decider 10 1 6 D Y (eL t0 F F) [.ref x, .int a0, .int a1, .int a2] H0 F (bI_ ((-1 : Int32)) (Kp H0)) := by
  refine UCw.start (cc := cL_decider) (maxL := 5) (rt := .int) (hh := [(0, 7, 8, 37)]) (by decide) rfl (Nat.le_of_ble_eq_true rfl) ?_
  intro p e s m args below meth c ls Q S hK hH0 hE0 hl htab hE
  have S : CallFix p m c cL_decider 5 s args wsL_decider RL := S
  have hx := S.1
  have hb := S.2.1
  have hts := S.2.2.2.2
  have hl : lv_has ls 5 [(0, .ref x), (1, .int a0), (2, .int a1), (3, .int a2)] := hl
  have hS : va_S F H0 H0 [] := va_S.rf
  refine lv_aload_n hx hb dL_decider_0 rfl (lv_at hl 0 rfl) ?_
  refine lv_iload_n hx hb dL_decider_1 rfl (lv_at hl 1 rfl) ?_
  refine lv_iload_n hx hb dL_decider_2 rfl (lv_at hl 2 rfl) ?_
  refine lv_iload_n hx hb dL_decider_3 rfl (lv_at hl 3 rfl) ?_
  refine Th.catchV (As := [.int a0, .int a1, .int a2]) (name := xNE) S hM (cwV 3 hts gL_decider_X2_decider rfl rfl rfl (by decide +kernel) ⟨(by show dM + 1 ≤ 10; omega), (by show 8 + (5 + 11) + 40 * dM ≤ 40 * 10; omega)⟩) hK (by rw [← hH0]; exact hE0.2.1) hS (va_recv hK.1 hX (ci := 2) (q0 := 0) rfl rfl) rfl hl.1 rfl (Nat.le_of_ble_eq_true rfl) dL_decider_4 ⟨Nat.le_of_ble_eq_true rfl, Nat.le_of_ble_eq_true rfl⟩ [] ⟨0, 7, 8, 37⟩ [] (by rw [htab]; rfl) (fun z hz => absurd hz List.not_mem_nil) (by decide) (by decide) (hts _ (List.mem_of_getElem? (i := 1) rfl)) (va_Nw.use (xB_on _ (by decide +kernel)) (hE0.2.1.2.2.1 (.castable xNE xNE) (by decide +kernel))) (fun q9 H1 hz hk hS => ?_)
  refine W.widen (k := 1) (n := 6) (by omega) (by omega) ?_
  refine lv_astore (lv' := [(4, .ref q9), (0, .ref x), (1, .int a0), (2, .int a1), (3, .int a2)]) hx hb dL_decider_8 hl (by decide) rfl (fun ls hl => ?_)
  refine lv_iconst (v := (-1 : Int32)) hx hb dL_decider_10 (by decide +kernel) ?_
  exact hE _ _ _ _ _ dL_decider_11 rfl rfl ⟨hz, hk⟩ hS
set_option maxHeartbeats 4000000 in
set_option maxRecDepth 100000 in
/-- its call returns -/
theorem hu_shadowedBy (l : Launch) {D : va_G} {Y : Nat → ClassId} {H0 : Heap} {F : Nat → Prop} {t0 x : Nat} {fsx : List Value} {a0 : Int32} {r : Int32} {B : Heap → Prop} {dM mM sM : Nat} (hd : dM + 1 ≤ 10) (hm : mM ≤ 1) (hs : sM ≤ 6) (hM : UC l yX2_shadowedBy wsX2_shadowedBy dM mM sM D Y (eL t0 F F) [.ref x, .int a0] H0 F (bI_ (r) B)) (hX : va_P D aCl [(x, .inr (2, fsx))] H0) : UC l yL_shadowedBy wsL_shadowedBy 10 1 6 D Y (eL t0 F F) [.ref x, .int a0] H0 F (bI_ (r) (B)) := by
  refine UCw.start (cc := cL_shadowedBy) (maxL := 3) (rt := .int) (hh := [(0, 5, 6, 37)]) (by decide) rfl (Nat.le_of_ble_eq_true rfl) ?_
  intro p e s m args below meth c ls Q S hK hH0 hE0 hl htab hE
  have S : CallFix p m c cL_shadowedBy 3 s args wsL_shadowedBy RL := S
  have hx := S.1
  have hb := S.2.1
  have hts := S.2.2.2.2
  have hl : lv_has ls 3 [(0, .ref x), (1, .int a0)] := hl
  have hS : va_S F H0 H0 [] := va_S.rf
  refine lv_aload_n hx hb dL_shadowedBy_0 rfl (lv_at hl 0 rfl) ?_
  refine lv_iload_n hx hb dL_shadowedBy_1 rfl (lv_at hl 1 rfl) ?_
  refine UC.callV (As := [.int a0]) S hM (cwV 1 hts gL_shadowedBy_X2_shadowedBy rfl rfl rfl (by decide +kernel) ⟨(by show dM + 1 ≤ 10; omega), (by show 8 + (4 + 11) + 40 * dM ≤ 40 * 10; omega)⟩) hK eL_bl (fun U hW hU => eL.go hE0 hW (hU.trans hH0.symm)) hS (fun q h => h) (va_recv hK.1 hX (ci := 2) (q0 := 0) rfl rfl) rfl hl.1 rfl (Nat.le_of_ble_eq_true rfl) dL_shadowedBy_2 ⟨(by show 0 + mM ≤ 1; omega), (by show 0 + sM ≤ 6; omega)⟩ (fun v H locs hB hS hsz hkp => ?_)
  obtain ⟨rfl, hB⟩ := hB
  refine W.widen (k := 1) (n := 6) (by omega) (by omega) ?_
  exact hE _ _ _ _ _ dL_shadowedBy_5 rfl rfl hB hS
set_option maxHeartbeats 4000000 in
set_option maxRecDepth 100000 in
/-- its call throws -/
theorem ht_shadowedBy1 (l : Launch) {D : va_G} {Y : Nat → ClassId} {H0 : Heap} {F : Nat → Prop} {t0 x : Nat} {fsx : List Value} {a0 : Int32} {dM : Nat} (hd : dM + 1 ≤ 10) (hM : Th l yX2_shadowedBy wsX2_shadowedBy dM D Y F [.ref x, .int a0] H0 xNE) (hX : va_P D aCl [(x, .inr (2, fsx))] H0) : UC l yL_shadowedBy wsL_shadowedBy 10 1 6 D Y (eL t0 F F) [.ref x, .int a0] H0 F (bI_ ((-1 : Int32)) (Kp H0)) := by
  refine UCw.start (cc := cL_shadowedBy) (maxL := 3) (rt := .int) (hh := [(0, 5, 6, 37)]) (by decide) rfl (Nat.le_of_ble_eq_true rfl) ?_
  intro p e s m args below meth c ls Q S hK hH0 hE0 hl htab hE
  have S : CallFix p m c cL_shadowedBy 3 s args wsL_shadowedBy RL := S
  have hx := S.1
  have hb := S.2.1
  have hts := S.2.2.2.2
  have hl : lv_has ls 3 [(0, .ref x), (1, .int a0)] := hl
  have hS : va_S F H0 H0 [] := va_S.rf
  refine lv_aload_n hx hb dL_shadowedBy_0 rfl (lv_at hl 0 rfl) ?_
  refine lv_iload_n hx hb dL_shadowedBy_1 rfl (lv_at hl 1 rfl) ?_
  refine Th.catchV (As := [.int a0]) (name := xNE) S hM (cwV 1 hts gL_shadowedBy_X2_shadowedBy rfl rfl rfl (by decide +kernel) ⟨(by show dM + 1 ≤ 10; omega), (by show 8 + (4 + 11) + 40 * dM ≤ 40 * 10; omega)⟩) hK (by rw [← hH0]; exact hE0.2.1) hS (va_recv hK.1 hX (ci := 2) (q0 := 0) rfl rfl) rfl hl.1 rfl (Nat.le_of_ble_eq_true rfl) dL_shadowedBy_2 ⟨Nat.le_of_ble_eq_true rfl, Nat.le_of_ble_eq_true rfl⟩ [] ⟨0, 5, 6, 37⟩ [] (by rw [htab]; rfl) (fun z hz => absurd hz List.not_mem_nil) (by decide) (by decide) (hts _ (List.mem_of_getElem? (i := 1) rfl)) (va_Nw.use (xB_on _ (by decide +kernel)) (hE0.2.1.2.2.1 (.castable xNE xNE) (by decide +kernel))) (fun q9 H1 hz hk hS => ?_)
  refine W.widen (k := 1) (n := 6) (by omega) (by omega) ?_
  refine lv_astore_n (lv' := [(2, .ref q9), (0, .ref x), (1, .int a0)]) hx hb dL_shadowedBy_6 rfl hl (by decide) rfl (fun ls hl => ?_)
  refine lv_iconst (v := (-1 : Int32)) hx hb dL_shadowedBy_7 (by decide +kernel) ?_
  exact hE _ _ _ _ _ dL_shadowedBy_8 rfl rfl ⟨hz, hk⟩ hS
