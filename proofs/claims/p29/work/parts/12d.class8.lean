/-! shortening -/
set_option maxHeartbeats 4000000 in
set_option maxRecDepth 100000 in
theorem k_X2_shorten (l : Launch) {D : va_G} {Y : Nat → ClassId} {H0 : Heap} {F : Nat → Prop} {la x na ea cap : Nat} {mod ju mi lo : Int32} {es : Nat → Option Nat} {nt : Nat → Int32} {L P : List RA} (hP : va_P D aCl ([(la, .inr (4, [.int (mod), .ref (ea), .int (nI (L.length))])), (x, .inr (2, [.ref (la), .ref (na), .int (ju), .int (mi), .int (lo)])), (na, .inl (Y 0, 128, .inl nt)), (ea, .inl (Y 1, cap, .inr (.inr (.inr (.inr es)))))] ++ plW P) H0) (hD : va_D F ([(la, .inr (4, [.int (mod), .ref (ea), .int (nI (L.length))])), (x, .inr (2, [.ref (la), .ref (na), .int (ju), .int (mi), .int (lo)])), (na, .inl (Y 0, 128, .inl nt)), (ea, .inl (Y 1, cap, .inr (.inr (.inr (.inr es)))))] ++ plW P)) (hFr : ∀ q, H0.size ≤ q → F q) (hq : cQ cap es L P) : UC l yX2_shorten wsX2_shorten 6 32 96 D Y (eT) [.ref (x)] H0 F (bI_ (nI (itS L.length (RS L)).2) (ccB D Y F la x na ea cap ju mi lo (itS L.length (RS L)).1)) := by
  refine UCi.start (cc := cX2_shorten) (maxL := 4) (rt := .int) (by decide) rfl (Nat.le_of_ble_eq_true rfl) ?_
  intro p e s m args below meth c ls H locs Q S hK hH0 hE0 hHH hS hl hin hE
  rw [← hHH] at hP
  have S : CallFix p m c cX2_shorten 4 s args wsX2_shorten RX2 := S
  have hx := S.1
  have hb := S.2.1
  have hts := S.2.2.2.2
  have hl : lv_has ls 4 [(0, .ref (x))] := hl
  have hA0 := rdA_of hP hq
  obtain ⟨hX, hL, hN, hE2, hR, hok⟩ := id hA0
  have hlen := RS_len L
  have hn : L.length ≤ 16 := by have := hok.1; omega
  have hoo : ∀ i, i < L.length → rvOk (gt (RS L) i) := fun i hi => hok.2 i (by omega)
  have hcc := hq.2.2.1
  have hcc2 := hq.2.2.2.1
  refine lv_aload_n hx hb dX2_shorten_0 rfl (lv_at hl 0 rfl) ?_
  refine nr_get (C := RX2) (T := TX2) (N := 5) (ci := 2) S (fun _ h => List.mem_cons_of_mem _ (List.mem_append_left _ (List.mem_append_left _ (List.mem_append_left _ (List.mem_append_right _ (h)))))) hK hP 1 rfl rfl 0 (by decide) (List.mem_of_getElem? (i := 1) rfl) rfl dX2_shorten_1 ?_
  refine Rd.callV (r := (nI (L.length))) (As := []) S (k_Jx4a65c_size_8abf5 l hL) (cwV 0 hts gX2_shorten_Jx4a65c_size_8abf5 rfl rfl rfl (by decide +kernel) ⟨Nat.le_of_ble_eq_true rfl, Nat.le_of_ble_eq_true rfl⟩) hK (va_recv hK.1 hP (ci := 4) (q0 := 0) rfl rfl) rfl hl.1 rfl (Nat.le_of_ble_eq_true rfl) dX2_shorten_4 ⟨Nat.le_of_ble_eq_true rfl, Nat.le_of_ble_eq_true rfl⟩ ?_
  refine lv_istore_n (lv' := [(1, .int (nI (L.length))), (0, .ref (x))]) hx hb dX2_shorten_7 rfl hl (by decide) rfl (fun ls hl => ?_)
  refine lv_iconst (v := (nI (1))) hx hb dX2_shorten_8 (by decide +kernel) ?_
  refine lv_istore_n (lv' := [(2, .int (nI (1))), (1, .int (nI (L.length))), (0, .ref (x))]) hx hb dX2_shorten_9 rfl hl (by decide) rfl (fun ls hl => ?_)
  refine lv_iconst (v := (nI (0))) hx hb dX2_shorten_10 (by decide +kernel) ?_
  refine lv_istore_n (lv' := [(3, .int (nI (0))), (2, .int (nI (1))), (1, .int (nI (L.length))), (0, .ref (x))]) hx hb dX2_shorten_11 rfl hl (by decide) rfl (fun ls hl => ?_)
  have loop_12 : ∀ (fu_12 : Nat) (sh : Nat) (rd : Nat) (mod1 : Int32) (es1 : Nat → Option Nat) (nt1 : Nat → Int32) (L1 : List RA) (P1 : List RA), (cQ cap es1 L1 P1) → ((itS L1.length (RS L1)).1 = (itS L.length (RS L)).1) → ((sh = 1 ∧ rd + L1.length = L.length) ∨ (sh = 0 ∧ (stS (RS L1)).2 = false)) → (rd ≤ L.length) → (va_D F ([(la, .inr (4, [.int (mod1), .ref (ea), .int (nI (L1.length))])), (x, .inr (2, [.ref (la), .ref (na), .int (ju), .int (mi), .int (lo)])), (na, .inl (Y 0, 128, .inl nt1)), (ea, .inl (Y 1, cap, .inr (.inr (.inr (.inr es1)))))] ++ plW P1)) → L.length - rd < fu_12 → ∀ (H : Heap) (locs : List Loc), va_P D aCl ([(la, .inr (4, [.int (mod1), .ref (ea), .int (nI (L1.length))])), (x, .inr (2, [.ref (la), .ref (na), .int (ju), .int (mi), .int (lo)])), (na, .inl (Y 0, 128, .inl nt1)), (ea, .inl (Y 1, cap, .inr (.inr (.inr (.inr es1)))))] ++ plW P1) H → va_S F H0 H locs → ∀ ls : Array Slot, lv_has ls 4 [(3, .int (nI (rd))), (2, .int (nI (sh))), (1, .int (nI (L.length))), (0, .ref (x))] → W p l e (rmG 6 32 96) s m args below meth c H locs (2 * rd) (6 * rd) Q (F0 m 12 ls []) := by
    intro fu_12
    induction fu_12 with
    | zero => exact fun sh rd mod1 es1 nt1 L1 P1 _ _ _ _ _ hk => absurd hk (Nat.not_lt_zero _)
    | succ fu_12 ih_12 =>
      intro sh rd mod1 es1 nt1 L1 P1 e0 e1 e2 e3 e4 hk_12 H locs hP hS ls hl
      have hD : va_D F ([(la, .inr (4, [.int (mod1), .ref (ea), .int (nI (L1.length))])), (x, .inr (2, [.ref (la), .ref (na), .int (ju), .int (mi), .int (lo)])), (na, .inl (Y 0, 128, .inl nt1)), (ea, .inl (Y 1, cap, .inr (.inr (.inr (.inr es1)))))] ++ plW P1) := e4
      refine lv_iload_n hx hb dX2_shorten_12 rfl (lv_at hl 0 rfl) ?_
      have hq := e0
      have hA0 := rdA_of hP hq
      obtain ⟨hX, hL, hN, hE2, hR, hok⟩ := id hA0
      have hlen := RS_len L1
      have hn : L1.length ≤ 16 := by have := hok.1; omega
      have hoo : ∀ i, i < L1.length → rvOk (gt (RS L1) i) := fun i hi => hok.2 i (by omega)
      have hcc := hq.2.2.1
      have hcc2 := hq.2.2.2.1
      refine lv_iload_n hx hb dX2_shorten_13 rfl (lv_at hl 2 rfl) ?_
      refine nr_icmp_ge (tgt := 47) hx hb (by omega) (by omega) dX2_shorten_14 (by decide) (fun c_14 => ?_) (fun c_14 => ?_)
      · have hfin : RS L1 = (itS L.length (RS L)).1 := by
          rcases e2 with ⟨z1, z2⟩ | ⟨z1, z2⟩
          · have hz0 : L1.length = 0 := by omega
            rw [hz0] at e1
            exact e1
          · rw [itS_stop z2] at e1
            exact e1
        have hil := it_len L.length (RS L)
        rw [← hfin, hlen, RS_len] at hil
        refine lv_iload_n hx hb dX2_shorten_47 rfl (lv_at hl 2 rfl) ?_
        refine lv_aload_n hx hb dX2_shorten_48 rfl (lv_at hl 3 rfl) ?_
        refine nr_get (C := RX2) (T := TX2) (N := 5) (ci := 2) S (fun _ h => List.mem_cons_of_mem _ (List.mem_append_left _ (List.mem_append_left _ (List.mem_append_left _ (List.mem_append_right _ (h)))))) hK hP 1 rfl rfl 0 (by decide) (List.mem_of_getElem? (i := 1) rfl) rfl dX2_shorten_49 ?_
        refine Rd.callV (r := (nI (L1.length))) (As := []) S (k_Jx4a65c_size_8abf5 l hL) (cwV 0 hts gX2_shorten_Jx4a65c_size_8abf5 rfl rfl rfl (by decide +kernel) ⟨Nat.le_of_ble_eq_true rfl, Nat.le_of_ble_eq_true rfl⟩) hK (va_recv hK.1 hP (ci := 4) (q0 := 0) rfl rfl) rfl hl.1 rfl (Nat.le_of_ble_eq_true rfl) dX2_shorten_52 ⟨(by show _ ≤ 32; omega), (by show _ ≤ 96; omega)⟩ ?_
        refine nr_isub hx hb (by omega) dX2_shorten_55 ?_
        refine W.widen (k := 32) (n := 96) (by omega) (by omega) ?_
        exact hE _ _ _ _ _ dX2_shorten_56 (vp_nar_int _) (congrArg nI (by omega)) (⟨mod1, es1, nt1, L1, P1, hfin, hq, hP, hD⟩) hS
      · refine lv_iload_n hx hb dX2_shorten_17 rfl (lv_at hl 1 rfl) ?_
        refine nr_if_eq (tgt := 47) hx hb (by omega) dX2_shorten_18 (by decide) (fun c_18 => ?_) (fun c_18 => ?_)
        · have hfin : RS L1 = (itS L.length (RS L)).1 := by
            rcases e2 with ⟨z1, z2⟩ | ⟨z1, z2⟩
            · have hz0 : L1.length = 0 := by omega
              rw [hz0] at e1
              exact e1
            · rw [itS_stop z2] at e1
              exact e1
          have hil := it_len L.length (RS L)
          rw [← hfin, hlen, RS_len] at hil
          refine lv_iload_n hx hb dX2_shorten_47 rfl (lv_at hl 2 rfl) ?_
          refine lv_aload_n hx hb dX2_shorten_48 rfl (lv_at hl 3 rfl) ?_
          refine nr_get (C := RX2) (T := TX2) (N := 5) (ci := 2) S (fun _ h => List.mem_cons_of_mem _ (List.mem_append_left _ (List.mem_append_left _ (List.mem_append_left _ (List.mem_append_right _ (h)))))) hK hP 1 rfl rfl 0 (by decide) (List.mem_of_getElem? (i := 1) rfl) rfl dX2_shorten_49 ?_
          refine Rd.callV (r := (nI (L1.length))) (As := []) S (k_Jx4a65c_size_8abf5 l hL) (cwV 0 hts gX2_shorten_Jx4a65c_size_8abf5 rfl rfl rfl (by decide +kernel) ⟨Nat.le_of_ble_eq_true rfl, Nat.le_of_ble_eq_true rfl⟩) hK (va_recv hK.1 hP (ci := 4) (q0 := 0) rfl rfl) rfl hl.1 rfl (Nat.le_of_ble_eq_true rfl) dX2_shorten_52 ⟨(by show _ ≤ 32; omega), (by show _ ≤ 96; omega)⟩ ?_
          refine nr_isub hx hb (by omega) dX2_shorten_55 ?_
          refine W.widen (k := 32) (n := 96) (by omega) (by omega) ?_
          exact hE _ _ _ _ _ dX2_shorten_56 (vp_nar_int _) (congrArg nI (by omega)) (⟨mod1, es1, nt1, L1, P1, hfin, hq, hP, hD⟩) hS
        · have e2 : sh = 1 ∧ rd + L1.length = L.length := by rcases e2 with z | z; exact z; omega
          refine lv_aload_n hx hb dX2_shorten_21 rfl (lv_at hl 3 rfl) ?_
          refine UC.callV (As := []) S (k_X2_dropLastNeedless l hP hD hq) (cwV 0 hts gX2_shorten_X2_dropLastNeedless rfl rfl rfl (by decide +kernel) ⟨Nat.le_of_ble_eq_true rfl, Nat.le_of_ble_eq_true rfl⟩) hK eT_bl (fun _ _ _ => trivial) hS (fun _ h => h) (va_recv hK.1 hP (ci := 2) (q0 := 1) rfl rfl) rfl hl.1 rfl (Nat.le_of_ble_eq_true rfl) dX2_shorten_22 ⟨(by show _ ≤ 32; omega), (by show _ ≤ 96; omega)⟩ (fun v H locs hB hS hsz hkp => ?_)
          obtain ⟨rfl, hB⟩ := hB
          obtain ⟨mod2, es2, nt2, L2, P2, hRS2, hq, hP, hD⟩ := hB
          refine nr_ifB_ne (tgt := 35) hx hb dX2_shorten_25 (by decide) (fun c_25 => ?_) (fun c_25 => ?_)
          · have hz : ¬ lstN (ndB (RS L1)) L1.length = 0 := by simpa using c_25
            rw [if_neg hz] at hRS2
            have hst : stS (RS L1) = (RS L2, true) := by rw [stS_nd (k := lstN (ndB (RS L1)) L1.length - 1) (by rw [hlen]; omega), hRS2]
            obtain ⟨hs1, hs2⟩ := it_step hst
            rw [hlen, RS_len L2] at hs1 hs2
            refine lv_iconst (v := (nI (1))) hx hb dX2_shorten_35 (by decide +kernel) ?_
            refine lv_goto (tgt := 40) hx hb dX2_shorten_36 (by decide) ?_
            refine lv_istore_n (lv' := [(2, .int (nI (1))), (3, .int (nI (rd))), (1, .int (nI (L.length))), (0, .ref (x))]) hx hb dX2_shorten_40 rfl hl (by decide) rfl (fun ls hl => ?_)
            refine lv_iinc (v := (nI (rd + 1))) (lv' := [(3, .int (nI (rd + 1))), (2, .int (nI (1))), (1, .int (nI (L.length))), (0, .ref (x))]) hx hb dX2_shorten_41 hl (k := 1) rfl (nI_add _ _) (by decide) rfl (fun ls hl => ?_)
            refine lv_goto (tgt := 12) hx hb dX2_shorten_44 (by decide) ?_
            refine W.widen (k := 2 * (rd + 1)) (n := 6 * (rd + 1)) (by omega) (by omega) ?_
            exact ih_12 (1) (rd + 1) (mod2) (es2) (nt2) (L2) (P2) (hq) (hs2.symm.trans e1) (Or.inl ⟨rfl, by omega⟩) (by omega) (hD) (by omega) _ _ hP hS ls (lv_sub hl [0, 1, 2, 3] rfl)
          · have hz : lstN (ndB (RS L1)) L1.length = 0 := by simpa using c_25
            rw [if_pos hz] at hRS2
            refine lv_aload_n hx hb dX2_shorten_28 rfl (lv_at hl 3 rfl) ?_
            refine UC.callV (As := []) S (k_X2_mergeFirstNeighbours l hP hD (fun q hq => hFr q (Nat.le_trans hS.1 hq)) hq) (cwV 0 hts gX2_shorten_X2_mergeFirstNeighbours rfl rfl rfl (by decide +kernel) ⟨Nat.le_of_ble_eq_true rfl, Nat.le_of_ble_eq_true rfl⟩) hK eT_bl (fun _ _ _ => trivial) hS (fun _ h => h) (va_recv hK.1 hP (ci := 2) (q0 := 1) rfl rfl) rfl hl.1 rfl (Nat.le_of_ble_eq_true rfl) dX2_shorten_29 ⟨(by show _ ≤ 32; omega), (by show _ ≤ 96; omega)⟩ (fun v H locs hB hS hsz hkp => ?_)
            obtain ⟨rfl, hB⟩ := hB
            obtain ⟨mod3, es3, nt3, L3, P3, hRS3, hq, hP, hD⟩ := hB
            refine nr_ifB_eq (tgt := 39) hx hb dX2_shorten_32 (by decide) (fun c_32 => ?_) (fun c_32 => ?_)
            · have hlt := of_decide_eq_false c_32
              rw [if_neg hlt] at hRS3
              have hl12 : L2.length = L1.length := by rw [← RS_len L2, hRS2, hlen]
              have hl13 : L3.length = L1.length := by rw [← RS_len L3, hRS3, hRS2, hlen]
              rw [hRS2, hl12] at hlt
              have hst : (stS (RS L1)).2 = false := by rw [stS_no (by rw [hlen]; exact hz) (Nat.le_antisymm (fstN_le _ _) (by rw [hlen]; omega))]
              refine lv_iconst (v := (nI (0))) hx hb dX2_shorten_39 (by decide +kernel) ?_
              refine lv_istore_n (lv' := [(2, .int (nI (0))), (3, .int (nI (rd))), (1, .int (nI (L.length))), (0, .ref (x))]) hx hb dX2_shorten_40 rfl hl (by decide) rfl (fun ls hl => ?_)
              refine lv_iinc (v := (nI (rd + 1))) (lv' := [(3, .int (nI (rd + 1))), (2, .int (nI (0))), (1, .int (nI (L.length))), (0, .ref (x))]) hx hb dX2_shorten_41 hl (k := 1) rfl (nI_add _ _) (by decide) rfl (fun ls hl => ?_)
              refine lv_goto (tgt := 12) hx hb dX2_shorten_44 (by decide) ?_
              refine W.widen (k := 2 * (rd + 1)) (n := 6 * (rd + 1)) (by omega) (by omega) ?_
              exact ih_12 (0) (rd + 1) (mod3) (es3) (nt3) (L3) (P3) (hq) (by rw [hl13, hRS3, hRS2]; exact e1) (Or.inr ⟨rfl, by rw [hRS3, hRS2]; exact hst⟩) (by omega) (hD) (by omega) _ _ hP hS ls (lv_sub hl [0, 1, 2, 3] rfl)
            · have hlt := of_decide_eq_true c_32
              rw [if_pos hlt] at hRS3
              have hl12 : L2.length = L1.length := by rw [← RS_len L2, hRS2, hlen]
              rw [hRS2, hl12] at hlt
              have hst : stS (RS L1) = (RS L3, true) := by rw [stS_mg (by rw [hlen]; exact hz) rfl (by rw [hlen]; exact hlt), hRS3, hRS2]
              obtain ⟨hs1, hs2⟩ := it_step hst
              rw [hlen, RS_len L3] at hs1 hs2
              refine lv_iconst (v := (nI (1))) hx hb dX2_shorten_35 (by decide +kernel) ?_
              refine lv_goto (tgt := 40) hx hb dX2_shorten_36 (by decide) ?_
              refine lv_istore_n (lv' := [(2, .int (nI (1))), (3, .int (nI (rd))), (1, .int (nI (L.length))), (0, .ref (x))]) hx hb dX2_shorten_40 rfl hl (by decide) rfl (fun ls hl => ?_)
              refine lv_iinc (v := (nI (rd + 1))) (lv' := [(3, .int (nI (rd + 1))), (2, .int (nI (1))), (1, .int (nI (L.length))), (0, .ref (x))]) hx hb dX2_shorten_41 hl (k := 1) rfl (nI_add _ _) (by decide) rfl (fun ls hl => ?_)
              refine lv_goto (tgt := 12) hx hb dX2_shorten_44 (by decide) ?_
              refine W.widen (k := 2 * (rd + 1)) (n := 6 * (rd + 1)) (by omega) (by omega) ?_
              exact ih_12 (1) (rd + 1) (mod3) (es3) (nt3) (L3) (P3) (hq) (hs2.symm.trans e1) (Or.inl ⟨rfl, by omega⟩) (by omega) (hD) (by omega) _ _ hP hS ls (lv_sub hl [0, 1, 2, 3] rfl)
  exact loop_12 _ (1) (0) (mod) (es) (nt) (L) (P) (hq) (rfl) (Or.inl ⟨rfl, Nat.zero_add _⟩) (Nat.zero_le _) (hD) (Nat.lt_succ_self _) _ _ hP hS ls (lv_sub hl [0, 1, 2, 3] rfl)
