/-! merging, shortening -/
theorem swIn {W : va_W} {p1 p2 : Nat} {y1 y2 : Nat × va_E} (h1 : p1 < W.length) (h2 : p2 < W.length) (hne : p1 ≠ p2) : ∀ (i : Nat) (q : Nat × va_E), ((W.set p1 y1).set p2 y2)[i]? = some q → (W ++ [y1] ++ [y2])[if i = p2 then W.length + 1 else if i = p1 then W.length else i]? = some q := by
  intro i q hi
  by_cases ha : i = p2
  · subst ha
    rw [List.getElem?_set_self (by rw [List.length_set]; exact h2)] at hi
    rw [if_pos rfl, show W.length + 1 = (W ++ [y1]).length from by rw [List.length_append]; rfl, atE]
    exact hi
  · rw [if_neg ha]
    rw [List.getElem?_set_ne (Ne.symm ha)] at hi
    by_cases hb : i = p1
    · subst hb
      rw [List.getElem?_set_self h1] at hi
      rw [if_pos rfl]
      refine atA ?_
      rw [atE]
      exact hi
    · rw [if_neg hb]
      rw [List.getElem?_set_ne (Ne.symm hb)] at hi
      exact atA (atA hi)
theorem swP {D : va_G} {W : va_W} {p1 p2 : Nat} {y1 y2 : Nat × va_E} {H : Heap} (h1 : p1 < W.length) (h2 : p2 < W.length) (hne : p1 ≠ p2) (hP : va_P D aCl (W ++ [y1] ++ [y2]) H) : va_P D aCl ((W.set p1 y1).set p2 y2) H := hP.by _ (swIn h1 h2 hne)
theorem swD {F : Nat → Prop} {W : va_W} {p1 p2 : Nat} {y1 y2 : Nat × va_E} (h1 : p1 < W.length) (h2 : p2 < W.length) (hne : p1 ≠ p2) (hD : va_D F (W ++ [y1] ++ [y2])) : va_D F ((W.set p1 y1).set p2 y2) := by
  refine va_D.by hD _ (swIn h1 h2 hne) fun i j hi hj hij => ?_
  rw [List.length_set, List.length_set] at hi hj
  have hij : (if i = p2 then W.length + 1 else if i = p1 then W.length else i) = (if j = p2 then W.length + 1 else if j = p1 then W.length else j) := hij
  (repeat' split at hij) <;> omega
/-- a rule's three cells are others -/
theorem plW_set3 {z : RA} : ∀ (P : List RA) (k : Nat), k < P.length → plW (P.set k z) = (((plW P).set (3 * k) (z.2.1, .inr (1, [.int (bI (pM z.1)), .ref z.2.2.1, .ref z.2.2.2, .int (nI (pR z.1)), .int (hT z.1)]))).set (3 * k + 1) (z.2.2.1, rgE (sF z.1) (sT z.1))).set (3 * k + 2) (z.2.2.2, rgE (dF z.1) (dT z.1))
  | [], k, h => absurd h (Nat.not_lt_zero k)
  | q :: t, 0, _ => rfl
  | q :: t, k + 1, h => by
    show ruC q.1 q.2 ++ plW (t.set k z) = (((ruC q.1 q.2 ++ plW t).set (3 * (k + 1)) _).set (3 * (k + 1) + 1) _).set (3 * (k + 1) + 2) _
    rw [plW_set3 t k (Nat.lt_of_succ_lt_succ h)]
    have hh : ∀ (l : va_W) (n : Nat) (x : Nat × va_E), (ruC q.1 q.2 ++ l).set (n + 3) x = ruC q.1 q.2 ++ l.set n x := fun l n x => rfl
    rw [show 3 * (k + 1) = 3 * k + 3 from by omega, show 3 * k + 3 + 1 = 3 * k + 1 + 3 from by omega, show 3 * k + 3 + 2 = 3 * k + 2 + 3 from by omega, hh, hh, hh]
theorem RS_mg {L : List RA} {i a0 a1 a2 : Nat} (hi : i + 1 < L.length) : RS ((L.set i (mgV (gl L i).1 (gl L (i + 1)).1, a0, a1, a2)).eraseIdx (i + 1)) = mgL (RS L) i := by
  rw [RS_erase (by rw [List.length_set]; exact hi), RS_set (by omega)]
  unfold mgL
  have hlr := RS_len L
  refine gt_ext (by rw [len_erase (by rw [List.length_set, hlr]; exact hi), List.length_set, List.length_set, len_erase (by rw [hlr]; exact hi)]) fun k _ => ?_
  have hA : i < (RS L).length := by rw [hlr]; omega
  have hB : i < ((RS L).eraseIdx (i + 1)).length := by rw [len_erase (by rw [hlr]; exact hi), hlr]; omega
  rw [gt_erase, gt_set _ _ _ _ hA, gt_set _ _ _ _ hA, gt_set _ _ _ _ hB, gt_erase]
  simp only [gt_RS]
  by_cases h1 : k < i + 1
  · rw [if_pos h1, if_pos h1]
  · rw [if_neg h1, if_neg h1, if_neg (by omega), if_neg (by omega)]
theorem it_step {rs rs2 : List RV} (h : stS rs = (rs2, true)) : rs2.length + 1 = rs.length ∧ (itS rs.length rs).1 = (itS rs2.length rs2).1 := by
  have h1 := stS_len (rs := rs) (by rw [h])
  rw [h] at h1
  have h1 : rs2.length + 1 = rs.length := h1
  refine ⟨h1, ?_⟩
  rw [← h1, itS_go (by rw [h])]
  show (itS rs2.length (stS rs).1).1 = _
  rw [h]
theorem it_len : ∀ (k : Nat) (rs : List RV), (itS k rs).1.length + (itS k rs).2 = rs.length
  | 0, _ => rfl
  | k + 1, rs => by
    by_cases hs : (stS rs).2 = true
    · rw [itS_go hs]
      have h1 := it_len k (stS rs).1
      have h2 := stS_len hs
      show (itS k (stS rs).1).1.length + ((itS k (stS rs).1).2 + 1) = _
      omega
    · rw [itS_stop (by simpa using hs)]
      rfl
set_option maxHeartbeats 4000000 in
set_option maxRecDepth 100000 in
theorem k_X2_mergeFirstNeighbours (l : Launch) {D : va_G} {Y : Nat → ClassId} {H0 : Heap} {F : Nat → Prop} {la x na ea cap : Nat} {mod ju mi lo : Int32} {es : Nat → Option Nat} {nt : Nat → Int32} {L P : List RA} (hP : va_P D aCl ([(la, .inr (4, [.int (mod), .ref (ea), .int (nI (L.length))])), (x, .inr (2, [.ref (la), .ref (na), .int (ju), .int (mi), .int (lo)])), (na, .inl (Y 0, 128, .inl nt)), (ea, .inl (Y 1, cap, .inr (.inr (.inr (.inr es)))))] ++ plW P) H0) (hD : va_D F ([(la, .inr (4, [.int (mod), .ref (ea), .int (nI (L.length))])), (x, .inr (2, [.ref (la), .ref (na), .int (ju), .int (mi), .int (lo)])), (na, .inl (Y 0, 128, .inl nt)), (ea, .inl (Y 1, cap, .inr (.inr (.inr (.inr es)))))] ++ plW P)) (hFr : ∀ q, H0.size ≤ q → F q) (hq : cQ cap es L P) : UC l yX2_mergeFirstNeighbours wsX2_mergeFirstNeighbours 4 2 6 D Y (eT) [.ref (x)] H0 F (bI_ (bI (decide (fmg (RS L) < L.length - 1))) (ccB D Y F la x na ea cap ju mi lo (if fmg (RS L) < L.length - 1 then mgL (RS L) (fmg (RS L)) else RS L))) := by
  refine UCi.start (cc := cX2_mergeFirstNeighbours) (maxL := 4) (rt := .boolean) (by decide) rfl (Nat.le_of_ble_eq_true rfl) ?_
  intro p e s m args below meth c ls H locs Q S hK hH0 hE0 hHH hS hl hin hE
  rw [← hHH] at hP
  have S : CallFix p m c cX2_mergeFirstNeighbours 4 s args wsX2_mergeFirstNeighbours RX2 := S
  have hx := S.1
  have hb := S.2.1
  have hts := S.2.2.2.2
  have hl : lv_has ls 4 [(0, .ref (x))] := hl
  have hA0 := rdA_of hP hq
  obtain ⟨hX, hL, hN, hE2, hR, hok⟩ := id hA0
  have hlen := RS_len L
  have hn : L.length ≤ 16 := by have := hok.1; omega
  have hoo : ∀ i, i < L.length → rvOk (gt (RS L) i) := fun i hi => hok.2 i (by omega)
  have hcc := hq.2.2.1
  have hcc2 := hq.2.2.2.1
  refine lv_iconst (v := (nI (0))) hx hb dX2_mergeFirstNeighbours_0 (by decide +kernel) ?_
  refine lv_istore_n (lv' := [(1, .int (nI (0))), (0, .ref (x))]) hx hb dX2_mergeFirstNeighbours_1 rfl hl (by decide) rfl (fun ls hl => ?_)
  have loop_2 : ∀ (fu_2 : Nat) (i : Nat), (i ≤ L.length - 1) → (∀ j, j < i → mgB (gt (RS L) j) (gt (RS L) (j + 1)) = false) → L.length - i < fu_2 → ∀ (H : Heap) (locs : List Loc), va_P D aCl ([(la, .inr (4, [.int (mod), .ref (ea), .int (nI (L.length))])), (x, .inr (2, [.ref (la), .ref (na), .int (ju), .int (mi), .int (lo)])), (na, .inl (Y 0, 128, .inl nt)), (ea, .inl (Y 1, cap, .inr (.inr (.inr (.inr es)))))] ++ plW P) H → va_S F H0 H locs → ∀ ls : Array Slot, lv_has ls 4 [(1, .int (nI (i))), (0, .ref (x))] → W p l e (rmG 4 2 6) s m args below meth c H locs 0 0 Q (F0 m 2 ls []) := by
    intro fu_2
    induction fu_2 with
    | zero => exact fun i _ _ hk => absurd hk (Nat.not_lt_zero _)
    | succ fu_2 ih_2 =>
      intro i g1 g2 hk_2 H locs hP hS ls hl
      have hD : va_D F ([(la, .inr (4, [.int (mod), .ref (ea), .int (nI (L.length))])), (x, .inr (2, [.ref (la), .ref (na), .int (ju), .int (mi), .int (lo)])), (na, .inl (Y 0, 128, .inl nt)), (ea, .inl (Y 1, cap, .inr (.inr (.inr (.inr es)))))] ++ plW P) := va_D.same hD rfl
      refine lv_iload_n hx hb dX2_mergeFirstNeighbours_2 rfl (lv_at hl 0 rfl) ?_
      have hA0 := rdA_of hP hq
      obtain ⟨hX, hL, hN, hE2, hR, hok⟩ := id hA0
      have hlen := RS_len L
      have hn : L.length ≤ 16 := by have := hok.1; omega
      have hoo : ∀ i, i < L.length → rvOk (gt (RS L) i) := fun i hi => hok.2 i (by omega)
      have hcc := hq.2.2.1
      have hcc2 := hq.2.2.2.1
      refine lv_aload_n hx hb dX2_mergeFirstNeighbours_3 rfl (lv_at hl 1 rfl) ?_
      refine nr_get (C := RX2) (T := TX2) (N := 5) (ci := 2) S (fun _ h => List.mem_cons_of_mem _ (List.mem_append_left _ (List.mem_append_left _ (List.mem_append_left _ (List.mem_append_right _ (h)))))) hK hP 1 rfl rfl 0 (by decide) (List.mem_of_getElem? (i := 1) rfl) rfl dX2_mergeFirstNeighbours_4 ?_
      refine Rd.callV (r := (nI (L.length))) (As := []) S (k_Jx4a65c_size_8abf5 l hL) (cwV 0 hts gX2_mergeFirstNeighbours_Jx4a65c_size_8abf5 rfl rfl rfl (by decide +kernel) ⟨Nat.le_of_ble_eq_true rfl, Nat.le_of_ble_eq_true rfl⟩) hK (va_recv hK.1 hP (ci := 4) (q0 := 0) rfl rfl) rfl hl.1 rfl (Nat.le_of_ble_eq_true rfl) dX2_mergeFirstNeighbours_7 ⟨Nat.le_of_ble_eq_true rfl, Nat.le_of_ble_eq_true rfl⟩ ?_
      refine lv_iconst (v := (nI (1))) hx hb dX2_mergeFirstNeighbours_10 (by decide +kernel) ?_
      refine lv_isub hx hb dX2_mergeFirstNeighbours_11 ?_
      refine lv_icmp_ge (tgt := 73) hx hb dX2_mergeFirstNeighbours_12 (by decide) (fun c_12 => ?_) (fun c_12 => ?_)
      · have hil : L.length ≤ i + 1 := (nI_les (by omega) (by omega)).mp c_12
        have hif : ¬ fmg (RS L) < L.length - 1 := by rw [show fmg (RS L) = i from fstN_eq g2 _ (by rw [hlen]; omega) (Or.inl (by rw [hlen]; omega))]; omega
        refine lv_iconst (v := (nI (0))) hx hb dX2_mergeFirstNeighbours_73 (by decide +kernel) ?_
        refine W.widen (k := 2) (n := 6) (by omega) (by omega) ?_
        exact hE _ _ _ _ _ dX2_mergeFirstNeighbours_74 (rfl) (bI_f (decide_eq_false hif)) (⟨_, _, _, L, P, by rw [if_neg hif], hq, hP, hD⟩) hS
      · have hi2 : i + 1 < L.length := Nat.lt_of_not_le (fun q => c_12 ((nI_les (by omega) (by omega)).mpr q))
        refine lv_aload_n hx hb dX2_mergeFirstNeighbours_15 rfl (lv_at hl 1 rfl) ?_
        refine nr_get (C := RX2) (T := TX2) (N := 5) (ci := 2) S (fun _ h => List.mem_cons_of_mem _ (List.mem_append_left _ (List.mem_append_left _ (List.mem_append_left _ (List.mem_append_right _ (h)))))) hK hP 1 rfl rfl 0 (by decide) (List.mem_of_getElem? (i := 1) rfl) rfl dX2_mergeFirstNeighbours_16 ?_
        refine lv_iload_n hx hb dX2_mergeFirstNeighbours_19 rfl (lv_at hl 0 rfl) ?_
        refine RdA.callV (x := (gl L (i)).2.1) (As := [.int (nI (i))]) S (k_Jx4a65c_get_915e3 l hL (hE2 (by omega)).1 (i := i) (by omega) (hE2 (by omega)).2.1 (hE2 (by omega)).2.2 (hR (i) (by omega)).1) (cwV 1 hts gX2_mergeFirstNeighbours_Jx4a65c_get_915e3 rfl rfl rfl (by decide +kernel) ⟨Nat.le_of_ble_eq_true rfl, Nat.le_of_ble_eq_true rfl⟩) hK (va_recv hK.1 hP (ci := 4) (q0 := 0) rfl rfl) rfl hl.1 rfl (Nat.le_of_ble_eq_true rfl) dX2_mergeFirstNeighbours_20 ⟨Nat.le_of_ble_eq_true rfl, Nat.le_of_ble_eq_true rfl⟩ ?_
        refine nr_cast (C := RX1) (T := TX1) (N := 5) (ci := 1) S (List.mem_of_getElem? (i := 2) rfl) hK (hR (i) (by omega)).2 0 rfl rfl dX2_mergeFirstNeighbours_23 ?_
        refine lv_astore_n (lv' := [(2, .ref ((gl L (i)).2.1)), (1, .int (nI (i))), (0, .ref (x))]) hx hb dX2_mergeFirstNeighbours_26 rfl hl (by decide) rfl (fun ls hl => ?_)
        refine lv_aload_n hx hb dX2_mergeFirstNeighbours_27 rfl (lv_at hl 2 rfl) ?_
        refine nr_get (C := RX2) (T := TX2) (N := 5) (ci := 2) S (fun _ h => List.mem_cons_of_mem _ (List.mem_append_left _ (List.mem_append_left _ (List.mem_append_left _ (List.mem_append_right _ (h)))))) hK hP 1 rfl rfl 0 (by decide) (List.mem_of_getElem? (i := 1) rfl) rfl dX2_mergeFirstNeighbours_28 ?_
        refine lv_iload_n hx hb dX2_mergeFirstNeighbours_31 rfl (lv_at hl 1 rfl) ?_
        refine lv_iconst (v := (nI (1))) hx hb dX2_mergeFirstNeighbours_32 (by decide +kernel) ?_
        refine nr_iadd hx hb dX2_mergeFirstNeighbours_33 ?_
        refine RdA.callV (x := (gl L (i + 1)).2.1) (As := [.int (nI (i + 1))]) S (k_Jx4a65c_get_915e3 l hL (hE2 (by omega)).1 (i := i + 1) (by omega) (hE2 (by omega)).2.1 (hE2 (by omega)).2.2 (hR (i + 1) (by omega)).1) (cwV 1 hts gX2_mergeFirstNeighbours_Jx4a65c_get_915e3 rfl rfl rfl (by decide +kernel) ⟨Nat.le_of_ble_eq_true rfl, Nat.le_of_ble_eq_true rfl⟩) hK (va_recv hK.1 hP (ci := 4) (q0 := 0) rfl rfl) rfl hl.1 rfl (Nat.le_of_ble_eq_true rfl) dX2_mergeFirstNeighbours_34 ⟨Nat.le_of_ble_eq_true rfl, Nat.le_of_ble_eq_true rfl⟩ ?_
        refine nr_cast (C := RX1) (T := TX1) (N := 5) (ci := 1) S (List.mem_of_getElem? (i := 2) rfl) hK (hR (i + 1) (by omega)).2 0 rfl rfl dX2_mergeFirstNeighbours_37 ?_
        refine lv_astore_n (lv' := [(3, .ref ((gl L (i + 1)).2.1)), (2, .ref ((gl L (i)).2.1)), (1, .int (nI (i))), (0, .ref (x))]) hx hb dX2_mergeFirstNeighbours_40 rfl hl (by decide) rfl (fun ls hl => ?_)
        refine lv_aload_n hx hb dX2_mergeFirstNeighbours_41 rfl (lv_at hl 1 rfl) ?_
        refine lv_aload_n hx hb dX2_mergeFirstNeighbours_42 rfl (lv_at hl 0 rfl) ?_
        refine Rd.callV (r := (bI (mjB (gt (RS L) (i)) (gt (RS L) (i + 1))))) (As := [.ref ((gl L (i + 1)).2.1)]) S (k_X1_isMergeable l (hR (i) (by omega)).2 (hR (i + 1) (by omega)).2 (hoo (i) (by omega)) (hoo (i + 1) (by omega))) (cwV 1 hts gX2_mergeFirstNeighbours_X1_isMergeable rfl rfl rfl (by decide +kernel) ⟨Nat.le_of_ble_eq_true rfl, Nat.le_of_ble_eq_true rfl⟩) hK (va_recv hK.1 (hR (i) (by omega)).2 (ci := 1) (q0 := 0) rfl rfl) rfl hl.1 rfl (Nat.le_of_ble_eq_true rfl) dX2_mergeFirstNeighbours_43 ⟨Nat.le_of_ble_eq_true rfl, Nat.le_of_ble_eq_true rfl⟩ ?_
        refine nr_ifB_eq (tgt := 67) hx hb dX2_mergeFirstNeighbours_46 (by decide) (fun c_46 => ?_) (fun c_46 => ?_)
        · have hmg : mgB (gt (RS L) i) (gt (RS L) (i + 1)) = false := by rw [← mj_mg (hoo i (by omega)) (hoo (i + 1) hi2)]; exact c_46
          refine lv_iinc (v := (nI (i + 1))) (lv' := [(1, .int (nI (i + 1))), (3, .ref ((gl L (i + 1)).2.1)), (2, .ref ((gl L (i)).2.1)), (0, .ref (x))]) hx hb dX2_mergeFirstNeighbours_67 hl (k := 2) rfl (nI_add _ _) (by decide) rfl (fun ls hl => ?_)
          refine lv_goto (tgt := 2) hx hb dX2_mergeFirstNeighbours_70 (by decide) ?_
          exact ih_2 (i + 1) (by omega) (fun j hj => by
                by_cases hz : j = i
                · rw [hz]; exact hmg
                · exact g2 j (by omega)) (by omega) _ _ hP hS ls (lv_sub hl [0, 3] rfl)
        · have hmg : mgB (gt (RS L) i) (gt (RS L) (i + 1)) = true := by rw [← mj_mg (hoo i (by omega)) (hoo (i + 1) hi2)]; exact c_46
          have hfm : fmg (RS L) = i := fstN_eq g2 _ (by rw [hlen]; omega) (Or.inr hmg)
          have hif : fmg (RS L) < L.length - 1 := by omega
          obtain ⟨kp, hkp1, hkg, p0, p1, p2, hot, hput⟩ := cQ_put hq (k := i) (by omega)
          obtain ⟨jp, hjp, hjk, hjg⟩ := hot (i + 1) hi2 (by omega)
          have u0 := plW_at P jp hjp 0 (by decide)
          have u1 := plW_at P jp hjp 1 (by decide)
          have u2 := plW_at P jp hjp 2 (by decide)
          rw [← hjg] at u0 u1 u2
          have r1 := hoo i (by omega)
          have r2 := hoo (i + 1) hi2
          rw [gt_RS] at r1 r2
          refine lv_aload_n hx hb dX2_mergeFirstNeighbours_49 rfl (lv_at hl 1 rfl) ?_
          refine lv_aload_n hx hb dX2_mergeFirstNeighbours_50 rfl (lv_at hl 0 rfl) ?_
          refine UC.callV (As := [.ref ((gl L (i + 1)).2.1)]) S (k_X1_absorb l hP hD (fun q hq => hFr q (Nat.le_trans hS.1 hq)) (i0 := 3 * kp + 0 + 4) (i1 := 3 * kp + 1 + 4) (i2 := 3 * kp + 2 + 4) (j0 := 3 * jp + 0 + 4) (j1 := 3 * jp + 1 + 4) (j2 := 3 * jp + 2 + 4) (r := (gl L i).1) (r2 := (gl L (i + 1)).1) (ad := (gl L i).2) (ad2 := (gl L (i + 1)).2) p0 p1 p2 u0 u1 u2 (by omega) r1 r2) (cwV 1 hts gX2_mergeFirstNeighbours_X1_absorb rfl rfl rfl (by decide +kernel) ⟨Nat.le_of_ble_eq_true rfl, Nat.le_of_ble_eq_true rfl⟩) hK eT_bl (fun _ _ _ => trivial) hS (fun _ h => h) (va_recv hK.1 (hR (i) (by omega)).2 (ci := 1) (q0 := 0) rfl rfl) rfl hl.1 rfl (Nat.le_of_ble_eq_true rfl) dX2_mergeFirstNeighbours_51 ⟨Nat.le_of_ble_eq_true rfl, Nat.le_of_ble_eq_true rfl⟩ (fun v H locs hB hS hsz hkp => ?_)
          obtain ⟨rfl, hB⟩ := hB
          obtain ⟨a1, a2, hP9, hD9⟩ := hB
          have hq9 := hput (mgV (gl L i).1 (gl L (i + 1)).1) a1 a2 (mgV_ok r1 r2)
          have hRS9 := RS_mg (a0 := (gl L i).2.1) (a1 := a1) (a2 := a2) hi2
          have hln : ∀ (y : Nat × va_E), ((([(la, .inr (4, [.int mod, .ref ea, .int (nI L.length)])), (x, .inr (2, [.ref la, .ref na, .int ju, .int mi, .int lo])), (na, .inl (Y 0, 128, .inl nt)), (ea, .inl (Y 1, cap, .inr (.inr (.inr (.inr es)))))] ++ plW P : va_W)).set (3 * kp + 0 + 4) y).length = 4 + 3 * P.length := fun y => by rw [List.length_set, List.length_append, plW_len]; rfl
          have hP := swP (p1 := 3 * kp + 1 + 4) (p2 := 3 * kp + 2 + 4) (by rw [hln]; omega) (by rw [hln]; omega) (by omega) hP9
          have hD := swD (p1 := 3 * kp + 1 + 4) (p2 := 3 * kp + 2 + 4) (by rw [hln]; omega) (by rw [hln]; omega) (by omega) hD9
          have hw9 := plW_set3 (z := (mgV (gl L i).1 (gl L (i + 1)).1, (gl L i).2.1, a1, a2)) P kp hkp1
          have hP : va_P D aCl ([(la, .inr (4, [.int mod, .ref ea, .int (nI L.length)])), (x, .inr (2, [.ref la, .ref na, .int ju, .int mi, .int lo])), (na, .inl (Y 0, 128, .inl nt)), (ea, .inl (Y 1, cap, .inr (.inr (.inr (.inr es)))))] ++ plW (P.set kp (mgV (gl L i).1 (gl L (i + 1)).1, (gl L i).2.1, a1, a2))) H := by rw [hw9]; rw [Nat.min_comm (sF (gl L i).1), Nat.max_comm (sT (gl L i).1), Nat.min_comm (dF (gl L i).1), Nat.max_comm (dT (gl L i).1)] at hP; exact hP
          have hD : va_D F ([(la, .inr (4, [.int mod, .ref ea, .int (nI L.length)])), (x, .inr (2, [.ref la, .ref na, .int ju, .int mi, .int lo])), (na, .inl (Y 0, 128, .inl nt)), (ea, .inl (Y 1, cap, .inr (.inr (.inr (.inr es)))))] ++ plW (P.set kp (mgV (gl L i).1 (gl L (i + 1)).1, (gl L i).2.1, a1, a2))) := by rw [hw9]; rw [Nat.min_comm (sF (gl L i).1), Nat.max_comm (sT (gl L i).1), Nat.min_comm (dF (gl L i).1), Nat.max_comm (dT (gl L i).1)] at hD; exact hD
          obtain ⟨L1, e1⟩ : ∃ z, z = L.set i (mgV (gl L i).1 (gl L (i + 1)).1, (gl L i).2.1, a1, a2) := ⟨_, rfl⟩
          obtain ⟨P1, e2⟩ : ∃ z, z = P.set kp (mgV (gl L i).1 (gl L (i + 1)).1, (gl L i).2.1, a1, a2) := ⟨_, rfl⟩
          rw [← e1, ← e2] at hq9
          rw [← e2] at hP hD
          rw [← e1] at hRS9
          have hl1 : L1.length = L.length := by rw [e1, List.length_set]
          rw [← hl1] at hP hD
          clear hP9 hD9 hw9
          have hq := hq9
          have hA0 := rdA_of hP hq
          obtain ⟨hX, hL, hN, hE2, hR, hok⟩ := id hA0
          have hlen := RS_len L1
          have hn : L1.length ≤ 16 := by have := hok.1; omega
          have hoo : ∀ i, i < L1.length → rvOk (gt (RS L1) i) := fun i hi => hok.2 i (by omega)
          have hcc := hq.2.2.1
          have hcc2 := hq.2.2.2.1
          refine lv_aload_n hx hb dX2_mergeFirstNeighbours_54 rfl (lv_at hl 3 rfl) ?_
          refine nr_get (C := RX2) (T := TX2) (N := 5) (ci := 2) S (fun _ h => List.mem_cons_of_mem _ (List.mem_append_left _ (List.mem_append_left _ (List.mem_append_left _ (List.mem_append_right _ (h)))))) hK hP 1 rfl rfl 0 (by decide) (List.mem_of_getElem? (i := 1) rfl) rfl dX2_mergeFirstNeighbours_55 ?_
          refine lv_iload_n hx hb dX2_mergeFirstNeighbours_58 rfl (lv_at hl 2 rfl) ?_
          refine lv_iconst (v := (nI (1))) hx hb dX2_mergeFirstNeighbours_59 (by decide +kernel) ?_
          refine nr_iadd hx hb dX2_mergeFirstNeighbours_60 ?_
          refine UC.callV (As := [.int (nI (i + 1))]) S (k_Jx4a65c_remove_915e3 l hP hD (hes_of hq) hcc hcc2 (i := i + 1) (by omega) (hq.2.2.2.2 (i + 1) (by omega))) (cwV 1 hts gX2_mergeFirstNeighbours_Jx4a65c_remove_915e3 rfl rfl rfl (by decide +kernel) ⟨Nat.le_of_ble_eq_true rfl, Nat.le_of_ble_eq_true rfl⟩) hK eT_bl (fun _ _ _ => trivial) hS (fun _ h => h) (va_recv hK.1 hP (ci := 4) (q0 := 0) rfl rfl) rfl hl.1 rfl (Nat.le_of_ble_eq_true rfl) dX2_mergeFirstNeighbours_61 ⟨Nat.le_of_ble_eq_true rfl, Nat.le_of_ble_eq_true rfl⟩ (fun v H locs hB hS hsz hkp => ?_)
          obtain ⟨a9, rfl, hB⟩ := hB
          obtain ⟨rfl, es3, hes3, hP⟩ := hB
          rw [← lenA_erase (p := i + 1) (by omega)] at hP
          have hq := cQ_erase hq (p := i + 1) (by omega) hes3
          have hP : va_P D aCl ([(la, .inr (4, [.int (mod + nI 1), .ref (ea), .int (nI ((L1.eraseIdx (i + 1)).length))])), (x, .inr (2, [.ref (la), .ref (na), .int (ju), .int (mi), .int (lo)])), (na, .inl (Y 0, 128, .inl nt)), (ea, .inl (Y 1, cap, .inr (.inr (.inr (.inr es3)))))] ++ plW P1) H := hP
          have hD : va_D F ([(la, .inr (4, [.int (mod + nI 1), .ref (ea), .int (nI ((L1.eraseIdx (i + 1)).length))])), (x, .inr (2, [.ref (la), .ref (na), .int (ju), .int (mi), .int (lo)])), (na, .inl (Y 0, 128, .inl nt)), (ea, .inl (Y 1, cap, .inr (.inr (.inr (.inr es3)))))] ++ plW P1) := va_D.same hD rfl
          refine lv_pop hx hb dX2_mergeFirstNeighbours_64 rfl ?_
          refine lv_iconst (v := (nI (1))) hx hb dX2_mergeFirstNeighbours_65 (by decide +kernel) ?_
          refine W.widen (k := 2) (n := 6) (by omega) (by omega) ?_
          exact hE _ _ _ _ _ dX2_mergeFirstNeighbours_66 (rfl) (bI_t (decide_eq_true hif)) (⟨_, _, _, L1.eraseIdx (i + 1), P1, by rw [if_pos hif, hfm]; exact hRS9, hq, hP, hD⟩) hS
  exact loop_2 _ (0) (Nat.zero_le _) (fun _ hj => absurd hj (Nat.not_lt_zero _)) (Nat.lt_succ_self _) _ _ hP hS ls (lv_sub hl [0, 1] rfl)
