/-! isMovedSo -/
set_option maxHeartbeats 4000000 in
set_option maxRecDepth 100000 in
theorem k_L_isMovedSo (l : Launch) {D : va_G} {Y : Nat → ClassId} {F : Nat → Prop} {t0 la x na i j : Nat} {ju mi lo : Int32} {rs : List RV} {H0 : Heap} (hC : CS D Y F t0 la x na ju mi lo rs H0) (hi : i < rs.length) (hj : j < rs.length) : UC l yL_isMovedSo wsL_isMovedSo 7 0 0 D Y (eL t0 F F) [.ref (x), .int (nI (i)), .int (nI (j))] H0 F (bI_ (bI true) (CS D Y F t0 la x na ju mi lo rs)) := by
  refine UCi.start (cc := cL_isMovedSo) (maxL := 8) (rt := .boolean) (by decide) rfl (Nat.le_of_ble_eq_true rfl) ?_
  intro p e s m args below meth c ls H locs Q S hK hH0 hE0 hHH hS hl hin hE
  subst hH0
  subst hHH
  have S : CallFix p m c cL_isMovedSo 8 s args wsL_isMovedSo RL := S
  have hx := S.1
  have hb := S.2.1
  have hts := S.2.2.2.2
  have hl : lv_has ls 8 [(0, .ref (x)), (1, .int (nI (i))), (2, .int (nI (j)))] := hl
  have hok := hC.ok
  have hn := hok.1
  have t1 := ch_tri rs (mvL rs i j)
  have t2 := ch_tri (mvL rs i j) rs
  have t3 := chN_comm (mvL rs i j) rs
  have t4 := chN_le rs (mvL rs i j)
  have t5 := pmT_le rs
  have t6 := pmT_le (mvL rs i j)
  refine lv_aload_n hx hb dL_isMovedSo_0 rfl (lv_at hl 0 rfl) ?_
  refine Rd.callV (r := nI (pmT (rs))) (As := []) S (q_permitted hC.hd) (cwV 0 hts gL_isMovedSo_X2_permitted rfl rfl rfl (by decide +kernel) ⟨Nat.le_of_ble_eq_true rfl, Nat.le_of_ble_eq_true rfl⟩) hK (hC.hd.recv hK) rfl hl.1 rfl (Nat.le_of_ble_eq_true rfl) dL_isMovedSo_1 ⟨Nat.le_of_ble_eq_true rfl, Nat.le_of_ble_eq_true rfl⟩ ?_
  refine lv_istore_n (lv' := [(3, .int (nI (pmT (rs)))), (0, .ref (x)), (1, .int (nI (i))), (2, .int (nI (j)))]) hx hb dL_isMovedSo_4 rfl hl (by decide) rfl (fun ls hl => ?_)
  refine lv_aload_n hx hb dL_isMovedSo_5 rfl (lv_at hl 1 rfl) ?_
  refine lv_iload_n hx hb dL_isMovedSo_6 rfl (lv_at hl 2 rfl) ?_
  refine Rd.callV (r := hT (gt (rs) (i))) (As := [.int (nI (i))]) S (q_hits hC.hd (i := i) (by omega)) (cwV 1 hts gL_isMovedSo_X2_hits rfl rfl rfl (by decide +kernel) ⟨Nat.le_of_ble_eq_true rfl, Nat.le_of_ble_eq_true rfl⟩) hK (hC.hd.recv hK) rfl hl.1 rfl (Nat.le_of_ble_eq_true rfl) dL_isMovedSo_7 ⟨Nat.le_of_ble_eq_true rfl, Nat.le_of_ble_eq_true rfl⟩ ?_
  refine lv_istore (lv' := [(4, .int (hT (gt (rs) (i)))), (3, .int (nI (pmT (rs)))), (0, .ref (x)), (1, .int (nI (i))), (2, .int (nI (j)))]) hx hb dL_isMovedSo_10 hl (by decide) rfl (fun ls hl => ?_)
  refine lv_aload_n hx hb dL_isMovedSo_12 rfl (lv_at hl 2 rfl) ?_
  refine lv_iload_n hx hb dL_isMovedSo_13 rfl (lv_at hl 3 rfl) ?_
  refine lv_iload_n hx hb dL_isMovedSo_14 rfl (lv_at hl 4 rfl) ?_
  refine UC.callV (E := eL t0 F F) (As := [.int (nI (i)), .int (nI (j))]) S (cx_move l hC hi hj) (cwV 2 hts gL_isMovedSo_X2_move rfl rfl rfl (by decide +kernel) ⟨Nat.le_of_ble_eq_true rfl, Nat.le_of_ble_eq_true rfl⟩) hK eL_bl (fun U hW hU9 => eL.step hE0 hS hW hU9) hS (fun q h => h) (hC.hd.recv hK) rfl hl.1 rfl (Nat.le_of_ble_eq_true rfl) dL_isMovedSo_15 ⟨Nat.le_of_ble_eq_true rfl, Nat.le_of_ble_eq_true rfl⟩ (fun v9 H locs hC hS hsz hkp => ?_)
  obtain ⟨rfl, hC⟩ := hC
  refine lv_istore (lv' := [(5, .int (nI (chN rs (mvL rs i j)))), (4, .int (hT (gt (rs) (i)))), (3, .int (nI (pmT (rs)))), (0, .ref (x)), (1, .int (nI (i))), (2, .int (nI (j)))]) hx hb dL_isMovedSo_18 hl (by decide) rfl (fun ls hl => ?_)
  refine lv_aload_n hx hb dL_isMovedSo_20 rfl (lv_at hl 3 rfl) ?_
  refine Rd.callV (r := nI (pmT (mvL rs i j))) (As := []) S (q_permitted hC.hd) (cwV 0 hts gL_isMovedSo_X2_permitted rfl rfl rfl (by decide +kernel) ⟨Nat.le_of_ble_eq_true rfl, Nat.le_of_ble_eq_true rfl⟩) hK (hC.hd.recv hK) rfl hl.1 rfl (Nat.le_of_ble_eq_true rfl) dL_isMovedSo_21 ⟨Nat.le_of_ble_eq_true rfl, Nat.le_of_ble_eq_true rfl⟩ ?_
  refine lv_istore (lv' := [(6, .int (nI (pmT (mvL rs i j)))), (5, .int (nI (chN rs (mvL rs i j)))), (4, .int (hT (gt (rs) (i)))), (3, .int (nI (pmT (rs)))), (0, .ref (x)), (1, .int (nI (i))), (2, .int (nI (j)))]) hx hb dL_isMovedSo_24 hl (by decide) rfl (fun ls hl => ?_)
  refine lv_iload hx hb dL_isMovedSo_26 (lv_at hl 0 rfl) ?_
  refine lv_iload_n hx hb dL_isMovedSo_28 rfl (lv_at hl 3 rfl) ?_
  refine nr_icmp_le (tgt := 39) hx hb (by omega) (by omega) dL_isMovedSo_29 (by decide) (fun c_29 => ?_) (fun c_29 => ?_)
  · refine lv_iload_n hx hb dL_isMovedSo_39 rfl (lv_at hl 3 rfl) ?_
    refine lv_iload hx hb dL_isMovedSo_40 (lv_at hl 0 rfl) ?_
    refine nr_isub hx hb (by omega) dL_isMovedSo_42 ?_
    refine lv_iload hx hb dL_isMovedSo_43 (lv_at hl 1 rfl) ?_
    refine nr_icmp_gt (tgt := 81) hx hb (by omega) (by omega) dL_isMovedSo_45 (by decide) (fun c_45 => absurd c_45 (by omega)) (fun c_45 => ?_)
    refine lv_aload_n hx hb dL_isMovedSo_48 rfl (lv_at hl 4 rfl) ?_
    refine lv_iload_n hx hb dL_isMovedSo_49 rfl (lv_at hl 6 rfl) ?_
    refine Rd.callV (r := hT (gt (mvL rs i j) (j))) (As := [.int (nI (j))]) S (q_hits hC.hd (i := j) (by rw [mvL_len hi hj]; exact hj)) (cwV 1 hts gL_isMovedSo_X2_hits rfl rfl rfl (by decide +kernel) ⟨Nat.le_of_ble_eq_true rfl, Nat.le_of_ble_eq_true rfl⟩) hK (hC.hd.recv hK) rfl hl.1 rfl (Nat.le_of_ble_eq_true rfl) dL_isMovedSo_50 ⟨Nat.le_of_ble_eq_true rfl, Nat.le_of_ble_eq_true rfl⟩ ?_
    refine lv_iload hx hb dL_isMovedSo_53 (lv_at hl 2 rfl) ?_
    refine lv_icmp_ne (tgt := 81) hx hb dL_isMovedSo_55 (by decide) (fun c_55 => absurd c_55 (fun z => z (by rw [mvL_at hi hj]))) (fun c_55 => ?_)
    refine lv_aload_n hx hb dL_isMovedSo_58 rfl (lv_at hl 4 rfl) ?_
    refine lv_iload_n hx hb dL_isMovedSo_59 rfl (lv_at hl 6 rfl) ?_
    refine lv_iload_n hx hb dL_isMovedSo_60 rfl (lv_at hl 5 rfl) ?_
    have hM2 := cx_move l (E' := eL t0 F F) hC (i := j) (j := i) (by rw [mvL_len hi hj]; exact hj) (by rw [mvL_len hi hj]; exact hi)
    rw [mvL_back hi hj] at hM2
    refine UC.callV (E := eL t0 F F) (As := [.int (nI (j)), .int (nI (i))]) S (hM2) (cwV 2 hts gL_isMovedSo_X2_move rfl rfl rfl (by decide +kernel) ⟨Nat.le_of_ble_eq_true rfl, Nat.le_of_ble_eq_true rfl⟩) hK eL_bl (fun U hW hU9 => eL.step hE0 hS hW hU9) hS (fun q h => h) (hC.hd.recv hK) rfl hl.1 rfl (Nat.le_of_ble_eq_true rfl) dL_isMovedSo_61 ⟨Nat.le_of_ble_eq_true rfl, Nat.le_of_ble_eq_true rfl⟩ (fun v9 H locs hC hS hsz hkp => ?_)
    obtain ⟨rfl, hC⟩ := hC
    refine lv_iload hx hb dL_isMovedSo_64 (lv_at hl 1 rfl) ?_
    refine nr_icmp_ne (tgt := 81) hx hb (by omega) (by omega) dL_isMovedSo_66 (by decide) (fun c_66 => absurd c_66 (by omega)) (fun c_66 => ?_)
    refine lv_aload_n hx hb dL_isMovedSo_69 rfl (lv_at hl 4 rfl) ?_
    refine Rd.callV (r := nI (pmT (rs))) (As := []) S (q_permitted hC.hd) (cwV 0 hts gL_isMovedSo_X2_permitted rfl rfl rfl (by decide +kernel) ⟨Nat.le_of_ble_eq_true rfl, Nat.le_of_ble_eq_true rfl⟩) hK (hC.hd.recv hK) rfl hl.1 rfl (Nat.le_of_ble_eq_true rfl) dL_isMovedSo_70 ⟨Nat.le_of_ble_eq_true rfl, Nat.le_of_ble_eq_true rfl⟩ ?_
    refine lv_iload_n hx hb dL_isMovedSo_73 rfl (lv_at hl 3 rfl) ?_
    refine nr_icmp_ne (tgt := 81) hx hb (by omega) (by omega) dL_isMovedSo_74 (by decide) (fun c_74 => absurd c_74 (fun z => z rfl)) (fun c_74 => ?_)
    refine lv_iconst (v := (nI (1))) hx hb dL_isMovedSo_77 (by decide +kernel) ?_
    refine lv_goto (tgt := 82) hx hb dL_isMovedSo_78 (by decide) ?_
    refine lv_istore (lv' := [(7, .int (nI (1))), (6, .int (nI (pmT (mvL rs i j)))), (5, .int (nI (chN rs (mvL rs i j)))), (4, .int (hT (gt (rs) (i)))), (3, .int (nI (pmT (rs)))), (0, .ref (x)), (1, .int (nI (i))), (2, .int (nI (j)))]) hx hb dL_isMovedSo_82 hl (by decide) rfl (fun ls hl => ?_)
    refine lv_iload hx hb dL_isMovedSo_84 (lv_at hl 0 rfl) ?_
    refine nr_if_eq (tgt := 103) hx hb (by omega) dL_isMovedSo_86 (by decide) (fun c_86 => absurd c_86 (by decide)) (fun c_86 => ?_)
    refine lv_aload_n hx hb dL_isMovedSo_89 rfl (lv_at hl 5 rfl) ?_
    refine lv_iload_n hx hb dL_isMovedSo_90 rfl (lv_at hl 6 rfl) ?_
    refine Rd.callV (r := hT (gt (rs) (i))) (As := [.int (nI (i))]) S (q_hits hC.hd (i := i) (by omega)) (cwV 1 hts gL_isMovedSo_X2_hits rfl rfl rfl (by decide +kernel) ⟨Nat.le_of_ble_eq_true rfl, Nat.le_of_ble_eq_true rfl⟩) hK (hC.hd.recv hK) rfl hl.1 rfl (Nat.le_of_ble_eq_true rfl) dL_isMovedSo_91 ⟨Nat.le_of_ble_eq_true rfl, Nat.le_of_ble_eq_true rfl⟩ ?_
    refine lv_iload hx hb dL_isMovedSo_94 (lv_at hl 3 rfl) ?_
    refine lv_icmp_ne (tgt := 103) hx hb dL_isMovedSo_96 (by decide) (fun c_96 => absurd c_96 (fun z => z rfl)) (fun c_96 => ?_)
    refine lv_iconst (v := (nI (1))) hx hb dL_isMovedSo_99 (by decide +kernel) ?_
    refine lv_goto (tgt := 104) hx hb dL_isMovedSo_100 (by decide) ?_
    exact hE _ _ _ _ _ dL_isMovedSo_104 rfl rfl hC hS
  · refine lv_iload hx hb dL_isMovedSo_32 (lv_at hl 0 rfl) ?_
    refine lv_iload_n hx hb dL_isMovedSo_34 rfl (lv_at hl 3 rfl) ?_
    refine nr_isub hx hb (by omega) dL_isMovedSo_35 ?_
    refine lv_goto (tgt := 43) hx hb dL_isMovedSo_36 (by decide) ?_
    refine lv_iload hx hb dL_isMovedSo_43 (lv_at hl 1 rfl) ?_
    refine nr_icmp_gt (tgt := 81) hx hb (by omega) (by omega) dL_isMovedSo_45 (by decide) (fun c_45 => absurd c_45 (by omega)) (fun c_45 => ?_)
    refine lv_aload_n hx hb dL_isMovedSo_48 rfl (lv_at hl 4 rfl) ?_
    refine lv_iload_n hx hb dL_isMovedSo_49 rfl (lv_at hl 6 rfl) ?_
    refine Rd.callV (r := hT (gt (mvL rs i j) (j))) (As := [.int (nI (j))]) S (q_hits hC.hd (i := j) (by rw [mvL_len hi hj]; exact hj)) (cwV 1 hts gL_isMovedSo_X2_hits rfl rfl rfl (by decide +kernel) ⟨Nat.le_of_ble_eq_true rfl, Nat.le_of_ble_eq_true rfl⟩) hK (hC.hd.recv hK) rfl hl.1 rfl (Nat.le_of_ble_eq_true rfl) dL_isMovedSo_50 ⟨Nat.le_of_ble_eq_true rfl, Nat.le_of_ble_eq_true rfl⟩ ?_
    refine lv_iload hx hb dL_isMovedSo_53 (lv_at hl 2 rfl) ?_
    refine lv_icmp_ne (tgt := 81) hx hb dL_isMovedSo_55 (by decide) (fun c_55 => absurd c_55 (fun z => z (by rw [mvL_at hi hj]))) (fun c_55 => ?_)
    refine lv_aload_n hx hb dL_isMovedSo_58 rfl (lv_at hl 4 rfl) ?_
    refine lv_iload_n hx hb dL_isMovedSo_59 rfl (lv_at hl 6 rfl) ?_
    refine lv_iload_n hx hb dL_isMovedSo_60 rfl (lv_at hl 5 rfl) ?_
    have hM2 := cx_move l (E' := eL t0 F F) hC (i := j) (j := i) (by rw [mvL_len hi hj]; exact hj) (by rw [mvL_len hi hj]; exact hi)
    rw [mvL_back hi hj] at hM2
    refine UC.callV (E := eL t0 F F) (As := [.int (nI (j)), .int (nI (i))]) S (hM2) (cwV 2 hts gL_isMovedSo_X2_move rfl rfl rfl (by decide +kernel) ⟨Nat.le_of_ble_eq_true rfl, Nat.le_of_ble_eq_true rfl⟩) hK eL_bl (fun U hW hU9 => eL.step hE0 hS hW hU9) hS (fun q h => h) (hC.hd.recv hK) rfl hl.1 rfl (Nat.le_of_ble_eq_true rfl) dL_isMovedSo_61 ⟨Nat.le_of_ble_eq_true rfl, Nat.le_of_ble_eq_true rfl⟩ (fun v9 H locs hC hS hsz hkp => ?_)
    obtain ⟨rfl, hC⟩ := hC
    refine lv_iload hx hb dL_isMovedSo_64 (lv_at hl 1 rfl) ?_
    refine nr_icmp_ne (tgt := 81) hx hb (by omega) (by omega) dL_isMovedSo_66 (by decide) (fun c_66 => absurd c_66 (by omega)) (fun c_66 => ?_)
    refine lv_aload_n hx hb dL_isMovedSo_69 rfl (lv_at hl 4 rfl) ?_
    refine Rd.callV (r := nI (pmT (rs))) (As := []) S (q_permitted hC.hd) (cwV 0 hts gL_isMovedSo_X2_permitted rfl rfl rfl (by decide +kernel) ⟨Nat.le_of_ble_eq_true rfl, Nat.le_of_ble_eq_true rfl⟩) hK (hC.hd.recv hK) rfl hl.1 rfl (Nat.le_of_ble_eq_true rfl) dL_isMovedSo_70 ⟨Nat.le_of_ble_eq_true rfl, Nat.le_of_ble_eq_true rfl⟩ ?_
    refine lv_iload_n hx hb dL_isMovedSo_73 rfl (lv_at hl 3 rfl) ?_
    refine nr_icmp_ne (tgt := 81) hx hb (by omega) (by omega) dL_isMovedSo_74 (by decide) (fun c_74 => absurd c_74 (fun z => z rfl)) (fun c_74 => ?_)
    refine lv_iconst (v := (nI (1))) hx hb dL_isMovedSo_77 (by decide +kernel) ?_
    refine lv_goto (tgt := 82) hx hb dL_isMovedSo_78 (by decide) ?_
    refine lv_istore (lv' := [(7, .int (nI (1))), (6, .int (nI (pmT (mvL rs i j)))), (5, .int (nI (chN rs (mvL rs i j)))), (4, .int (hT (gt (rs) (i)))), (3, .int (nI (pmT (rs)))), (0, .ref (x)), (1, .int (nI (i))), (2, .int (nI (j)))]) hx hb dL_isMovedSo_82 hl (by decide) rfl (fun ls hl => ?_)
    refine lv_iload hx hb dL_isMovedSo_84 (lv_at hl 0 rfl) ?_
    refine nr_if_eq (tgt := 103) hx hb (by omega) dL_isMovedSo_86 (by decide) (fun c_86 => absurd c_86 (by decide)) (fun c_86 => ?_)
    refine lv_aload_n hx hb dL_isMovedSo_89 rfl (lv_at hl 5 rfl) ?_
    refine lv_iload_n hx hb dL_isMovedSo_90 rfl (lv_at hl 6 rfl) ?_
    refine Rd.callV (r := hT (gt (rs) (i))) (As := [.int (nI (i))]) S (q_hits hC.hd (i := i) (by omega)) (cwV 1 hts gL_isMovedSo_X2_hits rfl rfl rfl (by decide +kernel) ⟨Nat.le_of_ble_eq_true rfl, Nat.le_of_ble_eq_true rfl⟩) hK (hC.hd.recv hK) rfl hl.1 rfl (Nat.le_of_ble_eq_true rfl) dL_isMovedSo_91 ⟨Nat.le_of_ble_eq_true rfl, Nat.le_of_ble_eq_true rfl⟩ ?_
    refine lv_iload hx hb dL_isMovedSo_94 (lv_at hl 3 rfl) ?_
    refine lv_icmp_ne (tgt := 103) hx hb dL_isMovedSo_96 (by decide) (fun c_96 => absurd c_96 (fun z => z rfl)) (fun c_96 => ?_)
    refine lv_iconst (v := (nI (1))) hx hb dL_isMovedSo_99 (by decide +kernel) ?_
    refine lv_goto (tgt := 104) hx hb dL_isMovedSo_100 (by decide) ?_
    exact hE _ _ _ _ _ dL_isMovedSo_104 rfl rfl hC hS
/-! cell: the script, and beyond it numbers -/
def cellV (L : Nat) (xs : Nat → Int32) (k : Nat) : Int32 := if k < L then xs k else nI (7919 * (k + 113) * (k + 2297))
abbrev eScr (b L : Nat) (xs : Nat → Int32) (U : State) : Prop := va_X b L xs U U.heap ∧ b < U.heap.size
theorem eScr_bl {b L : Nat} {xs : Nat → Int32} : Ebl (eScr b L xs) := fun U g mk a h => ⟨va_X.moved (u := U) (U := U.calling g mk a) (Vm.Alike.refl U.vm) h.1, h.2⟩
set_option maxHeartbeats 4000000 in
set_option maxRecDepth 100000 in
theorem k_L_cell (l : Launch) {D : va_G} {Y : Nat → ClassId} {F : Nat → Prop} {b L k : Nat} {xs : Nat → Int32} {H0 : Heap} (hk : k < 2 ^ 31) (hL : L < 2 ^ 31) (hbF : ¬ F b) : UC l yL_cell wsL_cell 0 0 0 D Y (eScr b L xs) [.ref b, .int (nI k)] H0 F (bI_ (cellV L xs k) (fun H => H = H0)) := by
  refine UCi.start (cc := cL_cell) (maxL := 2) (rt := .int) (by decide) rfl (Nat.le_of_ble_eq_true rfl) ?_
  intro p e s m args below meth c ls H locs Q S hK hH0 hE0 hHH hS hl hin hE
  subst hH0
  subst hHH
  have hx := S.1
  have hb := S.2.1
  have hl : lv_has ls 2 [(0, .ref b), (1, .int (nI k))] := hl
  refine lv_iload_n hx hb dL_cell_0 rfl (lv_at hl 1 rfl) ?_
  refine lv_aload_n hx hb dL_cell_1 rfl (lv_at hl 0 rfl) ?_
  refine va_slen hx hb hE0.1 hE0.2 hbF hS dL_cell_2 ?_
  refine nr_icmp_ge (a := k) (b := L) (tgt := 12) hx hb hk hL dL_cell_3 (by decide) (fun c3 => ?_) (fun c3 => ?_)
  · refine lv_sipush (v := nI 7919) hx hb dL_cell_12 (by decide +kernel) ?_
    refine lv_iload_n hx hb dL_cell_15 rfl (lv_at hl 1 rfl) ?_
    refine lv_bipush (v := nI 113) hx hb dL_cell_16 (by decide +kernel) ?_
    refine nr_iadd hx hb dL_cell_18 ?_
    refine nr_imul hx hb dL_cell_19 ?_
    refine lv_iload_n hx hb dL_cell_20 rfl (lv_at hl 1 rfl) ?_
    refine lv_sipush (v := nI 2297) hx hb dL_cell_21 (by decide +kernel) ?_
    refine nr_iadd hx hb dL_cell_24 ?_
    refine nr_imul hx hb dL_cell_25 ?_
    exact hE _ _ _ _ _ dL_cell_26 (vp_nar_int _) (by unfold cellV; rw [if_neg (by omega)]) rfl hS
  · refine lv_aload_n hx hb dL_cell_6 rfl (lv_at hl 0 rfl) ?_
    refine lv_iload_n hx hb dL_cell_7 rfl (lv_at hl 1 rfl) ?_
    refine va_sld hx hb hE0.1 hE0.2 hbF hS (vp_in_nI c3 hL) dL_cell_8 ?_
    rw [nI_clamp hk]
    refine lv_goto (tgt := 26) hx hb dL_cell_9 (by decide) ?_
    exact hE _ _ _ _ _ dL_cell_26 (vp_nar_int _) (by unfold cellV; rw [if_pos c3]) rfl hS
