/-! areRulesSo -/
theorem nI_n0 {a : Nat} (ha : a < 2 ^ 31) (h : ¬ 0 < nI a) : a = 0 := by
  have h1 : ¬ nI 0 < nI a := h
  rw [nI_ltI (by decide) ha] at h1
  omega
set_option maxHeartbeats 4000000 in
set_option maxRecDepth 100000 in
theorem k_L_size (l : Launch) {D : va_G} {Y : Nat → ClassId} {x : Nat} {ju mi lo : Int32} {rs : List RV} {H : Heap} (hA : Hd D Y x ju mi lo rs H) {i : Nat} (hi : i < rs.length) : Rd l yL_size wsL_size 5 D Y [.ref x, .int (nI i)] H (nI (szR (gt rs i))) := by
  refine Rd.start (cc := cL_size) (maxL := 2) (rt := .int) (by decide) rfl (Nat.le_of_ble_eq_true rfl) ?_
  intro p e s m args below meth c ls Q S hK hl hE
  have S : CallFix p m c cL_size 2 s args wsL_size RL := S
  have hx := S.1
  have hb := S.2.1
  have hts := S.2.2.2.2
  have hl : lv_has ls 2 [(0, .ref (x)), (1, .int (nI (i)))] := hl
  have ho := hA.ok.2 i hi
  unfold rvOk at ho
  refine lv_aload_n hx hb dL_size_0 rfl (lv_at hl 0 rfl) ?_
  refine lv_iload_n hx hb dL_size_1 rfl (lv_at hl 1 rfl) ?_
  refine Rd.callV (r := (nI (100 * sF (gt rs (i)) + sT (gt rs (i))))) (As := [.int (nI (i))]) S (q_sources hA (i := i) (by omega)) (cwV 1 hts gL_size_X2_sources rfl rfl rfl (by decide +kernel) ⟨Nat.le_of_ble_eq_true rfl, Nat.le_of_ble_eq_true rfl⟩) hK (hA.recv hK) rfl hl.1 rfl (Nat.le_of_ble_eq_true rfl) dL_size_2 ⟨Nat.zero_le _, Nat.zero_le _⟩ ?_
  refine lv_bipush (v := (nI (100))) hx hb dL_size_5 (by decide +kernel) ?_
  refine nr_irem hx hb (by omega) (by omega) (by omega) dL_size_7 ?_
  refine nr_top (y := (nI (sT (gt rs i)))) (congrArg nI (by omega)) ?_
  refine lv_aload_n hx hb dL_size_8 rfl (lv_at hl 0 rfl) ?_
  refine lv_iload_n hx hb dL_size_9 rfl (lv_at hl 1 rfl) ?_
  refine Rd.callV (r := (nI (100 * sF (gt rs (i)) + sT (gt rs (i))))) (As := [.int (nI (i))]) S (q_sources hA (i := i) (by omega)) (cwV 1 hts gL_size_X2_sources rfl rfl rfl (by decide +kernel) ⟨Nat.le_of_ble_eq_true rfl, Nat.le_of_ble_eq_true rfl⟩) hK (hA.recv hK) rfl hl.1 rfl (Nat.le_of_ble_eq_true rfl) dL_size_10 ⟨Nat.zero_le _, Nat.zero_le _⟩ ?_
  refine lv_bipush (v := (nI (100))) hx hb dL_size_13 (by decide +kernel) ?_
  refine nr_idiv hx hb (by omega) (by omega) (by omega) dL_size_15 ?_
  refine nr_top (y := (nI (sF (gt rs i)))) (congrArg nI (by omega)) ?_
  refine nr_isub hx hb (by omega) dL_size_16 ?_
  refine lv_iconst (v := (nI (1))) hx hb dL_size_17 (by decide +kernel) ?_
  refine nr_iadd hx hb dL_size_18 ?_
  refine lv_aload_n hx hb dL_size_19 rfl (lv_at hl 0 rfl) ?_
  refine lv_iload_n hx hb dL_size_20 rfl (lv_at hl 1 rfl) ?_
  refine Rd.callV (r := (nI (100 * dF (gt rs (i)) + dT (gt rs (i))))) (As := [.int (nI (i))]) S (q_destinations hA (i := i) (by omega)) (cwV 1 hts gL_size_X2_destinations rfl rfl rfl (by decide +kernel) ⟨Nat.le_of_ble_eq_true rfl, Nat.le_of_ble_eq_true rfl⟩) hK (hA.recv hK) rfl hl.1 rfl (Nat.le_of_ble_eq_true rfl) dL_size_21 ⟨Nat.zero_le _, Nat.zero_le _⟩ ?_
  refine lv_bipush (v := (nI (100))) hx hb dL_size_24 (by decide +kernel) ?_
  refine nr_irem hx hb (by omega) (by omega) (by omega) dL_size_26 ?_
  refine nr_top (y := (nI (dT (gt rs i)))) (congrArg nI (by omega)) ?_
  refine lv_aload_n hx hb dL_size_27 rfl (lv_at hl 0 rfl) ?_
  refine lv_iload_n hx hb dL_size_28 rfl (lv_at hl 1 rfl) ?_
  refine Rd.callV (r := (nI (100 * dF (gt rs (i)) + dT (gt rs (i))))) (As := [.int (nI (i))]) S (q_destinations hA (i := i) (by omega)) (cwV 1 hts gL_size_X2_destinations rfl rfl rfl (by decide +kernel) ⟨Nat.le_of_ble_eq_true rfl, Nat.le_of_ble_eq_true rfl⟩) hK (hA.recv hK) rfl hl.1 rfl (Nat.le_of_ble_eq_true rfl) dL_size_29 ⟨Nat.zero_le _, Nat.zero_le _⟩ ?_
  refine lv_bipush (v := (nI (100))) hx hb dL_size_32 (by decide +kernel) ?_
  refine nr_idiv hx hb (by omega) (by omega) (by omega) dL_size_34 ?_
  refine nr_top (y := (nI (dF (gt rs i)))) (congrArg nI (by omega)) ?_
  refine nr_isub hx hb (by omega) dL_size_35 ?_
  refine lv_iconst (v := (nI (1))) hx hb dL_size_36 (by decide +kernel) ?_
  refine nr_iadd hx hb dL_size_37 ?_
  refine nr_imul hx hb dL_size_38 ?_
  refine lv_aload_n hx hb dL_size_39 rfl (lv_at hl 0 rfl) ?_
  refine lv_iload_n hx hb dL_size_40 rfl (lv_at hl 1 rfl) ?_
  refine Rd.callV (r := (nI (pR (gt rs (i))))) (As := [.int (nI (i))]) S (q_protocols hA (i := i) (by omega)) (cwV 1 hts gL_size_X2_protocols rfl rfl rfl (by decide +kernel) ⟨Nat.le_of_ble_eq_true rfl, Nat.le_of_ble_eq_true rfl⟩) hK (hA.recv hK) rfl hl.1 rfl (Nat.le_of_ble_eq_true rfl) dL_size_41 ⟨Nat.zero_le _, Nat.zero_le _⟩ ?_
  refine Rd.callS (r := nI (sumN (fun j => bN (bt (nI (pR (gt rs i))) j)) 4)) (As := [.int (nI (pR (gt rs (i))))]) S (k_L_many l) (va_cwS 1 hts gL_size_L_many rfl rfl rfl (by decide +kernel) ⟨Nat.le_of_ble_eq_true rfl, Nat.le_of_ble_eq_true rfl⟩) hK rfl hl.1 rfl (Nat.le_of_ble_eq_true rfl) dL_size_44 ⟨Nat.zero_le _, Nat.zero_le _⟩ ?_
  refine nr_imul hx hb dL_size_47 ?_
  exact hE _ _ _ dL_size_48 (vp_nar_int _) (rfl)
set_option maxHeartbeats 4000000 in
set_option maxRecDepth 100000 in
theorem k_L_areRulesSo (l : Launch) (hlt : l.stackTraces = false) {D : va_G} {Y : Nat → ClassId} {F G : Nat → Prop} {t0 la x na : Nat} {ju mi lo : Int32} {rs : List RV} {H0 : Heap} (v : Int32) (hC : CS D Y G t0 la x na ju mi lo rs H0) {avq : UInt32} (hq : avK avq = true) (hav : ∀ r, avR lo ju r → r = avq) : UD l yL_areRulesSo wsL_areRulesSo 12 16 96 D Y (eL t0 F F) [.ref (x), .int (v)] H0 F (Kp H0) (bI true) := by
  refine UD.start (cc := cL_areRulesSo) (maxL := 11) (rt := .boolean) (by decide) rfl (Nat.le_of_ble_eq_true rfl) ?_
  intro p e s m args below meth c ls Q Sd hK0 hH0 hE0 hS hl hE d0 hd0
  subst hH0
  have Sd : ∀ d : Drawn, CallFix p m c cL_areRulesSo 11 (s.setDrawn d) args wsL_areRulesSo RL := Sd
  have S := Sd d0
  have hx : p.tables.exec = Jvm.exec := S.1
  have hb := S.2.1
  have hts := S.2.2.2.2
  have hK : KK D Y (s.setDrawn d0) := hK0.drawn d0
  have hl : lv_has ls 11 [(0, .ref (x)), (1, .int (v))] := hl
  have hok := hC.ok
  have hn := hok.1
  refine lv_iconst (v := (nI (0))) hx hb dL_areRulesSo_0 (by decide +kernel) ?_
  refine lv_istore_n (lv' := [(2, .int (nI (0))), (0, .ref (x)), (1, .int (v))]) hx hb dL_areRulesSo_1 rfl hl (by decide) rfl (fun ls hl => ?_)
  refine lv_iconst (v := (nI (0))) hx hb dL_areRulesSo_2 (by decide +kernel) ?_
  refine lv_istore_n (lv' := [(3, .int (nI (0))), (2, .int (nI (0))), (0, .ref (x)), (1, .int (v))]) hx hb dL_areRulesSo_3 rfl hl (by decide) rfl (fun ls hl => ?_)
  refine lv_iconst (v := (nI (0))) hx hb dL_areRulesSo_4 (by decide +kernel) ?_
  refine lv_istore (lv' := [(4, .int (nI (0))), (3, .int (nI (0))), (2, .int (nI (0))), (0, .ref (x)), (1, .int (v))]) hx hb dL_areRulesSo_5 hl (by decide) rfl (fun ls hl => ?_)
  refine lv_iconst (v := (nI (1))) hx hb dL_areRulesSo_7 (by decide +kernel) ?_
  refine lv_istore (lv' := [(5, .int (nI (1))), (4, .int (nI (0))), (3, .int (nI (0))), (2, .int (nI (0))), (0, .ref (x)), (1, .int (v))]) hx hb dL_areRulesSo_8 hl (by decide) rfl (fun ls hl => ?_)
  refine lv_iconst (v := (nI (0))) hx hb dL_areRulesSo_10 (by decide +kernel) ?_
  refine lv_istore (lv' := [(6, .int (nI (0))), (5, .int (nI (1))), (4, .int (nI (0))), (3, .int (nI (0))), (2, .int (nI (0))), (0, .ref (x)), (1, .int (v))]) hx hb dL_areRulesSo_11 hl (by decide) rfl (fun ls hl => ?_)
  have hkp0 : Kp s.heap s.heap := Kp.rf
  have hcs : ∀ {g9 : JFrame} {H9 : Heap} {ls9 : List Loc}, W p l e (rmG 12 16 96) (s.setDrawn d0) m args below meth c H9 ls9 0 (6 * 0) Q g9 → W p l e (rmG 12 16 96) (s.setDrawn d0) m args below meth c H9 ls9 0 0 Q g9 := fun h => h
  have loop_13 : ∀ (fu_13 : Nat) (de pe en pl : Nat), (pl ≤ rs.length) → (de = sumN (fun i => dcN rs i) pl) → (pe = sumN (fun i => if pM (gt rs i) then dcN rs i else 0) pl) → (en = sumN (fun i => enN (gt rs i)) pl) → rs.length - pl < fu_13 → ∀ (H : Heap) (locs : List Loc), CS D Y G t0 la x na ju mi lo rs H → Kp s.heap H → va_S F s.heap H locs → ∀ ls : Array Slot, lv_has ls 11 [(6, .int (nI (pl))), (5, .int (nI (1))), (4, .int (nI (en))), (3, .int (nI (pe))), (2, .int (nI (de))), (0, .ref (x)), (1, .int (v))] → W p l e (rmG 12 16 96) (s.setDrawn d0) m args below meth c H locs (pl) (6 * pl) Q (F0 m 13 ls []) := by
    intro fu_13
    induction fu_13 with
    | zero => exact fun de pe en pl _ _ _ _ hk => absurd hk (Nat.not_lt_zero _)
    | succ fu_13 ih_13 =>
      intro de pe en pl h1 h2 h3 h4 hk_13 H locs hC hkp0 hS ls hl
      refine lv_iload hx hb dL_areRulesSo_13 (lv_at hl 0 rfl) ?_
      refine lv_aload_n hx hb dL_areRulesSo_15 rfl (lv_at hl 5 rfl) ?_
      refine Rd.callV (r := (nI (rs.length))) (As := []) S (q_rules hC.hd) (cwV 0 hts gL_areRulesSo_X2_rules rfl rfl rfl (by decide +kernel) ⟨Nat.le_of_ble_eq_true rfl, Nat.le_of_ble_eq_true rfl⟩) hK (hC.hd.recv hK) rfl hl.1 rfl (Nat.le_of_ble_eq_true rfl) dL_areRulesSo_16 ⟨(by show _ ≤ 16; omega), (by show _ ≤ 96; omega)⟩ ?_
      refine nr_icmp_ge (tgt := 286) hx hb (by omega) (by omega) dL_areRulesSo_19 (by decide) (fun c_19 => ?_) (fun c_19 => ?_)
      · have hpl : pl = rs.length := by omega
        have k1 := dc_all rs rs.length
        rw [hpl] at h2 h3 h4
        have k2 := pmT_dc rs (by omega)
        have k3 := pmT_le rs
        have k4 : sumN (fun k => enN (gt rs k)) rs.length ≤ 128 * rs.length := sumN_le rs.length (fun i hi => (enN_le (hok.2 i hi)).2)
        refine lv_iload hx hb dL_areRulesSo_286 (lv_at hl 1 rfl) ?_
        refine nr_if_eq (tgt := 338) hx hb (by omega) dL_areRulesSo_288 (by decide) (fun c_288 => absurd c_288 (by decide)) (fun c_288 => ?_)
        refine lv_iload_n hx hb dL_areRulesSo_291 rfl (lv_at hl 4 rfl) ?_
        refine lv_sipush (v := (nI (4096))) hx hb dL_areRulesSo_292 (by decide +kernel) ?_
        refine nr_icmp_gt (tgt := 338) hx hb (by omega) (by omega) dL_areRulesSo_295 (by decide) (fun c_295 => absurd c_295 (by omega)) (fun c_295 => ?_)
        refine lv_aload_n hx hb dL_areRulesSo_298 rfl (lv_at hl 5 rfl) ?_
        refine Rd.callV (r := (nI (pmT rs))) (As := []) S (q_permitted hC.hd) (cwV 0 hts gL_areRulesSo_X2_permitted rfl rfl rfl (by decide +kernel) ⟨Nat.le_of_ble_eq_true rfl, Nat.le_of_ble_eq_true rfl⟩) hK (hC.hd.recv hK) rfl hl.1 rfl (Nat.le_of_ble_eq_true rfl) dL_areRulesSo_299 ⟨(by show _ ≤ 16; omega), (by show _ ≤ 96; omega)⟩ ?_
        refine lv_iload_n hx hb dL_areRulesSo_302 rfl (lv_at hl 3 rfl) ?_
        refine nr_icmp_ne (tgt := 338) hx hb (by omega) (by omega) dL_areRulesSo_303 (by decide) (fun c_303 => absurd c_303 (by omega)) (fun c_303 => ?_)
        refine lv_aload_n hx hb dL_areRulesSo_306 rfl (lv_at hl 5 rfl) ?_
        refine Rd.callV (r := (nI (sumN (fun k => enN (gt rs k)) rs.length))) (As := []) S (q_allEntries hC.hd) (cwV 0 hts gL_areRulesSo_X2_allEntries rfl rfl rfl (by decide +kernel) ⟨Nat.le_of_ble_eq_true rfl, Nat.le_of_ble_eq_true rfl⟩) hK (hC.hd.recv hK) rfl hl.1 rfl (Nat.le_of_ble_eq_true rfl) dL_areRulesSo_307 ⟨(by show _ ≤ 16; omega), (by show _ ≤ 96; omega)⟩ ?_
        refine lv_iload hx hb dL_areRulesSo_310 (lv_at hl 2 rfl) ?_
        refine nr_icmp_ne (tgt := 338) hx hb (by omega) (by omega) dL_areRulesSo_312 (by decide) (fun c_312 => absurd c_312 (by omega)) (fun c_312 => ?_)
        refine lv_aload_n hx hb dL_areRulesSo_315 rfl (lv_at hl 5 rfl) ?_
        refine nr_avg hd0 S hC.hd (cwV 0 hts gL_areRulesSo_X2_averageLooks rfl rfl rfl (by decide +kernel) ⟨Nat.le_of_ble_eq_true rfl, Nat.le_of_ble_eq_true rfl⟩) hK hS hl.1 (Nat.le_of_ble_eq_true rfl) dL_areRulesSo_316 ⟨(by show _ ≤ 16; omega), (by show _ ≤ 96; omega)⟩ (fun av1 d1 locs ha1 hd1 hS => ?_)
        have av1e := hav av1 ha1
        subst av1e
        have S := Sd d1
        have hts := S.2.2.2.2
        have hK : KK D Y (s.setDrawn d1) := hK0.drawn d1
        refine lv_fconst0 hx hb dL_areRulesSo_319 ?_
        refine lv_fcmp hx hb dL_areRulesSo_320 ?_
        rcases (avK_at hq).2.1 with hq1 | hq1
        · rw [hq1]
          refine lv_if_lt (tgt := 338) hx hb dL_areRulesSo_321 (by decide) (fun z => absurd z (by decide +kernel)) (fun _ => ?_)
          refine lv_aload_n hx hb dL_areRulesSo_324 rfl (lv_at hl 5 rfl) ?_
          refine nr_avg hd1 S hC.hd (cwV 0 hts gL_areRulesSo_X2_averageLooks rfl rfl rfl (by decide +kernel) ⟨Nat.le_of_ble_eq_true rfl, Nat.le_of_ble_eq_true rfl⟩) hK hS hl.1 (Nat.le_of_ble_eq_true rfl) dL_areRulesSo_325 ⟨(by show _ ≤ 16; omega), (by show _ ≤ 96; omega)⟩ (fun av2 d2 locs ha2 hd2 hS => ?_)
          have av2e := hav av2 ha2
          subst av2e
          have S := Sd d2
          have hts := S.2.2.2.2
          have hK : KK D Y (s.setDrawn d2) := hK0.drawn d2
          refine lv_ldcf (v := f16) hx hb S.2.2.2.1 (hts _ (List.mem_of_getElem? (i := 1) rfl)) dL_areRulesSo_328 ?_
          refine lv_fcmp hx hb dL_areRulesSo_330 ?_
          rcases (avK_at hq).2.2 with hq2 | hq2
          · rw [hq2]
            refine lv_if_gt (tgt := 338) hx hb dL_areRulesSo_331 (by decide) (fun z => absurd z (by decide +kernel)) (fun _ => ?_)
            refine lv_iconst (v := (nI (1))) hx hb dL_areRulesSo_334 (by decide +kernel) ?_
            refine lv_goto (tgt := 339) hx hb dL_areRulesSo_335 (by decide) ?_
            refine W.widen (k := 16) (n := 96) (by omega) (by omega) ?_
            exact hE _ _ _ _ _ _ hd2 dL_areRulesSo_339 rfl rfl hkp0 hS
          · rw [hq2]
            refine lv_if_gt (tgt := 338) hx hb dL_areRulesSo_331 (by decide) (fun z => absurd z (by decide +kernel)) (fun _ => ?_)
            refine lv_iconst (v := (nI (1))) hx hb dL_areRulesSo_334 (by decide +kernel) ?_
            refine lv_goto (tgt := 339) hx hb dL_areRulesSo_335 (by decide) ?_
            refine W.widen (k := 16) (n := 96) (by omega) (by omega) ?_
            exact hE _ _ _ _ _ _ hd2 dL_areRulesSo_339 rfl rfl hkp0 hS
        · rw [hq1]
          refine lv_if_lt (tgt := 338) hx hb dL_areRulesSo_321 (by decide) (fun z => absurd z (by decide +kernel)) (fun _ => ?_)
          refine lv_aload_n hx hb dL_areRulesSo_324 rfl (lv_at hl 5 rfl) ?_
          refine nr_avg hd1 S hC.hd (cwV 0 hts gL_areRulesSo_X2_averageLooks rfl rfl rfl (by decide +kernel) ⟨Nat.le_of_ble_eq_true rfl, Nat.le_of_ble_eq_true rfl⟩) hK hS hl.1 (Nat.le_of_ble_eq_true rfl) dL_areRulesSo_325 ⟨(by show _ ≤ 16; omega), (by show _ ≤ 96; omega)⟩ (fun av2 d2 locs ha2 hd2 hS => ?_)
          have av2e := hav av2 ha2
          subst av2e
          have S := Sd d2
          have hts := S.2.2.2.2
          have hK : KK D Y (s.setDrawn d2) := hK0.drawn d2
          refine lv_ldcf (v := f16) hx hb S.2.2.2.1 (hts _ (List.mem_of_getElem? (i := 1) rfl)) dL_areRulesSo_328 ?_
          refine lv_fcmp hx hb dL_areRulesSo_330 ?_
          rcases (avK_at hq).2.2 with hq2 | hq2
          · rw [hq2]
            refine lv_if_gt (tgt := 338) hx hb dL_areRulesSo_331 (by decide) (fun z => absurd z (by decide +kernel)) (fun _ => ?_)
            refine lv_iconst (v := (nI (1))) hx hb dL_areRulesSo_334 (by decide +kernel) ?_
            refine lv_goto (tgt := 339) hx hb dL_areRulesSo_335 (by decide) ?_
            refine W.widen (k := 16) (n := 96) (by omega) (by omega) ?_
            exact hE _ _ _ _ _ _ hd2 dL_areRulesSo_339 rfl rfl hkp0 hS
          · rw [hq2]
            refine lv_if_gt (tgt := 338) hx hb dL_areRulesSo_331 (by decide) (fun z => absurd z (by decide +kernel)) (fun _ => ?_)
            refine lv_iconst (v := (nI (1))) hx hb dL_areRulesSo_334 (by decide +kernel) ?_
            refine lv_goto (tgt := 339) hx hb dL_areRulesSo_335 (by decide) ?_
            refine W.widen (k := 16) (n := 96) (by omega) (by omega) ?_
            exact hE _ _ _ _ _ _ hd2 dL_areRulesSo_339 rfl rfl hkp0 hS
      · refine lv_iload hx hb dL_areRulesSo_22 (lv_at hl 1 rfl) ?_
        refine nr_if_eq (tgt := 286) hx hb (by omega) dL_areRulesSo_24 (by decide) (fun c_24 => absurd c_24 (by decide)) (fun c_24 => ?_)
        have hrp := hok.2 pl (by omega)
        have f1 : szR (gt rs pl) = cmN (gt rs pl) (gt rs pl) := sz_cm hrp
        have f2 := dc_le rs pl
        have f3 := cm_max (gt rs pl) (gt rs pl)
        have f4 : cpN (gt rs pl) (gt rs pl) = cmN (gt rs pl) (gt rs pl) := cp_cm hrp hrp
        have f11 := enN_le hrp
        have f12 : pl = 0 → dcN rs pl = cmN (gt rs pl) (gt rs pl) := fun z => by rw [z]; exact dc_zero rs
        refine lv_aload_n hx hb dL_areRulesSo_27 rfl (lv_at hl 5 rfl) ?_
        refine lv_iload hx hb dL_areRulesSo_28 (lv_at hl 0 rfl) ?_
        refine Rd.callV (r := (nI (dcN rs (pl)))) (As := [.int (nI (pl))]) S (q_decides hC.hd (i := pl) (by omega)) (cwV 1 hts gL_areRulesSo_X2_decides rfl rfl rfl (by decide +kernel) ⟨Nat.le_of_ble_eq_true rfl, Nat.le_of_ble_eq_true rfl⟩) hK (hC.hd.recv hK) rfl hl.1 rfl (Nat.le_of_ble_eq_true rfl) dL_areRulesSo_30 ⟨(by show _ ≤ 16; omega), (by show _ ≤ 96; omega)⟩ ?_
        refine lv_istore (lv' := [(7, .int (nI (dcN rs (pl)))), (6, .int (nI (pl))), (5, .int (nI (1))), (4, .int (nI (en))), (3, .int (nI (pe))), (2, .int (nI (de))), (0, .ref (x)), (1, .int (v))]) hx hb dL_areRulesSo_33 hl (by decide) rfl (fun ls hl => ?_)
        refine lv_iload_n hx hb dL_areRulesSo_35 rfl (lv_at hl 7 rfl) ?_
        refine lv_iload hx hb dL_areRulesSo_36 (lv_at hl 1 rfl) ?_
        refine lv_ishr hx hb dL_areRulesSo_38 ?_
        refine lv_aload_n hx hb dL_areRulesSo_39 rfl (lv_at hl 6 rfl) ?_
        refine Rd.callV (r := (nI (rs.length))) (As := []) S (q_rules hC.hd) (cwV 0 hts gL_areRulesSo_X2_rules rfl rfl rfl (by decide +kernel) ⟨Nat.le_of_ble_eq_true rfl, Nat.le_of_ble_eq_true rfl⟩) hK (hC.hd.recv hK) rfl hl.1 rfl (Nat.le_of_ble_eq_true rfl) dL_areRulesSo_40 ⟨(by show _ ≤ 16; omega), (by show _ ≤ 96; omega)⟩ ?_
        obtain ⟨ot, hot, hlow⟩ : ∃ ot : Nat, ot < rs.length ∧ Rd l yL_low wsL_low 0 D Y [.int (((v) >>> ((nI (pl)) &&& 31))), .int (nI (rs.length))] H (nI ot) := ⟨_, lowN_lt _ (by omega), k_L_low l (by omega) (by omega)⟩
        refine Rd.callS (r := nI ot) (As := [.int (((v) >>> ((nI (pl)) &&& 31))), .int (nI (rs.length))]) S hlow (va_cwS 2 hts gL_areRulesSo_L_low rfl rfl rfl (by decide +kernel) ⟨Nat.le_of_ble_eq_true rfl, Nat.le_of_ble_eq_true rfl⟩) hK rfl hl.1 rfl (Nat.le_of_ble_eq_true rfl) dL_areRulesSo_43 ⟨(by show _ ≤ 16; omega), (by show _ ≤ 96; omega)⟩ ?_
        have hro := hok.2 ot hot
        have f5 : cpN (gt rs pl) (gt rs ot) = cmN (gt rs pl) (gt rs ot) := cp_cm hrp hro
        have f6 : cpN (gt rs ot) (gt rs pl) = cmN (gt rs pl) (gt rs ot) := (cp_cm hro hrp).trans (cm_comm _ _)
        have f7 : szR (gt rs ot) = cmN (gt rs ot) (gt rs ot) := sz_cm hro
        have f8 := cm_le (gt rs pl) (gt rs ot)
        have f9 := cm_le2 (gt rs pl) (gt rs ot)
        have f10 := cm_max (gt rs ot) (gt rs ot)
        refine lv_istore (lv' := [(8, .int (nI (ot))), (7, .int (nI (dcN rs (pl)))), (6, .int (nI (pl))), (5, .int (nI (1))), (4, .int (nI (en))), (3, .int (nI (pe))), (2, .int (nI (de))), (0, .ref (x)), (1, .int (v))]) hx hb dL_areRulesSo_46 hl (by decide) rfl (fun ls hl => ?_)
        refine lv_aload_n hx hb dL_areRulesSo_48 rfl (lv_at hl 7 rfl) ?_
        refine lv_iload hx hb dL_areRulesSo_49 (lv_at hl 2 rfl) ?_
        refine lv_iload hx hb dL_areRulesSo_51 (lv_at hl 0 rfl) ?_
        refine Rd.callV (r := (nI (cpN (gt rs (pl)) (gt rs (ot))))) (As := [.int (nI (pl)), .int (nI (ot))]) S (q_overlap hC.hd (i := pl) (j := ot) (by omega) (by omega)) (cwV 2 hts gL_areRulesSo_X2_overlap rfl rfl rfl (by decide +kernel) ⟨Nat.le_of_ble_eq_true rfl, Nat.le_of_ble_eq_true rfl⟩) hK (hC.hd.recv hK) rfl hl.1 rfl (Nat.le_of_ble_eq_true rfl) dL_areRulesSo_53 ⟨(by show _ ≤ 16; omega), (by show _ ≤ 96; omega)⟩ ?_
        refine lv_istore (lv' := [(9, .int (nI (cpN (gt rs (pl)) (gt rs (ot))))), (8, .int (nI (ot))), (7, .int (nI (dcN rs (pl)))), (6, .int (nI (pl))), (5, .int (nI (1))), (4, .int (nI (en))), (3, .int (nI (pe))), (2, .int (nI (de))), (0, .ref (x)), (1, .int (v))]) hx hb dL_areRulesSo_56 hl (by decide) rfl (fun ls hl => ?_)
        refine lv_aload_n hx hb dL_areRulesSo_58 rfl (lv_at hl 8 rfl) ?_
        refine lv_iload hx hb dL_areRulesSo_59 (lv_at hl 3 rfl) ?_
        obtain ⟨sh, hsh, hU⟩ := cl_shadow l hlt (rs := rs) (i := pl) (by omega)
        refine UC.callSW (As := [.ref x, .int (nI pl)]) S (hU D Y F t0 x ju mi lo H hC.hd) (vx_cwSW 2 hts gL_areRulesSo_L_shadowedBy rfl rfl rfl (by decide +kernel) ⟨Nat.le_of_ble_eq_true rfl, Nat.le_of_ble_eq_true rfl⟩) hK eL_bl (fun U hW hU9 => eL.step hE0 hS hW hU9) hS (fun q h => h) rfl hl.1 rfl (Nat.le_of_ble_eq_true rfl) dL_areRulesSo_61 ⟨(by show _ ≤ 16; omega), (by show _ ≤ 96; omega)⟩ (fun v9 H1 locs hB hS hsz hkp => ?_)
        obtain ⟨rfl, hB⟩ := hB
        have hC := hC.kp hB
        have hkp0 := hkp0.tr hB
        refine lv_istore (lv' := [(10, .int (sh)), (9, .int (nI (cpN (gt rs (pl)) (gt rs (ot))))), (8, .int (nI (ot))), (7, .int (nI (dcN rs (pl)))), (6, .int (nI (pl))), (5, .int (nI (1))), (4, .int (nI (en))), (3, .int (nI (pe))), (2, .int (nI (de))), (0, .ref (x)), (1, .int (v))]) hx hb dL_areRulesSo_64 hl (by decide) rfl (fun ls hl => ?_)
        refine lv_iload_n hx hb dL_areRulesSo_66 rfl (lv_at hl 8 rfl) ?_
        refine lv_iload hx hb dL_areRulesSo_67 (lv_at hl 3 rfl) ?_
        refine nr_iadd hx hb dL_areRulesSo_69 ?_
        refine lv_istore_n (lv' := [(2, .int (nI (de + (dcN rs (pl))))), (10, .int (sh)), (9, .int (nI (cpN (gt rs (pl)) (gt rs (ot))))), (8, .int (nI (ot))), (7, .int (nI (dcN rs (pl)))), (6, .int (nI (pl))), (5, .int (nI (1))), (4, .int (nI (en))), (3, .int (nI (pe))), (0, .ref (x)), (1, .int (v))]) hx hb dL_areRulesSo_70 rfl hl (by decide) rfl (fun ls hl => ?_)
        refine lv_iload_n hx hb dL_areRulesSo_71 rfl (lv_at hl 8 rfl) ?_
        refine lv_aload_n hx hb dL_areRulesSo_72 rfl (lv_at hl 9 rfl) ?_
        refine lv_iload hx hb dL_areRulesSo_73 (lv_at hl 5 rfl) ?_
        refine Rd.callV (r := (bI (pM (gt rs (pl))))) (As := [.int (nI (pl))]) S (q_permits hC.hd (i := pl) (by omega)) (cwV 1 hts gL_areRulesSo_X2_permits rfl rfl rfl (by decide +kernel) ⟨Nat.le_of_ble_eq_true rfl, Nat.le_of_ble_eq_true rfl⟩) hK (hC.hd.recv hK) rfl hl.1 rfl (Nat.le_of_ble_eq_true rfl) dL_areRulesSo_75 ⟨(by show _ ≤ 16; omega), (by show _ ≤ 96; omega)⟩ ?_
        refine nr_join (pc' := 88) (n := 11) (L := [(2, .int (nI (de + (dcN rs (pl))))), (10, .int (sh)), (9, .int (nI (cpN (gt rs (pl)) (gt rs (ot))))), (8, .int (nI (ot))), (7, .int (nI (dcN rs (pl)))), (6, .int (nI (pl))), (5, .int (nI (1))), (4, .int (nI (en))), (3, .int (nI (pe))), (0, .ref (x)), (1, .int (v))]) (st' := [.int (nI (sumN (fun i => if pM (gt rs i) then dcN rs i else 0) (pl + 1)))]) (fun ls hl => ?_) (fun J => ?_)
        · refine lv_istore_n (lv' := [(3, .int (nI (sumN (fun i => if pM (gt rs i) then dcN rs i else 0) (pl + 1)))), (2, .int (nI (de + (dcN rs (pl))))), (10, .int (sh)), (9, .int (nI (cpN (gt rs (pl)) (gt rs (ot))))), (8, .int (nI (ot))), (7, .int (nI (dcN rs (pl)))), (6, .int (nI (pl))), (5, .int (nI (1))), (4, .int (nI (en))), (0, .ref (x)), (1, .int (v))]) hx hb dL_areRulesSo_88 rfl hl (by decide) rfl (fun ls hl => ?_)
          refine lv_iload hx hb dL_areRulesSo_89 (lv_at hl 8 rfl) ?_
          refine lv_aload_n hx hb dL_areRulesSo_91 rfl (lv_at hl 9 rfl) ?_
          refine lv_iload hx hb dL_areRulesSo_92 (lv_at hl 6 rfl) ?_
          refine Rd.callV (r := (nI (enN (gt rs (pl))))) (As := [.int (nI (pl))]) S (q_entries hC.hd (i := pl) (by omega)) (cwV 1 hts gL_areRulesSo_X2_entries rfl rfl rfl (by decide +kernel) ⟨Nat.le_of_ble_eq_true rfl, Nat.le_of_ble_eq_true rfl⟩) hK (hC.hd.recv hK) rfl hl.1 rfl (Nat.le_of_ble_eq_true rfl) dL_areRulesSo_94 ⟨(by show _ ≤ 16; omega), (by show _ ≤ 96; omega)⟩ ?_
          refine nr_iadd hx hb dL_areRulesSo_97 ?_
          refine lv_istore (lv' := [(4, .int (nI (en + (enN (gt rs (pl)))))), (3, .int (nI (sumN (fun i => if pM (gt rs i) then dcN rs i else 0) (pl + 1)))), (2, .int (nI (de + (dcN rs (pl))))), (10, .int (sh)), (9, .int (nI (cpN (gt rs (pl)) (gt rs (ot))))), (8, .int (nI (ot))), (7, .int (nI (dcN rs (pl)))), (6, .int (nI (pl))), (5, .int (nI (1))), (0, .ref (x)), (1, .int (v))]) hx hb dL_areRulesSo_98 hl (by decide) rfl (fun ls hl => ?_)
          refine lv_iload hx hb dL_areRulesSo_100 (lv_at hl 6 rfl) ?_
          refine lv_if_lt (tgt := 277) hx hb dL_areRulesSo_102 (by decide) (fun c_102 => absurd c_102 (nI_pos (by omega))) (fun c_102 => ?_)
          refine lv_iload hx hb dL_areRulesSo_105 (lv_at hl 6 rfl) ?_
          refine lv_aload_n hx hb dL_areRulesSo_107 rfl (lv_at hl 9 rfl) ?_
          refine lv_iload hx hb dL_areRulesSo_108 (lv_at hl 7 rfl) ?_
          refine Rd.callS (r := nI (szR (gt rs (pl)))) (As := [.ref x, .int (nI (pl))]) S (k_L_size l hC.hd (i := pl) (by omega)) (va_cwS 2 hts gL_areRulesSo_L_size rfl rfl rfl (by decide +kernel) ⟨Nat.le_of_ble_eq_true rfl, Nat.le_of_ble_eq_true rfl⟩) hK rfl hl.1 rfl (Nat.le_of_ble_eq_true rfl) dL_areRulesSo_110 ⟨(by show _ ≤ 16; omega), (by show _ ≤ 96; omega)⟩ ?_
          refine nr_icmp_gt (tgt := 277) hx hb (by omega) (by omega) dL_areRulesSo_113 (by decide) (fun c_113 => absurd c_113 (by omega)) (fun c_113 => ?_)
          refine lv_iload hx hb dL_areRulesSo_116 (lv_at hl 7 rfl) ?_
          refine nr_join (pc' := 132) (n := 11) (L := [(4, .int (nI (en + (enN (gt rs (pl)))))), (3, .int (nI (sumN (fun i => if pM (gt rs i) then dcN rs i else 0) (pl + 1)))), (2, .int (nI (de + (dcN rs (pl))))), (10, .int (sh)), (9, .int (nI (cpN (gt rs (pl)) (gt rs (ot))))), (8, .int (nI (ot))), (7, .int (nI (dcN rs (pl)))), (6, .int (nI (pl))), (5, .int (nI (1))), (0, .ref (x)), (1, .int (v))]) (st' := []) (fun ls hl => ?_) (fun J => ?_)
          · refine lv_aload_n hx hb dL_areRulesSo_132 rfl (lv_at hl 9 rfl) ?_
            refine lv_iload hx hb dL_areRulesSo_133 (lv_at hl 7 rfl) ?_
            refine Rd.callV (r := (bI (decide (dcN rs (pl) = 0)))) (As := [.int (nI (pl))]) S (q_isShadowed hC.hd (i := pl) (by omega)) (cwV 1 hts gL_areRulesSo_X2_isShadowed rfl rfl rfl (by decide +kernel) ⟨Nat.le_of_ble_eq_true rfl, Nat.le_of_ble_eq_true rfl⟩) hK (hC.hd.recv hK) rfl hl.1 rfl (Nat.le_of_ble_eq_true rfl) dL_areRulesSo_135 ⟨(by show _ ≤ 16; omega), (by show _ ≤ 96; omega)⟩ ?_
            refine lv_iload hx hb dL_areRulesSo_138 (lv_at hl 6 rfl) ?_
            refine nr_is0 (t := 147) (j := 148) hx hb (by omega) dL_areRulesSo_140 (by decide) dL_areRulesSo_143 dL_areRulesSo_144 (by decide) dL_areRulesSo_147 rfl ?_
            refine nr_icmpB_ne (tgt := 277) hx hb dL_areRulesSo_148 (by decide) (fun c_148 => absurd c_148 (fun z => z rfl)) (fun c_148 => ?_)
            refine lv_iload hx hb dL_areRulesSo_151 (lv_at hl 6 rfl) ?_
            refine nr_join (pc' := 165) (n := 11) (L := [(4, .int (nI (en + (enN (gt rs (pl)))))), (3, .int (nI (sumN (fun i => if pM (gt rs i) then dcN rs i else 0) (pl + 1)))), (2, .int (nI (de + (dcN rs (pl))))), (10, .int (sh)), (9, .int (nI (cpN (gt rs (pl)) (gt rs (ot))))), (8, .int (nI (ot))), (7, .int (nI (dcN rs (pl)))), (6, .int (nI (pl))), (5, .int (nI (1))), (0, .ref (x)), (1, .int (v))]) (st' := []) (fun ls hl => ?_) (fun J => ?_)
            · refine lv_aload_n hx hb dL_areRulesSo_165 rfl (lv_at hl 9 rfl) ?_
              refine lv_iload hx hb dL_areRulesSo_166 (lv_at hl 7 rfl) ?_
              refine lv_iload hx hb dL_areRulesSo_168 (lv_at hl 7 rfl) ?_
              refine Rd.callV (r := (nI (cpN (gt rs (pl)) (gt rs (pl))))) (As := [.int (nI (pl)), .int (nI (pl))]) S (q_overlap hC.hd (i := pl) (j := pl) (by omega) (by omega)) (cwV 2 hts gL_areRulesSo_X2_overlap rfl rfl rfl (by decide +kernel) ⟨Nat.le_of_ble_eq_true rfl, Nat.le_of_ble_eq_true rfl⟩) hK (hC.hd.recv hK) rfl hl.1 rfl (Nat.le_of_ble_eq_true rfl) dL_areRulesSo_170 ⟨(by show _ ≤ 16; omega), (by show _ ≤ 96; omega)⟩ ?_
              refine lv_aload_n hx hb dL_areRulesSo_173 rfl (lv_at hl 9 rfl) ?_
              refine lv_iload hx hb dL_areRulesSo_174 (lv_at hl 7 rfl) ?_
              refine Rd.callS (r := nI (szR (gt rs (pl)))) (As := [.ref x, .int (nI (pl))]) S (k_L_size l hC.hd (i := pl) (by omega)) (va_cwS 2 hts gL_areRulesSo_L_size rfl rfl rfl (by decide +kernel) ⟨Nat.le_of_ble_eq_true rfl, Nat.le_of_ble_eq_true rfl⟩) hK rfl hl.1 rfl (Nat.le_of_ble_eq_true rfl) dL_areRulesSo_176 ⟨(by show _ ≤ 16; omega), (by show _ ≤ 96; omega)⟩ ?_
              refine nr_icmp_ne (tgt := 277) hx hb (by omega) (by omega) dL_areRulesSo_179 (by decide) (fun c_179 => absurd c_179 (by omega)) (fun c_179 => ?_)
              refine lv_iload hx hb dL_areRulesSo_182 (lv_at hl 4 rfl) ?_
              refine lv_aload_n hx hb dL_areRulesSo_184 rfl (lv_at hl 9 rfl) ?_
              refine lv_iload hx hb dL_areRulesSo_185 (lv_at hl 5 rfl) ?_
              refine lv_iload hx hb dL_areRulesSo_187 (lv_at hl 7 rfl) ?_
              refine Rd.callV (r := (nI (cpN (gt rs (ot)) (gt rs (pl))))) (As := [.int (nI (ot)), .int (nI (pl))]) S (q_overlap hC.hd (i := ot) (j := pl) (by omega) (by omega)) (cwV 2 hts gL_areRulesSo_X2_overlap rfl rfl rfl (by decide +kernel) ⟨Nat.le_of_ble_eq_true rfl, Nat.le_of_ble_eq_true rfl⟩) hK (hC.hd.recv hK) rfl hl.1 rfl (Nat.le_of_ble_eq_true rfl) dL_areRulesSo_189 ⟨(by show _ ≤ 16; omega), (by show _ ≤ 96; omega)⟩ ?_
              refine nr_icmp_ne (tgt := 277) hx hb (by omega) (by omega) dL_areRulesSo_192 (by decide) (fun c_192 => absurd c_192 (by omega)) (fun c_192 => ?_)
              refine lv_iload hx hb dL_areRulesSo_195 (lv_at hl 4 rfl) ?_
              refine lv_aload_n hx hb dL_areRulesSo_197 rfl (lv_at hl 9 rfl) ?_
              refine lv_iload hx hb dL_areRulesSo_198 (lv_at hl 7 rfl) ?_
              refine Rd.callS (r := nI (szR (gt rs (pl)))) (As := [.ref x, .int (nI (pl))]) S (k_L_size l hC.hd (i := pl) (by omega)) (va_cwS 2 hts gL_areRulesSo_L_size rfl rfl rfl (by decide +kernel) ⟨Nat.le_of_ble_eq_true rfl, Nat.le_of_ble_eq_true rfl⟩) hK rfl hl.1 rfl (Nat.le_of_ble_eq_true rfl) dL_areRulesSo_200 ⟨(by show _ ≤ 16; omega), (by show _ ≤ 96; omega)⟩ ?_
              refine nr_icmp_gt (tgt := 277) hx hb (by omega) (by omega) dL_areRulesSo_203 (by decide) (fun c_203 => absurd c_203 (by omega)) (fun c_203 => ?_)
              refine lv_iload hx hb dL_areRulesSo_206 (lv_at hl 4 rfl) ?_
              refine lv_aload_n hx hb dL_areRulesSo_208 rfl (lv_at hl 9 rfl) ?_
              refine lv_iload hx hb dL_areRulesSo_209 (lv_at hl 5 rfl) ?_
              refine Rd.callS (r := nI (szR (gt rs (ot)))) (As := [.ref x, .int (nI (ot))]) S (k_L_size l hC.hd (i := ot) (by omega)) (va_cwS 2 hts gL_areRulesSo_L_size rfl rfl rfl (by decide +kernel) ⟨Nat.le_of_ble_eq_true rfl, Nat.le_of_ble_eq_true rfl⟩) hK rfl hl.1 rfl (Nat.le_of_ble_eq_true rfl) dL_areRulesSo_211 ⟨(by show _ ≤ 16; omega), (by show _ ≤ 96; omega)⟩ ?_
              refine nr_icmp_gt (tgt := 277) hx hb (by omega) (by omega) dL_areRulesSo_214 (by decide) (fun c_214 => absurd c_214 (by omega)) (fun c_214 => ?_)
              refine lv_iload hx hb dL_areRulesSo_217 (lv_at hl 3 rfl) ?_
              refine nr_join (pc' := 251) (n := 11) (L := [(4, .int (nI (en + (enN (gt rs (pl)))))), (3, .int (nI (sumN (fun i => if pM (gt rs i) then dcN rs i else 0) (pl + 1)))), (2, .int (nI (de + (dcN rs (pl))))), (10, .int (sh)), (9, .int (nI (cpN (gt rs (pl)) (gt rs (ot))))), (8, .int (nI (ot))), (7, .int (nI (dcN rs (pl)))), (6, .int (nI (pl))), (5, .int (nI (1))), (0, .ref (x)), (1, .int (v))]) (st' := []) (fun ls hl => ?_) (fun J => ?_)
              · refine lv_aload_n hx hb dL_areRulesSo_251 rfl (lv_at hl 9 rfl) ?_
                refine lv_iload hx hb dL_areRulesSo_252 (lv_at hl 7 rfl) ?_
                refine Rd.callV (r := (nI (enN (gt rs (pl))))) (As := [.int (nI (pl))]) S (q_entries hC.hd (i := pl) (by omega)) (cwV 1 hts gL_areRulesSo_X2_entries rfl rfl rfl (by decide +kernel) ⟨Nat.le_of_ble_eq_true rfl, Nat.le_of_ble_eq_true rfl⟩) hK (hC.hd.recv hK) rfl hl.1 rfl (Nat.le_of_ble_eq_true rfl) dL_areRulesSo_254 ⟨(by show _ ≤ 16; omega), (by show _ ≤ 96; omega)⟩ ?_
                refine lv_iconst (v := (nI (1))) hx hb dL_areRulesSo_257 (by decide +kernel) ?_
                refine nr_icmp_lt (tgt := 277) hx hb (by omega) (by omega) dL_areRulesSo_258 (by decide) (fun c_258 => absurd c_258 (by omega)) (fun c_258 => ?_)
                refine lv_aload_n hx hb dL_areRulesSo_261 rfl (lv_at hl 9 rfl) ?_
                refine lv_iload hx hb dL_areRulesSo_262 (lv_at hl 7 rfl) ?_
                refine Rd.callV (r := (nI (enN (gt rs (pl))))) (As := [.int (nI (pl))]) S (q_entries hC.hd (i := pl) (by omega)) (cwV 1 hts gL_areRulesSo_X2_entries rfl rfl rfl (by decide +kernel) ⟨Nat.le_of_ble_eq_true rfl, Nat.le_of_ble_eq_true rfl⟩) hK (hC.hd.recv hK) rfl hl.1 rfl (Nat.le_of_ble_eq_true rfl) dL_areRulesSo_264 ⟨(by show _ ≤ 16; omega), (by show _ ≤ 96; omega)⟩ ?_
                refine lv_sipush (v := (nI (128))) hx hb dL_areRulesSo_267 (by decide +kernel) ?_
                refine nr_icmp_gt (tgt := 277) hx hb (by omega) (by omega) dL_areRulesSo_270 (by decide) (fun c_270 => absurd c_270 (by omega)) (fun c_270 => ?_)
                refine lv_iconst (v := (nI (1))) hx hb dL_areRulesSo_273 (by decide +kernel) ?_
                refine lv_goto (tgt := 278) hx hb dL_areRulesSo_274 (by decide) ?_
                refine lv_istore (lv' := [(5, .int (nI (1))), (4, .int (nI (en + (enN (gt rs (pl)))))), (3, .int (nI (sumN (fun i => if pM (gt rs i) then dcN rs i else 0) (pl + 1)))), (2, .int (nI (de + (dcN rs (pl))))), (10, .int (sh)), (9, .int (nI (cpN (gt rs (pl)) (gt rs (ot))))), (8, .int (nI (ot))), (7, .int (nI (dcN rs (pl)))), (6, .int (nI (pl))), (0, .ref (x)), (1, .int (v))]) hx hb dL_areRulesSo_278 hl (by decide) rfl (fun ls hl => ?_)
                refine lv_iinc (v := (nI (pl + 1))) (lv' := [(6, .int (nI (pl + 1))), (5, .int (nI (1))), (4, .int (nI (en + (enN (gt rs (pl)))))), (3, .int (nI (sumN (fun i => if pM (gt rs i) then dcN rs i else 0) (pl + 1)))), (2, .int (nI (de + (dcN rs (pl))))), (10, .int (sh)), (9, .int (nI (cpN (gt rs (pl)) (gt rs (ot))))), (8, .int (nI (ot))), (7, .int (nI (dcN rs (pl)))), (0, .ref (x)), (1, .int (v))]) hx hb dL_areRulesSo_280 hl (k := 8) rfl (nI_add _ _) (by decide) rfl (fun ls hl => ?_)
                refine lv_goto (tgt := 13) hx hb dL_areRulesSo_283 (by decide) ?_
                refine W.widen (k := pl + 1) (n := 6 * (pl + 1)) (by omega) (by omega) ?_
                exact ih_13 (de + (dcN rs (pl))) (sumN (fun i => if pM (gt rs i) then dcN rs i else 0) (pl + 1)) (en + (enN (gt rs (pl)))) (pl + 1) (by omega) (by rw [h2]; rfl) rfl (by rw [h4]; rfl) (by omega) _ _ hC hkp0 hS ls (lv_sub hl [0, 1, 2, 3, 4, 9, 10] rfl)
              · refine lv_if_lt (tgt := 251) hx hb dL_areRulesSo_219 (by decide) (fun _ => J ls (lv_sub hl [0, 1, 2, 3, 4, 5, 6, 7, 8, 9, 10] rfl)) (fun cz => ?_)
                have hsh : sh = -1 ∨ ∃ k, k < pl ∧ cvB (gt rs k) (gt rs pl) = true ∧ sh = nI k := hsh
                obtain ⟨k0, hk0, hcv, he0⟩ := Or.resolve_left hsh (fun z => cz (by rw [z]; decide))
                subst he0
                have g1 : dcN rs pl = 0 := dc_shadow hok hk0 (by omega) hcv
                have g2 : cpN (gt rs k0) (gt rs pl) = szR (gt rs pl) := by rw [cp_cm (hok.2 k0 (by omega)) hrp, cm_shadow (hok.2 k0 (by omega)) hrp hcv, f1]
                refine lv_iload hx hb dL_areRulesSo_222 (lv_at hl 3 rfl) ?_
                refine lv_iload hx hb dL_areRulesSo_224 (lv_at hl 7 rfl) ?_
                refine nr_icmp_ge (tgt := 277) hx hb (by omega) (by omega) dL_areRulesSo_226 (by decide) (fun c_226 => absurd c_226 (by omega)) (fun c_226 => ?_)
                refine lv_iload hx hb dL_areRulesSo_229 (lv_at hl 6 rfl) ?_
                refine nr_if_ne (tgt := 277) hx hb (by omega) dL_areRulesSo_231 (by decide) (fun c_231 => absurd c_231 (by omega)) (fun c_231 => ?_)
                refine lv_aload_n hx hb dL_areRulesSo_234 rfl (lv_at hl 9 rfl) ?_
                refine lv_iload hx hb dL_areRulesSo_235 (lv_at hl 3 rfl) ?_
                refine lv_iload hx hb dL_areRulesSo_237 (lv_at hl 7 rfl) ?_
                refine Rd.callV (r := (nI (cpN (gt rs (k0)) (gt rs (pl))))) (As := [.int (nI (k0)), .int (nI (pl))]) S (q_overlap hC.hd (i := k0) (j := pl) (by omega) (by omega)) (cwV 2 hts gL_areRulesSo_X2_overlap rfl rfl rfl (by decide +kernel) ⟨Nat.le_of_ble_eq_true rfl, Nat.le_of_ble_eq_true rfl⟩) hK (hC.hd.recv hK) rfl hl.1 rfl (Nat.le_of_ble_eq_true rfl) dL_areRulesSo_239 ⟨(by show _ ≤ 16; omega), (by show _ ≤ 96; omega)⟩ ?_
                refine lv_aload_n hx hb dL_areRulesSo_242 rfl (lv_at hl 9 rfl) ?_
                refine lv_iload hx hb dL_areRulesSo_243 (lv_at hl 7 rfl) ?_
                refine Rd.callS (r := nI (szR (gt rs (pl)))) (As := [.ref x, .int (nI (pl))]) S (k_L_size l hC.hd (i := pl) (by omega)) (va_cwS 2 hts gL_areRulesSo_L_size rfl rfl rfl (by decide +kernel) ⟨Nat.le_of_ble_eq_true rfl, Nat.le_of_ble_eq_true rfl⟩) hK rfl hl.1 rfl (Nat.le_of_ble_eq_true rfl) dL_areRulesSo_245 ⟨(by show _ ≤ 16; omega), (by show _ ≤ 96; omega)⟩ ?_
                refine nr_icmp_ne (tgt := 277) hx hb (by omega) (by omega) dL_areRulesSo_248 (by decide) (fun c_248 => absurd c_248 (by omega)) (fun c_248 => ?_)
                exact J ls (lv_sub hl [0, 1, 2, 3, 4, 5, 6, 7, 8, 9, 10] rfl)
            · refine lv_if_gt (tgt := 165) hx hb dL_areRulesSo_153 (by decide) (fun _ => J ls (lv_sub hl [0, 1, 2, 3, 4, 5, 6, 7, 8, 9, 10] rfl)) (fun cz => ?_)
              have cz : dcN rs (pl) = 0 := nI_n0 (by omega) cz
              refine lv_aload_n hx hb dL_areRulesSo_156 rfl (lv_at hl 9 rfl) ?_
              refine lv_iload hx hb dL_areRulesSo_157 (lv_at hl 7 rfl) ?_
              refine Rd.callV (r := (bI (ndB rs (pl)))) (As := [.int (nI (pl))]) S (q_isRedundant hC.hd (i := pl) (by omega)) (cwV 1 hts gL_areRulesSo_X2_isRedundant rfl rfl rfl (by decide +kernel) ⟨Nat.le_of_ble_eq_true rfl, Nat.le_of_ble_eq_true rfl⟩) hK (hC.hd.recv hK) rfl hl.1 rfl (Nat.le_of_ble_eq_true rfl) dL_areRulesSo_159 ⟨(by show _ ≤ 16; omega), (by show _ ≤ 96; omega)⟩ ?_
              refine nr_ifB_eq (tgt := 277) hx hb dL_areRulesSo_162 (by decide) (fun c_162 => absurd c_162 (fun z => absurd (z.symm.trans (nd_dc (by omega) (by omega) (by omega))) (by decide))) (fun c_162 => ?_)
              exact J ls (lv_sub hl [0, 1, 2, 3, 4, 5, 6, 7, 8, 9, 10] rfl)
          · refine lv_if_gt (tgt := 132) hx hb dL_areRulesSo_118 (by decide) (fun _ => J ls (lv_sub hl [0, 1, 2, 3, 4, 5, 6, 7, 8, 9, 10] rfl)) (fun cz => ?_)
            have cz : pl = 0 := nI_n0 (by omega) cz
            have f13 := f12 cz
            refine lv_iload hx hb dL_areRulesSo_121 (lv_at hl 6 rfl) ?_
            refine lv_aload_n hx hb dL_areRulesSo_123 rfl (lv_at hl 9 rfl) ?_
            refine lv_iload hx hb dL_areRulesSo_124 (lv_at hl 7 rfl) ?_
            refine Rd.callS (r := nI (szR (gt rs (pl)))) (As := [.ref x, .int (nI (pl))]) S (k_L_size l hC.hd (i := pl) (by omega)) (va_cwS 2 hts gL_areRulesSo_L_size rfl rfl rfl (by decide +kernel) ⟨Nat.le_of_ble_eq_true rfl, Nat.le_of_ble_eq_true rfl⟩) hK rfl hl.1 rfl (Nat.le_of_ble_eq_true rfl) dL_areRulesSo_126 ⟨(by show _ ≤ 16; omega), (by show _ ≤ 96; omega)⟩ ?_
            refine nr_icmp_ne (tgt := 277) hx hb (by omega) (by omega) dL_areRulesSo_129 (by decide) (fun c_129 => absurd c_129 (by omega)) (fun c_129 => ?_)
            exact J ls (lv_sub hl [0, 1, 2, 3, 4, 5, 6, 7, 8, 9, 10] rfl)
        · refine nr_ifB_eq (tgt := 86) hx hb dL_areRulesSo_78 (by decide) (fun cb => ?_) (fun cb => ?_)
          · refine lv_iconst (v := nI 0) hx hb dL_areRulesSo_86 (by decide +kernel) ?_
            refine nr_iadd hx hb dL_areRulesSo_87 ?_
            refine nr_top (y := nI (sumN (fun i => if pM (gt rs i) then dcN rs i else 0) (pl + 1))) (congrArg nI (by show _ = sumN (fun i => if pM (gt rs i) then dcN rs i else 0) pl + (if pM (gt rs pl) then dcN rs pl else 0); rw [h3, cb, if_neg (by decide)])) ?_
            exact J ls (lv_sub hl [0, 1, 2, 3, 4, 5, 6, 7, 8, 9, 10] rfl)
          · refine lv_iload hx hb dL_areRulesSo_81 (lv_at hl 4 rfl) ?_
            refine lv_goto (tgt := 87) hx hb dL_areRulesSo_83 (by decide) ?_
            refine nr_iadd hx hb dL_areRulesSo_87 ?_
            refine nr_top (y := nI (sumN (fun i => if pM (gt rs i) then dcN rs i else 0) (pl + 1))) (congrArg nI (by show _ = sumN (fun i => if pM (gt rs i) then dcN rs i else 0) pl + (if pM (gt rs pl) then dcN rs pl else 0); rw [h3, cb, if_pos rfl])) ?_
            exact J ls (lv_sub hl [0, 1, 2, 3, 4, 5, 6, 7, 8, 9, 10] rfl)
  exact hcs (loop_13 _ 0 0 0 0 (Nat.zero_le _) rfl rfl rfl (Nat.lt_succ_self _) _ _ hC hkp0 hS ls (lv_sub hl [0, 1, 2, 3, 4, 5, 6] rfl))
