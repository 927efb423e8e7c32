/-! act: what happens by a cell -/
set_option maxHeartbeats 4000000 in
set_option maxRecDepth 100000 in
theorem act_t (l : Launch) (v : Int32) {ju mi lo r ju2 mi2 lo2 : Int32} {rs rs2 : List RV} (hok : rsOk rs) {w a c0 pl hw b d0 pr q0 to : Nat} (h_w : w = lowN ((v) >>> ((nI (23)) &&& 31)) (8)) (h_a : a = lowN ((v) >>> ((nI (3)) &&& 31)) (36)) (h_c0 : c0 = lowN ((v) >>> ((nI (9)) &&& 31)) (36)) (h_pl : pl = lowN ((v) >>> ((nI (4)) &&& 31)) (20)) (h_hw : hw = lowN (v) (20)) (h_b : b = lowN ((v) >>> ((nI (6)) &&& 31)) (36)) (h_d0 : d0 = lowN ((v) >>> ((nI (12)) &&& 31)) (36)) (h_pr : pr = lowN ((v) >>> ((nI (14)) &&& 31)) (20)) (h_q0 : q0 = lowN ((v) >>> ((nI (15)) &&& 31)) (6)) (h_to : to = lowN ((v) >>> ((nI (8)) &&& 31)) (20)) (ho : w = 0) (hA : hw < 6 → Cl l yL_add wsL_add [.int (nI (a)), .int (nI (b)), .int (nI (c0)), .int (nI (d0)), .int (nI (pr + 0)), .int (bI (decide ((((v) >>> ((nI (18)) &&& 31)) &&& (nI (1))) = (nI (1)))))] ju mi lo rs r ju2 mi2 lo2 rs2) (hJ : 6 ≤ hw → hw < 14 → Cl l yL_judge wsL_judge [.int (nI (a)), .int (nI (c0)), .int (nI (q0))] ju mi lo rs r ju2 mi2 lo2 rs2) (hR : hw = 14 → Cl l yL_tends wsL_tends [.int (nI (1)), .int (nI (pl)), .int (nI (to))] ju mi lo rs r ju2 mi2 lo2 rs2) (hM : 14 < hw → hw < 18 → Cl l yL_tends wsL_tends [.int (nI (0)), .int (nI (pl)), .int (nI (to))] ju mi lo rs r ju2 mi2 lo2 rs2) (hSh : hw = 18 → Cl l yX2_shorten wsX2_shorten [] ju mi lo rs r ju2 mi2 lo2 rs2) (hSo : 18 < hw → Cl l yX2_sortByHits wsX2_sortByHits [] ju mi lo rs r ju2 mi2 lo2 rs2) {D : va_G} {Y : Nat → ClassId} {F : Nat → Prop} {t0 la x na : Nat} {H0 : Heap} (hC : CS D Y F t0 la x na ju mi lo rs H0) (hFr : ∀ q, H0.size ≤ q → F q) : UC l yL_act wsL_act 14 40 120 D Y (eL t0 F F) [.ref x, .int v] H0 F (bI_ r (CS D Y F t0 la x na ju2 mi2 lo2 rs2)) := by
  refine UCi.start (cc := cL_act) (maxL := 9) (rt := .int) (by decide) rfl (Nat.le_of_ble_eq_true rfl) ?_
  intro p e s m args below meth c ls H locs Q S hK hH0 hE0 hHH hS hl hin hE
  subst hH0
  subst hHH
  have S : CallFix p m c cL_act 9 s args wsL_act RL := S
  have hx := S.1
  have hb := S.2.1
  have hts := S.2.2.2.2
  have hn := hok.1
  have hl_w : w < 8 := by rw [h_w]; exact lowN_lt _ (by omega)
  have hl_a : a < 36 := by rw [h_a]; exact lowN_lt _ (by omega)
  have hl_c0 : c0 < 36 := by rw [h_c0]; exact lowN_lt _ (by omega)
  have hl_pl : pl < 20 := by rw [h_pl]; exact lowN_lt _ (by omega)
  have hl_hw : hw < 20 := by rw [h_hw]; exact lowN_lt _ (by omega)
  have hl_b : b < 36 := by rw [h_b]; exact lowN_lt _ (by omega)
  have hl_d0 : d0 < 36 := by rw [h_d0]; exact lowN_lt _ (by omega)
  have hl_pr : pr < 20 := by rw [h_pr]; exact lowN_lt _ (by omega)
  have hl_q0 : q0 < 6 := by rw [h_q0]; exact lowN_lt _ (by omega)
  have hl_to : to < 20 := by rw [h_to]; exact lowN_lt _ (by omega)
  have hl : lv_has ls 9 [(0, .ref (x)), (1, .int (v))] := hl
  refine lv_iload_n hx hb dL_act_0 rfl (lv_at hl 1 rfl) ?_
  refine lv_bipush (v := (nI (23))) hx hb dL_act_1 (by decide +kernel) ?_
  refine lv_ishr hx hb dL_act_3 ?_
  refine lv_bipush (v := (nI (8))) hx hb dL_act_4 (by decide +kernel) ?_
  refine Rd.callS (r := (nI (lowN (((v) >>> ((nI (23)) &&& 31))) (8)))) (As := [.int (((v) >>> ((nI (23)) &&& 31))), .int (nI (8))]) S (k_L_low l (v := (((v) >>> ((nI (23)) &&& 31)))) (n := 8) (by omega) (by omega)) (va_cwS 2 hts gL_act_L_low rfl rfl rfl (by decide +kernel) ⟨Nat.le_of_ble_eq_true rfl, Nat.le_of_ble_eq_true rfl⟩) hK rfl hl.1 rfl (Nat.le_of_ble_eq_true rfl) dL_act_6 ⟨Nat.le_of_ble_eq_true rfl, Nat.le_of_ble_eq_true rfl⟩ ?_
  refine nr_top (y := (nI (w))) (by rw [h_w]) ?_
  refine nr_if_ne (tgt := 16) hx hb (by omega) dL_act_9 (by decide) (fun c_9 => absurd c_9 (by omega)) (fun c_9 => ?_)
  refine lv_iconst (v := (nI (1))) hx hb dL_act_12 (by decide +kernel) ?_
  refine lv_goto (tgt := 17) hx hb dL_act_13 (by decide) ?_
  refine lv_istore_n (lv' := [(2, .int (nI (1))), (0, .ref (x)), (1, .int (v))]) hx hb dL_act_17 rfl hl (by decide) rfl (fun ls hl => ?_)
  refine lv_iload_n hx hb dL_act_18 rfl (lv_at hl 2 rfl) ?_
  refine lv_iconst (v := (nI (3))) hx hb dL_act_19 (by decide +kernel) ?_
  refine lv_ishr hx hb dL_act_20 ?_
  refine lv_iload_n hx hb dL_act_21 rfl (lv_at hl 0 rfl) ?_
  refine nr_if_eq (tgt := 30) hx hb (by omega) dL_act_22 (by decide) (fun c_22 => absurd c_22 (by decide)) (fun c_22 => ?_)
  refine lv_bipush (v := (nI (36))) hx hb dL_act_25 (by decide +kernel) ?_
  refine lv_goto (tgt := 32) hx hb dL_act_27 (by decide) ?_
  refine Rd.callS (r := (nI (lowN (((v) >>> ((nI (3)) &&& 31))) (36)))) (As := [.int (((v) >>> ((nI (3)) &&& 31))), .int (nI (36))]) S (k_L_low l (v := (((v) >>> ((nI (3)) &&& 31)))) (n := 36) (by omega) (by omega)) (va_cwS 2 hts gL_act_L_low rfl rfl rfl (by decide +kernel) ⟨Nat.le_of_ble_eq_true rfl, Nat.le_of_ble_eq_true rfl⟩) hK rfl hl.1 rfl (Nat.le_of_ble_eq_true rfl) dL_act_32 ⟨Nat.le_of_ble_eq_true rfl, Nat.le_of_ble_eq_true rfl⟩ ?_
  refine nr_top (y := (nI (a))) (by rw [h_a]) ?_
  refine lv_istore_n (lv' := [(3, .int (nI (a))), (2, .int (nI (1))), (0, .ref (x)), (1, .int (v))]) hx hb dL_act_35 rfl hl (by decide) rfl (fun ls hl => ?_)
  refine lv_iload_n hx hb dL_act_36 rfl (lv_at hl 1 rfl) ?_
  refine nr_if_eq (tgt := 52) hx hb (by omega) dL_act_37 (by decide) (fun c_37 => absurd c_37 (by decide)) (fun c_37 => ?_)
  refine lv_iload_n hx hb dL_act_40 rfl (lv_at hl 3 rfl) ?_
  refine lv_bipush (v := (nI (6))) hx hb dL_act_41 (by decide +kernel) ?_
  refine lv_ishr hx hb dL_act_43 ?_
  refine lv_bipush (v := (nI (36))) hx hb dL_act_44 (by decide +kernel) ?_
  refine Rd.callS (r := (nI (lowN (((v) >>> ((nI (6)) &&& 31))) (36)))) (As := [.int (((v) >>> ((nI (6)) &&& 31))), .int (nI (36))]) S (k_L_low l (v := (((v) >>> ((nI (6)) &&& 31)))) (n := 36) (by omega) (by omega)) (va_cwS 2 hts gL_act_L_low rfl rfl rfl (by decide +kernel) ⟨Nat.le_of_ble_eq_true rfl, Nat.le_of_ble_eq_true rfl⟩) hK rfl hl.1 rfl (Nat.le_of_ble_eq_true rfl) dL_act_46 ⟨Nat.le_of_ble_eq_true rfl, Nat.le_of_ble_eq_true rfl⟩ ?_
  refine nr_top (y := (nI (b))) (by rw [h_b]) ?_
  refine lv_goto (tgt := 65) hx hb dL_act_49 (by decide) ?_
  refine lv_istore (lv' := [(4, .int (nI (b))), (3, .int (nI (a))), (2, .int (nI (1))), (0, .ref (x)), (1, .int (v))]) hx hb dL_act_65 hl (by decide) rfl (fun ls hl => ?_)
  refine lv_iload_n hx hb dL_act_67 rfl (lv_at hl 4 rfl) ?_
  refine lv_bipush (v := (nI (9))) hx hb dL_act_68 (by decide +kernel) ?_
  refine lv_ishr hx hb dL_act_70 ?_
  refine lv_iload_n hx hb dL_act_71 rfl (lv_at hl 2 rfl) ?_
  refine nr_if_eq (tgt := 80) hx hb (by omega) dL_act_72 (by decide) (fun c_72 => absurd c_72 (by decide)) (fun c_72 => ?_)
  refine lv_bipush (v := (nI (36))) hx hb dL_act_75 (by decide +kernel) ?_
  refine lv_goto (tgt := 82) hx hb dL_act_77 (by decide) ?_
  refine Rd.callS (r := (nI (lowN (((v) >>> ((nI (9)) &&& 31))) (36)))) (As := [.int (((v) >>> ((nI (9)) &&& 31))), .int (nI (36))]) S (k_L_low l (v := (((v) >>> ((nI (9)) &&& 31)))) (n := 36) (by omega) (by omega)) (va_cwS 2 hts gL_act_L_low rfl rfl rfl (by decide +kernel) ⟨Nat.le_of_ble_eq_true rfl, Nat.le_of_ble_eq_true rfl⟩) hK rfl hl.1 rfl (Nat.le_of_ble_eq_true rfl) dL_act_82 ⟨Nat.le_of_ble_eq_true rfl, Nat.le_of_ble_eq_true rfl⟩ ?_
  refine nr_top (y := (nI (c0))) (by rw [h_c0]) ?_
  refine lv_istore (lv' := [(5, .int (nI (c0))), (4, .int (nI (b))), (3, .int (nI (a))), (2, .int (nI (1))), (0, .ref (x)), (1, .int (v))]) hx hb dL_act_85 hl (by decide) rfl (fun ls hl => ?_)
  refine lv_iload_n hx hb dL_act_87 rfl (lv_at hl 3 rfl) ?_
  refine nr_if_eq (tgt := 103) hx hb (by omega) dL_act_88 (by decide) (fun c_88 => absurd c_88 (by decide)) (fun c_88 => ?_)
  refine lv_iload_n hx hb dL_act_91 rfl (lv_at hl 5 rfl) ?_
  refine lv_bipush (v := (nI (12))) hx hb dL_act_92 (by decide +kernel) ?_
  refine lv_ishr hx hb dL_act_94 ?_
  refine lv_bipush (v := (nI (36))) hx hb dL_act_95 (by decide +kernel) ?_
  refine Rd.callS (r := (nI (lowN (((v) >>> ((nI (12)) &&& 31))) (36)))) (As := [.int (((v) >>> ((nI (12)) &&& 31))), .int (nI (36))]) S (k_L_low l (v := (((v) >>> ((nI (12)) &&& 31)))) (n := 36) (by omega) (by omega)) (va_cwS 2 hts gL_act_L_low rfl rfl rfl (by decide +kernel) ⟨Nat.le_of_ble_eq_true rfl, Nat.le_of_ble_eq_true rfl⟩) hK rfl hl.1 rfl (Nat.le_of_ble_eq_true rfl) dL_act_97 ⟨Nat.le_of_ble_eq_true rfl, Nat.le_of_ble_eq_true rfl⟩ ?_
  refine nr_top (y := (nI (d0))) (by rw [h_d0]) ?_
  refine lv_goto (tgt := 118) hx hb dL_act_100 (by decide) ?_
  refine lv_istore (lv' := [(6, .int (nI (d0))), (5, .int (nI (c0))), (4, .int (nI (b))), (3, .int (nI (a))), (2, .int (nI (1))), (0, .ref (x)), (1, .int (v))]) hx hb dL_act_118 hl (by decide) rfl (fun ls hl => ?_)
  refine lv_iload_n hx hb dL_act_120 rfl (lv_at hl 6 rfl) ?_
  refine lv_iconst (v := (nI (4))) hx hb dL_act_121 (by decide +kernel) ?_
  refine lv_ishr hx hb dL_act_122 ?_
  refine lv_iload_n hx hb dL_act_123 rfl (lv_at hl 4 rfl) ?_
  refine nr_if_eq (tgt := 132) hx hb (by omega) dL_act_124 (by decide) (fun c_124 => absurd c_124 (by decide)) (fun c_124 => ?_)
  refine lv_bipush (v := (nI (20))) hx hb dL_act_127 (by decide +kernel) ?_
  refine lv_goto (tgt := 138) hx hb dL_act_129 (by decide) ?_
  refine Rd.callS (r := (nI (lowN (((v) >>> ((nI (4)) &&& 31))) (20)))) (As := [.int (((v) >>> ((nI (4)) &&& 31))), .int (nI (20))]) S (k_L_low l (v := (((v) >>> ((nI (4)) &&& 31)))) (n := 20) (by omega) (by omega)) (va_cwS 2 hts gL_act_L_low rfl rfl rfl (by decide +kernel) ⟨Nat.le_of_ble_eq_true rfl, Nat.le_of_ble_eq_true rfl⟩) hK rfl hl.1 rfl (Nat.le_of_ble_eq_true rfl) dL_act_138 ⟨Nat.le_of_ble_eq_true rfl, Nat.le_of_ble_eq_true rfl⟩ ?_
  refine nr_top (y := (nI (pl))) (by rw [h_pl]) ?_
  refine lv_istore (lv' := [(7, .int (nI (pl))), (6, .int (nI (d0))), (5, .int (nI (c0))), (4, .int (nI (b))), (3, .int (nI (a))), (2, .int (nI (1))), (0, .ref (x)), (1, .int (v))]) hx hb dL_act_141 hl (by decide) rfl (fun ls hl => ?_)
  refine lv_iload_n hx hb dL_act_143 rfl (lv_at hl 7 rfl) ?_
  refine lv_bipush (v := (nI (20))) hx hb dL_act_144 (by decide +kernel) ?_
  refine Rd.callS (r := (nI (lowN (v) (20)))) (As := [.int (v), .int (nI (20))]) S (k_L_low l (v := (v)) (n := 20) (by omega) (by omega)) (va_cwS 2 hts gL_act_L_low rfl rfl rfl (by decide +kernel) ⟨Nat.le_of_ble_eq_true rfl, Nat.le_of_ble_eq_true rfl⟩) hK rfl hl.1 rfl (Nat.le_of_ble_eq_true rfl) dL_act_146 ⟨Nat.le_of_ble_eq_true rfl, Nat.le_of_ble_eq_true rfl⟩ ?_
  refine nr_top (y := (nI (hw))) (by rw [h_hw]) ?_
  refine lv_istore (lv' := [(8, .int (nI (hw))), (7, .int (nI (pl))), (6, .int (nI (d0))), (5, .int (nI (c0))), (4, .int (nI (b))), (3, .int (nI (a))), (2, .int (nI (1))), (0, .ref (x)), (1, .int (v))]) hx hb dL_act_149 hl (by decide) rfl (fun ls hl => ?_)
  refine lv_iload hx hb dL_act_151 (lv_at hl 0 rfl) ?_
  refine lv_bipush (v := (nI (6))) hx hb dL_act_153 (by decide +kernel) ?_
  refine nr_icmp_ge (tgt := 213) hx hb (by omega) (by omega) dL_act_155 (by decide) (fun c_155 => ?_) (fun c_155 => ?_)
  · refine lv_iload hx hb dL_act_213 (lv_at hl 0 rfl) ?_
    refine lv_bipush (v := (nI (14))) hx hb dL_act_215 (by decide +kernel) ?_
    refine nr_icmp_ge (tgt := 245) hx hb (by omega) (by omega) dL_act_217 (by decide) (fun c_217 => ?_) (fun c_217 => ?_)
    · refine lv_iload hx hb dL_act_245 (lv_at hl 0 rfl) ?_
      refine lv_bipush (v := (nI (18))) hx hb dL_act_247 (by decide +kernel) ?_
      refine nr_icmp_ge (tgt := 295) hx hb (by omega) (by omega) dL_act_249 (by decide) (fun c_249 => ?_) (fun c_249 => ?_)
      · refine lv_iload hx hb dL_act_295 (lv_at hl 0 rfl) ?_
        refine lv_bipush (v := (nI (18))) hx hb dL_act_297 (by decide +kernel) ?_
        refine nr_icmp_ne (tgt := 309) hx hb (by omega) (by omega) dL_act_299 (by decide) (fun c_299 => ?_) (fun c_299 => ?_)
        · refine lv_aload_n hx hb dL_act_309 rfl (lv_at hl 7 rfl) ?_
          obtain ⟨dd, mc, ms, hbd, hU⟩ := hSo (by omega) D Y F t0 la x na _ hC hFr
          refine UC.callV (As := []) S hU (cwV 0 hts gL_act_X2_sortByHits rfl rfl rfl (by decide +kernel) ⟨(by show dd + 1 ≤ 14; omega), (by show 8 + (4 + 11) + 40 * dd ≤ 40 * 14; omega)⟩) hK eL_bl (fun U hW hU9 => eL.step hE0 hS hW hU9) hS (fun q h => h) (hC.hd.recv hK) rfl hl.1 rfl (Nat.le_of_ble_eq_true rfl) dL_act_310 ⟨(by show 0 + mc ≤ 40; omega), (by show 0 + ms ≤ 120; omega)⟩ (fun v9 H1 locs hB hS hsz hkp => ?_)
          obtain ⟨rfl, hB⟩ := hB
          refine W.widen (k := 40) (n := 120) (by omega) (by omega) ?_
          exact hE _ _ _ _ _ dL_act_313 (vp_nar_int _) rfl hB hS
        · refine lv_aload_n hx hb dL_act_302 rfl (lv_at hl 7 rfl) ?_
          obtain ⟨dd, mc, ms, hbd, hU⟩ := hSh (by omega) D Y F t0 la x na _ hC hFr
          refine UC.callV (As := []) S hU (cwV 0 hts gL_act_X2_shorten rfl rfl rfl (by decide +kernel) ⟨(by show dd + 1 ≤ 14; omega), (by show 8 + (4 + 11) + 40 * dd ≤ 40 * 14; omega)⟩) hK eL_bl (fun U hW hU9 => eL.step hE0 hS hW hU9) hS (fun q h => h) (hC.hd.recv hK) rfl hl.1 rfl (Nat.le_of_ble_eq_true rfl) dL_act_303 ⟨(by show 0 + mc ≤ 40; omega), (by show 0 + ms ≤ 120; omega)⟩ (fun v9 H1 locs hB hS hsz hkp => ?_)
          obtain ⟨rfl, hB⟩ := hB
          refine W.widen (k := 40) (n := 120) (by omega) (by omega) ?_
          refine lv_goto (tgt := 313) hx hb dL_act_306 (by decide) ?_
          exact hE _ _ _ _ _ dL_act_313 (vp_nar_int _) rfl hB hS
      · refine lv_aload_n hx hb dL_act_252 rfl (lv_at hl 7 rfl) ?_
        refine lv_iload hx hb dL_act_253 (lv_at hl 0 rfl) ?_
        refine lv_bipush (v := (nI (14))) hx hb dL_act_255 (by decide +kernel) ?_
        refine nr_icmp_ne (tgt := 264) hx hb (by omega) (by omega) dL_act_257 (by decide) (fun c_257 => ?_) (fun c_257 => ?_)
        · refine lv_iconst (v := (nI (0))) hx hb dL_act_264 (by decide +kernel) ?_
          refine lv_iload hx hb dL_act_265 (lv_at hl 1 rfl) ?_
          refine lv_iload_n hx hb dL_act_267 rfl (lv_at hl 8 rfl) ?_
          refine lv_bipush (v := (nI (8))) hx hb dL_act_268 (by decide +kernel) ?_
          refine lv_ishr hx hb dL_act_270 ?_
          refine lv_iload_n hx hb dL_act_271 rfl (lv_at hl 6 rfl) ?_
          refine nr_if_eq (tgt := 280) hx hb (by omega) dL_act_272 (by decide) (fun c_272 => absurd c_272 (by decide)) (fun c_272 => ?_)
          refine lv_bipush (v := (nI (20))) hx hb dL_act_275 (by decide +kernel) ?_
          refine lv_goto (tgt := 286) hx hb dL_act_277 (by decide) ?_
          refine Rd.callS (r := (nI (lowN (((v) >>> ((nI (8)) &&& 31))) (20)))) (As := [.int (((v) >>> ((nI (8)) &&& 31))), .int (nI (20))]) S (k_L_low l (v := (((v) >>> ((nI (8)) &&& 31)))) (n := 20) (by omega) (by omega)) (va_cwS 2 hts gL_act_L_low rfl rfl rfl (by decide +kernel) ⟨Nat.le_of_ble_eq_true rfl, Nat.le_of_ble_eq_true rfl⟩) hK rfl hl.1 rfl (Nat.le_of_ble_eq_true rfl) dL_act_286 ⟨Nat.le_of_ble_eq_true rfl, Nat.le_of_ble_eq_true rfl⟩ ?_
          refine nr_top (y := (nI (to))) (by rw [h_to]) ?_
          obtain ⟨dd, mc, ms, hbd, hU⟩ := hM (by omega) (by omega) D Y F t0 la x na _ hC hFr
          refine UC.callSW (As := .ref x :: [.int (nI (0)), .int (nI (pl)), .int (nI (to))]) S hU (vx_cwSW 4 hts gL_act_L_tends rfl rfl rfl (by decide +kernel) ⟨(by show dd + 1 ≤ 14; omega), (by show 8 + (5 + 11) + 40 * dd ≤ 40 * 14; omega)⟩) hK eL_bl (fun U hW hU9 => eL.step hE0 hS hW hU9) hS (fun q h => h) rfl hl.1 rfl (Nat.le_of_ble_eq_true rfl) dL_act_289 ⟨(by show 0 + mc ≤ 40; omega), (by show 0 + ms ≤ 120; omega)⟩ (fun v9 H1 locs hB hS hsz hkp => ?_)
          obtain ⟨rfl, hB⟩ := hB
          refine W.widen (k := 40) (n := 120) (by omega) (by omega) ?_
          refine lv_goto (tgt := 313) hx hb dL_act_292 (by decide) ?_
          exact hE _ _ _ _ _ dL_act_313 (vp_nar_int _) rfl hB hS
        · refine lv_iconst (v := (nI (1))) hx hb dL_act_260 (by decide +kernel) ?_
          refine lv_goto (tgt := 265) hx hb dL_act_261 (by decide) ?_
          refine lv_iload hx hb dL_act_265 (lv_at hl 1 rfl) ?_
          refine lv_iload_n hx hb dL_act_267 rfl (lv_at hl 8 rfl) ?_
          refine lv_bipush (v := (nI (8))) hx hb dL_act_268 (by decide +kernel) ?_
          refine lv_ishr hx hb dL_act_270 ?_
          refine lv_iload_n hx hb dL_act_271 rfl (lv_at hl 6 rfl) ?_
          refine nr_if_eq (tgt := 280) hx hb (by omega) dL_act_272 (by decide) (fun c_272 => absurd c_272 (by decide)) (fun c_272 => ?_)
          refine lv_bipush (v := (nI (20))) hx hb dL_act_275 (by decide +kernel) ?_
          refine lv_goto (tgt := 286) hx hb dL_act_277 (by decide) ?_
          refine Rd.callS (r := (nI (lowN (((v) >>> ((nI (8)) &&& 31))) (20)))) (As := [.int (((v) >>> ((nI (8)) &&& 31))), .int (nI (20))]) S (k_L_low l (v := (((v) >>> ((nI (8)) &&& 31)))) (n := 20) (by omega) (by omega)) (va_cwS 2 hts gL_act_L_low rfl rfl rfl (by decide +kernel) ⟨Nat.le_of_ble_eq_true rfl, Nat.le_of_ble_eq_true rfl⟩) hK rfl hl.1 rfl (Nat.le_of_ble_eq_true rfl) dL_act_286 ⟨Nat.le_of_ble_eq_true rfl, Nat.le_of_ble_eq_true rfl⟩ ?_
          refine nr_top (y := (nI (to))) (by rw [h_to]) ?_
          obtain ⟨dd, mc, ms, hbd, hU⟩ := hR (by omega) D Y F t0 la x na _ hC hFr
          refine UC.callSW (As := .ref x :: [.int (nI (1)), .int (nI (pl)), .int (nI (to))]) S hU (vx_cwSW 4 hts gL_act_L_tends rfl rfl rfl (by decide +kernel) ⟨(by show dd + 1 ≤ 14; omega), (by show 8 + (5 + 11) + 40 * dd ≤ 40 * 14; omega)⟩) hK eL_bl (fun U hW hU9 => eL.step hE0 hS hW hU9) hS (fun q h => h) rfl hl.1 rfl (Nat.le_of_ble_eq_true rfl) dL_act_289 ⟨(by show 0 + mc ≤ 40; omega), (by show 0 + ms ≤ 120; omega)⟩ (fun v9 H1 locs hB hS hsz hkp => ?_)
          obtain ⟨rfl, hB⟩ := hB
          refine W.widen (k := 40) (n := 120) (by omega) (by omega) ?_
          refine lv_goto (tgt := 313) hx hb dL_act_292 (by decide) ?_
          exact hE _ _ _ _ _ dL_act_313 (vp_nar_int _) rfl hB hS
    · refine lv_aload_n hx hb dL_act_220 rfl (lv_at hl 7 rfl) ?_
      refine lv_iload_n hx hb dL_act_221 rfl (lv_at hl 5 rfl) ?_
      refine lv_iload hx hb dL_act_222 (lv_at hl 3 rfl) ?_
      refine lv_iload_n hx hb dL_act_224 rfl (lv_at hl 8 rfl) ?_
      refine lv_bipush (v := (nI (15))) hx hb dL_act_225 (by decide +kernel) ?_
      refine lv_ishr hx hb dL_act_227 ?_
      refine lv_iload_n hx hb dL_act_228 rfl (lv_at hl 6 rfl) ?_
      refine nr_if_eq (tgt := 237) hx hb (by omega) dL_act_229 (by decide) (fun c_229 => absurd c_229 (by decide)) (fun c_229 => ?_)
      refine lv_bipush (v := (nI (6))) hx hb dL_act_232 (by decide +kernel) ?_
      refine lv_goto (tgt := 238) hx hb dL_act_234 (by decide) ?_
      refine Rd.callS (r := (nI (lowN (((v) >>> ((nI (15)) &&& 31))) (6)))) (As := [.int (((v) >>> ((nI (15)) &&& 31))), .int (nI (6))]) S (k_L_low l (v := (((v) >>> ((nI (15)) &&& 31)))) (n := 6) (by omega) (by omega)) (va_cwS 2 hts gL_act_L_low rfl rfl rfl (by decide +kernel) ⟨Nat.le_of_ble_eq_true rfl, Nat.le_of_ble_eq_true rfl⟩) hK rfl hl.1 rfl (Nat.le_of_ble_eq_true rfl) dL_act_238 ⟨Nat.le_of_ble_eq_true rfl, Nat.le_of_ble_eq_true rfl⟩ ?_
      refine nr_top (y := (nI (q0))) (by rw [h_q0]) ?_
      obtain ⟨dd, mc, ms, hbd, hU⟩ := hJ (by omega) (by omega) D Y F t0 la x na _ hC hFr
      refine UC.callSW (As := .ref x :: [.int (nI (a)), .int (nI (c0)), .int (nI (q0))]) S hU (vx_cwSW 4 hts gL_act_L_judge rfl rfl rfl (by decide +kernel) ⟨(by show dd + 1 ≤ 14; omega), (by show 8 + (5 + 11) + 40 * dd ≤ 40 * 14; omega)⟩) hK eL_bl (fun U hW hU9 => eL.step hE0 hS hW hU9) hS (fun q h => h) rfl hl.1 rfl (Nat.le_of_ble_eq_true rfl) dL_act_241 ⟨(by show 0 + mc ≤ 40; omega), (by show 0 + ms ≤ 120; omega)⟩ (fun v9 H1 locs hB hS hsz hkp => ?_)
      obtain ⟨rfl, hB⟩ := hB
      refine W.widen (k := 40) (n := 120) (by omega) (by omega) ?_
      exact hE _ _ _ _ _ dL_act_244 (vp_nar_int _) rfl hB hS
  · refine lv_aload_n hx hb dL_act_158 rfl (lv_at hl 7 rfl) ?_
    refine lv_iload_n hx hb dL_act_159 rfl (lv_at hl 5 rfl) ?_
    refine lv_iload hx hb dL_act_160 (lv_at hl 4 rfl) ?_
    refine lv_iload hx hb dL_act_162 (lv_at hl 3 rfl) ?_
    refine lv_iload hx hb dL_act_164 (lv_at hl 2 rfl) ?_
    refine lv_iload_n hx hb dL_act_166 rfl (lv_at hl 8 rfl) ?_
    refine lv_bipush (v := (nI (14))) hx hb dL_act_167 (by decide +kernel) ?_
    refine lv_ishr hx hb dL_act_169 ?_
    refine lv_iload_n hx hb dL_act_170 rfl (lv_at hl 6 rfl) ?_
    refine nr_if_eq (tgt := 179) hx hb (by omega) dL_act_171 (by decide) (fun c_171 => absurd c_171 (by decide)) (fun c_171 => ?_)
    refine lv_bipush (v := (nI (20))) hx hb dL_act_174 (by decide +kernel) ?_
    refine lv_goto (tgt := 181) hx hb dL_act_176 (by decide) ?_
    refine Rd.callS (r := (nI (lowN (((v) >>> ((nI (14)) &&& 31))) (20)))) (As := [.int (((v) >>> ((nI (14)) &&& 31))), .int (nI (20))]) S (k_L_low l (v := (((v) >>> ((nI (14)) &&& 31)))) (n := 20) (by omega) (by omega)) (va_cwS 2 hts gL_act_L_low rfl rfl rfl (by decide +kernel) ⟨Nat.le_of_ble_eq_true rfl, Nat.le_of_ble_eq_true rfl⟩) hK rfl hl.1 rfl (Nat.le_of_ble_eq_true rfl) dL_act_181 ⟨Nat.le_of_ble_eq_true rfl, Nat.le_of_ble_eq_true rfl⟩ ?_
    refine nr_top (y := (nI (pr))) (by rw [h_pr]) ?_
    refine lv_iload_n hx hb dL_act_184 rfl (lv_at hl 6 rfl) ?_
    refine nr_if_eq (tgt := 192) hx hb (by omega) dL_act_185 (by decide) (fun c_185 => absurd c_185 (by decide)) (fun c_185 => ?_)
    refine lv_iconst (v := (nI (0))) hx hb dL_act_188 (by decide +kernel) ?_
    refine lv_goto (tgt := 193) hx hb dL_act_189 (by decide) ?_
    refine nr_iadd hx hb dL_act_193 ?_
    refine lv_iload_n hx hb dL_act_194 rfl (lv_at hl 8 rfl) ?_
    refine lv_bipush (v := (nI (18))) hx hb dL_act_195 (by decide +kernel) ?_
    refine lv_ishr hx hb dL_act_197 ?_
    refine lv_iconst (v := (nI (1))) hx hb dL_act_198 (by decide +kernel) ?_
    refine lv_iand hx hb dL_act_199 ?_
    refine lv_iconst (v := (nI (1))) hx hb dL_act_200 (by decide +kernel) ?_
    refine nr_isE (t := 208) (j := 209) hx hb dL_act_201 (by decide) dL_act_204 dL_act_205 (by decide) dL_act_208 rfl ?_
    obtain ⟨dd, mc, ms, hbd, hU⟩ := hA (by omega) D Y F t0 la x na _ hC hFr
    refine UC.callSW (As := .ref x :: [.int (nI (a)), .int (nI (b)), .int (nI (c0)), .int (nI (d0)), .int (nI (pr + 0)), .int (bI (decide ((((((v) >>> ((nI (18)) &&& 31))) &&& (nI (1)))) = (nI (1)))))]) S hU (vx_cwSW 7 hts gL_act_L_add rfl rfl rfl (by decide +kernel) ⟨(by show dd + 1 ≤ 14; omega), (by show 8 + (8 + 11) + 40 * dd ≤ 40 * 14; omega)⟩) hK eL_bl (fun U hW hU9 => eL.step hE0 hS hW hU9) hS (fun q h => h) rfl hl.1 rfl (Nat.le_of_ble_eq_true rfl) dL_act_209 ⟨(by show 0 + mc ≤ 40; omega), (by show 0 + ms ≤ 120; omega)⟩ (fun v9 H1 locs hB hS hsz hkp => ?_)
    obtain ⟨rfl, hB⟩ := hB
    refine W.widen (k := 40) (n := 120) (by omega) (by omega) ?_
    exact hE _ _ _ _ _ dL_act_212 (vp_nar_int _) rfl hB hS
set_option maxHeartbeats 4000000 in
set_option maxRecDepth 100000 in
theorem act_f (l : Launch) (v : Int32) {ju mi lo r ju2 mi2 lo2 : Int32} {rs rs2 : List RV} (hok : rsOk rs) {w a c0 pl hw b d0 pr q0 to : Nat} (h_w : w = lowN ((v) >>> ((nI (23)) &&& 31)) (8)) (h_a : a = lowN ((v) >>> ((nI (3)) &&& 31)) (32)) (h_c0 : c0 = lowN ((v) >>> ((nI (9)) &&& 31)) (32)) (h_pl : pl = lowN ((v) >>> ((nI (4)) &&& 31)) (rs.length + 1)) (h_hw : hw = lowN (v) (20)) (h_b : b = lowN ((v) >>> ((nI (6)) &&& 31)) (32 - a)) (h_d0 : d0 = lowN ((v) >>> ((nI (12)) &&& 31)) (32 - c0)) (h_pr : pr = lowN ((v) >>> ((nI (14)) &&& 31)) (15)) (h_q0 : q0 = lowN ((v) >>> ((nI (15)) &&& 31)) (4)) (h_to : to = lowN ((v) >>> ((nI (8)) &&& 31)) (rs.length + 1)) (ho : ¬ w = 0) (hA : hw < 6 → Cl l yL_add wsL_add [.int (nI (a)), .int (nI (a + b)), .int (nI (c0)), .int (nI (c0 + d0)), .int (nI (pr + 1)), .int (bI (decide ((((v) >>> ((nI (18)) &&& 31)) &&& (nI (1))) = (nI (1)))))] ju mi lo rs r ju2 mi2 lo2 rs2) (hJ : 6 ≤ hw → hw < 14 → Cl l yL_judge wsL_judge [.int (nI (a)), .int (nI (c0)), .int (nI (q0))] ju mi lo rs r ju2 mi2 lo2 rs2) (hR : hw = 14 → Cl l yL_tends wsL_tends [.int (nI (1)), .int (nI (pl)), .int (nI (to))] ju mi lo rs r ju2 mi2 lo2 rs2) (hM : 14 < hw → hw < 18 → Cl l yL_tends wsL_tends [.int (nI (0)), .int (nI (pl)), .int (nI (to))] ju mi lo rs r ju2 mi2 lo2 rs2) (hSh : hw = 18 → Cl l yX2_shorten wsX2_shorten [] ju mi lo rs r ju2 mi2 lo2 rs2) (hSo : 18 < hw → Cl l yX2_sortByHits wsX2_sortByHits [] ju mi lo rs r ju2 mi2 lo2 rs2) {D : va_G} {Y : Nat → ClassId} {F : Nat → Prop} {t0 la x na : Nat} {H0 : Heap} (hC : CS D Y F t0 la x na ju mi lo rs H0) (hFr : ∀ q, H0.size ≤ q → F q) : UC l yL_act wsL_act 14 40 120 D Y (eL t0 F F) [.ref x, .int v] H0 F (bI_ r (CS D Y F t0 la x na ju2 mi2 lo2 rs2)) := by
  refine UCi.start (cc := cL_act) (maxL := 9) (rt := .int) (by decide) rfl (Nat.le_of_ble_eq_true rfl) ?_
  intro p e s m args below meth c ls H locs Q S hK hH0 hE0 hHH hS hl hin hE
  subst hH0
  subst hHH
  have S : CallFix p m c cL_act 9 s args wsL_act RL := S
  have hx := S.1
  have hb := S.2.1
  have hts := S.2.2.2.2
  have hn := hok.1
  have hl_w : w < 8 := by rw [h_w]; exact lowN_lt _ (by omega)
  have hl_a : a < 32 := by rw [h_a]; exact lowN_lt _ (by omega)
  have hl_c0 : c0 < 32 := by rw [h_c0]; exact lowN_lt _ (by omega)
  have hl_pl : pl < rs.length + 1 := by rw [h_pl]; exact lowN_lt _ (by omega)
  have hl_hw : hw < 20 := by rw [h_hw]; exact lowN_lt _ (by omega)
  have hl_pr : pr < 15 := by rw [h_pr]; exact lowN_lt _ (by omega)
  have hl_q0 : q0 < 4 := by rw [h_q0]; exact lowN_lt _ (by omega)
  have hl_to : to < rs.length + 1 := by rw [h_to]; exact lowN_lt _ (by omega)
  have hl_b : b < 32 - a := by rw [h_b]; exact lowN_lt _ (by omega)
  have hl_d0 : d0 < 32 - c0 := by rw [h_d0]; exact lowN_lt _ (by omega)
  have hl : lv_has ls 9 [(0, .ref (x)), (1, .int (v))] := hl
  refine lv_iload_n hx hb dL_act_0 rfl (lv_at hl 1 rfl) ?_
  refine lv_bipush (v := (nI (23))) hx hb dL_act_1 (by decide +kernel) ?_
  refine lv_ishr hx hb dL_act_3 ?_
  refine lv_bipush (v := (nI (8))) hx hb dL_act_4 (by decide +kernel) ?_
  refine Rd.callS (r := (nI (lowN (((v) >>> ((nI (23)) &&& 31))) (8)))) (As := [.int (((v) >>> ((nI (23)) &&& 31))), .int (nI (8))]) S (k_L_low l (v := (((v) >>> ((nI (23)) &&& 31)))) (n := 8) (by omega) (by omega)) (va_cwS 2 hts gL_act_L_low rfl rfl rfl (by decide +kernel) ⟨Nat.le_of_ble_eq_true rfl, Nat.le_of_ble_eq_true rfl⟩) hK rfl hl.1 rfl (Nat.le_of_ble_eq_true rfl) dL_act_6 ⟨Nat.le_of_ble_eq_true rfl, Nat.le_of_ble_eq_true rfl⟩ ?_
  refine nr_top (y := (nI (w))) (by rw [h_w]) ?_
  refine nr_if_ne (tgt := 16) hx hb (by omega) dL_act_9 (by decide) (fun c_9 => ?_) (fun c_9 => absurd c_9 (by omega))
  refine lv_iconst (v := (nI (0))) hx hb dL_act_16 (by decide +kernel) ?_
  refine lv_istore_n (lv' := [(2, .int (nI (0))), (0, .ref (x)), (1, .int (v))]) hx hb dL_act_17 rfl hl (by decide) rfl (fun ls hl => ?_)
  refine lv_iload_n hx hb dL_act_18 rfl (lv_at hl 2 rfl) ?_
  refine lv_iconst (v := (nI (3))) hx hb dL_act_19 (by decide +kernel) ?_
  refine lv_ishr hx hb dL_act_20 ?_
  refine lv_iload_n hx hb dL_act_21 rfl (lv_at hl 0 rfl) ?_
  refine nr_if_eq (tgt := 30) hx hb (by omega) dL_act_22 (by decide) (fun c_22 => ?_) (fun c_22 => absurd c_22 (by decide))
  refine lv_bipush (v := (nI (32))) hx hb dL_act_30 (by decide +kernel) ?_
  refine Rd.callS (r := (nI (lowN (((v) >>> ((nI (3)) &&& 31))) (32)))) (As := [.int (((v) >>> ((nI (3)) &&& 31))), .int (nI (32))]) S (k_L_low l (v := (((v) >>> ((nI (3)) &&& 31)))) (n := 32) (by omega) (by omega)) (va_cwS 2 hts gL_act_L_low rfl rfl rfl (by decide +kernel) ⟨Nat.le_of_ble_eq_true rfl, Nat.le_of_ble_eq_true rfl⟩) hK rfl hl.1 rfl (Nat.le_of_ble_eq_true rfl) dL_act_32 ⟨Nat.le_of_ble_eq_true rfl, Nat.le_of_ble_eq_true rfl⟩ ?_
  refine nr_top (y := (nI (a))) (by rw [h_a]) ?_
  refine lv_istore_n (lv' := [(3, .int (nI (a))), (2, .int (nI (0))), (0, .ref (x)), (1, .int (v))]) hx hb dL_act_35 rfl hl (by decide) rfl (fun ls hl => ?_)
  refine lv_iload_n hx hb dL_act_36 rfl (lv_at hl 1 rfl) ?_
  refine nr_if_eq (tgt := 52) hx hb (by omega) dL_act_37 (by decide) (fun c_37 => ?_) (fun c_37 => absurd c_37 (by decide))
  refine lv_iload_n hx hb dL_act_52 rfl (lv_at hl 0 rfl) ?_
  refine lv_iload_n hx hb dL_act_53 rfl (lv_at hl 3 rfl) ?_
  refine lv_bipush (v := (nI (6))) hx hb dL_act_54 (by decide +kernel) ?_
  refine lv_ishr hx hb dL_act_56 ?_
  refine lv_bipush (v := (nI (32))) hx hb dL_act_57 (by decide +kernel) ?_
  refine lv_iload_n hx hb dL_act_59 rfl (lv_at hl 0 rfl) ?_
  refine nr_isub hx hb (by omega) dL_act_60 ?_
  refine Rd.callS (r := (nI (lowN (((v) >>> ((nI (6)) &&& 31))) (32 - a)))) (As := [.int (((v) >>> ((nI (6)) &&& 31))), .int (nI (32 - a))]) S (k_L_low l (v := (((v) >>> ((nI (6)) &&& 31)))) (n := 32 - a) (by omega) (by omega)) (va_cwS 2 hts gL_act_L_low rfl rfl rfl (by decide +kernel) ⟨Nat.le_of_ble_eq_true rfl, Nat.le_of_ble_eq_true rfl⟩) hK rfl hl.1 rfl (Nat.le_of_ble_eq_true rfl) dL_act_61 ⟨Nat.le_of_ble_eq_true rfl, Nat.le_of_ble_eq_true rfl⟩ ?_
  refine nr_top (y := (nI (b))) (by rw [h_b]) ?_
  refine nr_iadd hx hb dL_act_64 ?_
  refine lv_istore (lv' := [(4, .int (nI (a + b))), (3, .int (nI (a))), (2, .int (nI (0))), (0, .ref (x)), (1, .int (v))]) hx hb dL_act_65 hl (by decide) rfl (fun ls hl => ?_)
  refine lv_iload_n hx hb dL_act_67 rfl (lv_at hl 4 rfl) ?_
  refine lv_bipush (v := (nI (9))) hx hb dL_act_68 (by decide +kernel) ?_
  refine lv_ishr hx hb dL_act_70 ?_
  refine lv_iload_n hx hb dL_act_71 rfl (lv_at hl 2 rfl) ?_
  refine nr_if_eq (tgt := 80) hx hb (by omega) dL_act_72 (by decide) (fun c_72 => ?_) (fun c_72 => absurd c_72 (by decide))
  refine lv_bipush (v := (nI (32))) hx hb dL_act_80 (by decide +kernel) ?_
  refine Rd.callS (r := (nI (lowN (((v) >>> ((nI (9)) &&& 31))) (32)))) (As := [.int (((v) >>> ((nI (9)) &&& 31))), .int (nI (32))]) S (k_L_low l (v := (((v) >>> ((nI (9)) &&& 31)))) (n := 32) (by omega) (by omega)) (va_cwS 2 hts gL_act_L_low rfl rfl rfl (by decide +kernel) ⟨Nat.le_of_ble_eq_true rfl, Nat.le_of_ble_eq_true rfl⟩) hK rfl hl.1 rfl (Nat.le_of_ble_eq_true rfl) dL_act_82 ⟨Nat.le_of_ble_eq_true rfl, Nat.le_of_ble_eq_true rfl⟩ ?_
  refine nr_top (y := (nI (c0))) (by rw [h_c0]) ?_
  refine lv_istore (lv' := [(5, .int (nI (c0))), (4, .int (nI (a + b))), (3, .int (nI (a))), (2, .int (nI (0))), (0, .ref (x)), (1, .int (v))]) hx hb dL_act_85 hl (by decide) rfl (fun ls hl => ?_)
  refine lv_iload_n hx hb dL_act_87 rfl (lv_at hl 3 rfl) ?_
  refine nr_if_eq (tgt := 103) hx hb (by omega) dL_act_88 (by decide) (fun c_88 => ?_) (fun c_88 => absurd c_88 (by decide))
  refine lv_iload hx hb dL_act_103 (lv_at hl 0 rfl) ?_
  refine lv_iload_n hx hb dL_act_105 rfl (lv_at hl 5 rfl) ?_
  refine lv_bipush (v := (nI (12))) hx hb dL_act_106 (by decide +kernel) ?_
  refine lv_ishr hx hb dL_act_108 ?_
  refine lv_bipush (v := (nI (32))) hx hb dL_act_109 (by decide +kernel) ?_
  refine lv_iload hx hb dL_act_111 (lv_at hl 0 rfl) ?_
  refine nr_isub hx hb (by omega) dL_act_113 ?_
  refine Rd.callS (r := (nI (lowN (((v) >>> ((nI (12)) &&& 31))) (32 - c0)))) (As := [.int (((v) >>> ((nI (12)) &&& 31))), .int (nI (32 - c0))]) S (k_L_low l (v := (((v) >>> ((nI (12)) &&& 31)))) (n := 32 - c0) (by omega) (by omega)) (va_cwS 2 hts gL_act_L_low rfl rfl rfl (by decide +kernel) ⟨Nat.le_of_ble_eq_true rfl, Nat.le_of_ble_eq_true rfl⟩) hK rfl hl.1 rfl (Nat.le_of_ble_eq_true rfl) dL_act_114 ⟨Nat.le_of_ble_eq_true rfl, Nat.le_of_ble_eq_true rfl⟩ ?_
  refine nr_top (y := (nI (d0))) (by rw [h_d0]) ?_
  refine nr_iadd hx hb dL_act_117 ?_
  refine lv_istore (lv' := [(6, .int (nI (c0 + d0))), (5, .int (nI (c0))), (4, .int (nI (a + b))), (3, .int (nI (a))), (2, .int (nI (0))), (0, .ref (x)), (1, .int (v))]) hx hb dL_act_118 hl (by decide) rfl (fun ls hl => ?_)
  refine lv_iload_n hx hb dL_act_120 rfl (lv_at hl 6 rfl) ?_
  refine lv_iconst (v := (nI (4))) hx hb dL_act_121 (by decide +kernel) ?_
  refine lv_ishr hx hb dL_act_122 ?_
  refine lv_iload_n hx hb dL_act_123 rfl (lv_at hl 4 rfl) ?_
  refine nr_if_eq (tgt := 132) hx hb (by omega) dL_act_124 (by decide) (fun c_124 => ?_) (fun c_124 => absurd c_124 (by decide))
  refine lv_aload_n hx hb dL_act_132 rfl (lv_at hl 5 rfl) ?_
  refine Rd.callV (r := (nI (rs.length))) (As := []) S (q_rules hC.hd) (cwV 0 hts gL_act_X2_rules rfl rfl rfl (by decide +kernel) ⟨Nat.le_of_ble_eq_true rfl, Nat.le_of_ble_eq_true rfl⟩) hK (hC.hd.recv hK) rfl hl.1 rfl (Nat.le_of_ble_eq_true rfl) dL_act_133 ⟨Nat.le_of_ble_eq_true rfl, Nat.le_of_ble_eq_true rfl⟩ ?_
  refine lv_iconst (v := (nI (1))) hx hb dL_act_136 (by decide +kernel) ?_
  refine nr_iadd hx hb dL_act_137 ?_
  refine Rd.callS (r := (nI (lowN (((v) >>> ((nI (4)) &&& 31))) ((rs.length) + 1)))) (As := [.int (((v) >>> ((nI (4)) &&& 31))), .int (nI ((rs.length) + 1))]) S (k_L_low l (v := (((v) >>> ((nI (4)) &&& 31)))) (n := (rs.length) + 1) (by omega) (by omega)) (va_cwS 2 hts gL_act_L_low rfl rfl rfl (by decide +kernel) ⟨Nat.le_of_ble_eq_true rfl, Nat.le_of_ble_eq_true rfl⟩) hK rfl hl.1 rfl (Nat.le_of_ble_eq_true rfl) dL_act_138 ⟨Nat.le_of_ble_eq_true rfl, Nat.le_of_ble_eq_true rfl⟩ ?_
  refine nr_top (y := (nI (pl))) (by rw [h_pl]) ?_
  refine lv_istore (lv' := [(7, .int (nI (pl))), (6, .int (nI (c0 + d0))), (5, .int (nI (c0))), (4, .int (nI (a + b))), (3, .int (nI (a))), (2, .int (nI (0))), (0, .ref (x)), (1, .int (v))]) hx hb dL_act_141 hl (by decide) rfl (fun ls hl => ?_)
  refine lv_iload_n hx hb dL_act_143 rfl (lv_at hl 7 rfl) ?_
  refine lv_bipush (v := (nI (20))) hx hb dL_act_144 (by decide +kernel) ?_
  refine Rd.callS (r := (nI (lowN (v) (20)))) (As := [.int (v), .int (nI (20))]) S (k_L_low l (v := (v)) (n := 20) (by omega) (by omega)) (va_cwS 2 hts gL_act_L_low rfl rfl rfl (by decide +kernel) ⟨Nat.le_of_ble_eq_true rfl, Nat.le_of_ble_eq_true rfl⟩) hK rfl hl.1 rfl (Nat.le_of_ble_eq_true rfl) dL_act_146 ⟨Nat.le_of_ble_eq_true rfl, Nat.le_of_ble_eq_true rfl⟩ ?_
  refine nr_top (y := (nI (hw))) (by rw [h_hw]) ?_
  refine lv_istore (lv' := [(8, .int (nI (hw))), (7, .int (nI (pl))), (6, .int (nI (c0 + d0))), (5, .int (nI (c0))), (4, .int (nI (a + b))), (3, .int (nI (a))), (2, .int (nI (0))), (0, .ref (x)), (1, .int (v))]) hx hb dL_act_149 hl (by decide) rfl (fun ls hl => ?_)
  refine lv_iload hx hb dL_act_151 (lv_at hl 0 rfl) ?_
  refine lv_bipush (v := (nI (6))) hx hb dL_act_153 (by decide +kernel) ?_
  refine nr_icmp_ge (tgt := 213) hx hb (by omega) (by omega) dL_act_155 (by decide) (fun c_155 => ?_) (fun c_155 => ?_)
  · refine lv_iload hx hb dL_act_213 (lv_at hl 0 rfl) ?_
    refine lv_bipush (v := (nI (14))) hx hb dL_act_215 (by decide +kernel) ?_
    refine nr_icmp_ge (tgt := 245) hx hb (by omega) (by omega) dL_act_217 (by decide) (fun c_217 => ?_) (fun c_217 => ?_)
    · refine lv_iload hx hb dL_act_245 (lv_at hl 0 rfl) ?_
      refine lv_bipush (v := (nI (18))) hx hb dL_act_247 (by decide +kernel) ?_
      refine nr_icmp_ge (tgt := 295) hx hb (by omega) (by omega) dL_act_249 (by decide) (fun c_249 => ?_) (fun c_249 => ?_)
      · refine lv_iload hx hb dL_act_295 (lv_at hl 0 rfl) ?_
        refine lv_bipush (v := (nI (18))) hx hb dL_act_297 (by decide +kernel) ?_
        refine nr_icmp_ne (tgt := 309) hx hb (by omega) (by omega) dL_act_299 (by decide) (fun c_299 => ?_) (fun c_299 => ?_)
        · refine lv_aload_n hx hb dL_act_309 rfl (lv_at hl 7 rfl) ?_
          obtain ⟨dd, mc, ms, hbd, hU⟩ := hSo (by omega) D Y F t0 la x na _ hC hFr
          refine UC.callV (As := []) S hU (cwV 0 hts gL_act_X2_sortByHits rfl rfl rfl (by decide +kernel) ⟨(by show dd + 1 ≤ 14; omega), (by show 8 + (4 + 11) + 40 * dd ≤ 40 * 14; omega)⟩) hK eL_bl (fun U hW hU9 => eL.step hE0 hS hW hU9) hS (fun q h => h) (hC.hd.recv hK) rfl hl.1 rfl (Nat.le_of_ble_eq_true rfl) dL_act_310 ⟨(by show 0 + mc ≤ 40; omega), (by show 0 + ms ≤ 120; omega)⟩ (fun v9 H1 locs hB hS hsz hkp => ?_)
          obtain ⟨rfl, hB⟩ := hB
          refine W.widen (k := 40) (n := 120) (by omega) (by omega) ?_
          exact hE _ _ _ _ _ dL_act_313 (vp_nar_int _) rfl hB hS
        · refine lv_aload_n hx hb dL_act_302 rfl (lv_at hl 7 rfl) ?_
          obtain ⟨dd, mc, ms, hbd, hU⟩ := hSh (by omega) D Y F t0 la x na _ hC hFr
          refine UC.callV (As := []) S hU (cwV 0 hts gL_act_X2_shorten rfl rfl rfl (by decide +kernel) ⟨(by show dd + 1 ≤ 14; omega), (by show 8 + (4 + 11) + 40 * dd ≤ 40 * 14; omega)⟩) hK eL_bl (fun U hW hU9 => eL.step hE0 hS hW hU9) hS (fun q h => h) (hC.hd.recv hK) rfl hl.1 rfl (Nat.le_of_ble_eq_true rfl) dL_act_303 ⟨(by show 0 + mc ≤ 40; omega), (by show 0 + ms ≤ 120; omega)⟩ (fun v9 H1 locs hB hS hsz hkp => ?_)
          obtain ⟨rfl, hB⟩ := hB
          refine W.widen (k := 40) (n := 120) (by omega) (by omega) ?_
          refine lv_goto (tgt := 313) hx hb dL_act_306 (by decide) ?_
          exact hE _ _ _ _ _ dL_act_313 (vp_nar_int _) rfl hB hS
      · refine lv_aload_n hx hb dL_act_252 rfl (lv_at hl 7 rfl) ?_
        refine lv_iload hx hb dL_act_253 (lv_at hl 0 rfl) ?_
        refine lv_bipush (v := (nI (14))) hx hb dL_act_255 (by decide +kernel) ?_
        refine nr_icmp_ne (tgt := 264) hx hb (by omega) (by omega) dL_act_257 (by decide) (fun c_257 => ?_) (fun c_257 => ?_)
        · refine lv_iconst (v := (nI (0))) hx hb dL_act_264 (by decide +kernel) ?_
          refine lv_iload hx hb dL_act_265 (lv_at hl 1 rfl) ?_
          refine lv_iload_n hx hb dL_act_267 rfl (lv_at hl 8 rfl) ?_
          refine lv_bipush (v := (nI (8))) hx hb dL_act_268 (by decide +kernel) ?_
          refine lv_ishr hx hb dL_act_270 ?_
          refine lv_iload_n hx hb dL_act_271 rfl (lv_at hl 6 rfl) ?_
          refine nr_if_eq (tgt := 280) hx hb (by omega) dL_act_272 (by decide) (fun c_272 => ?_) (fun c_272 => absurd c_272 (by decide))
          refine lv_aload_n hx hb dL_act_280 rfl (lv_at hl 7 rfl) ?_
          refine Rd.callV (r := (nI (rs.length))) (As := []) S (q_rules hC.hd) (cwV 0 hts gL_act_X2_rules rfl rfl rfl (by decide +kernel) ⟨Nat.le_of_ble_eq_true rfl, Nat.le_of_ble_eq_true rfl⟩) hK (hC.hd.recv hK) rfl hl.1 rfl (Nat.le_of_ble_eq_true rfl) dL_act_281 ⟨Nat.le_of_ble_eq_true rfl, Nat.le_of_ble_eq_true rfl⟩ ?_
          refine lv_iconst (v := (nI (1))) hx hb dL_act_284 (by decide +kernel) ?_
          refine nr_iadd hx hb dL_act_285 ?_
          refine Rd.callS (r := (nI (lowN (((v) >>> ((nI (8)) &&& 31))) ((rs.length) + 1)))) (As := [.int (((v) >>> ((nI (8)) &&& 31))), .int (nI ((rs.length) + 1))]) S (k_L_low l (v := (((v) >>> ((nI (8)) &&& 31)))) (n := (rs.length) + 1) (by omega) (by omega)) (va_cwS 2 hts gL_act_L_low rfl rfl rfl (by decide +kernel) ⟨Nat.le_of_ble_eq_true rfl, Nat.le_of_ble_eq_true rfl⟩) hK rfl hl.1 rfl (Nat.le_of_ble_eq_true rfl) dL_act_286 ⟨Nat.le_of_ble_eq_true rfl, Nat.le_of_ble_eq_true rfl⟩ ?_
          refine nr_top (y := (nI (to))) (by rw [h_to]) ?_
          obtain ⟨dd, mc, ms, hbd, hU⟩ := hM (by omega) (by omega) D Y F t0 la x na _ hC hFr
          refine UC.callSW (As := .ref x :: [.int (nI (0)), .int (nI (pl)), .int (nI (to))]) S hU (vx_cwSW 4 hts gL_act_L_tends rfl rfl rfl (by decide +kernel) ⟨(by show dd + 1 ≤ 14; omega), (by show 8 + (5 + 11) + 40 * dd ≤ 40 * 14; omega)⟩) hK eL_bl (fun U hW hU9 => eL.step hE0 hS hW hU9) hS (fun q h => h) rfl hl.1 rfl (Nat.le_of_ble_eq_true rfl) dL_act_289 ⟨(by show 0 + mc ≤ 40; omega), (by show 0 + ms ≤ 120; omega)⟩ (fun v9 H1 locs hB hS hsz hkp => ?_)
          obtain ⟨rfl, hB⟩ := hB
          refine W.widen (k := 40) (n := 120) (by omega) (by omega) ?_
          refine lv_goto (tgt := 313) hx hb dL_act_292 (by decide) ?_
          exact hE _ _ _ _ _ dL_act_313 (vp_nar_int _) rfl hB hS
        · refine lv_iconst (v := (nI (1))) hx hb dL_act_260 (by decide +kernel) ?_
          refine lv_goto (tgt := 265) hx hb dL_act_261 (by decide) ?_
          refine lv_iload hx hb dL_act_265 (lv_at hl 1 rfl) ?_
          refine lv_iload_n hx hb dL_act_267 rfl (lv_at hl 8 rfl) ?_
          refine lv_bipush (v := (nI (8))) hx hb dL_act_268 (by decide +kernel) ?_
          refine lv_ishr hx hb dL_act_270 ?_
          refine lv_iload_n hx hb dL_act_271 rfl (lv_at hl 6 rfl) ?_
          refine nr_if_eq (tgt := 280) hx hb (by omega) dL_act_272 (by decide) (fun c_272 => ?_) (fun c_272 => absurd c_272 (by decide))
          refine lv_aload_n hx hb dL_act_280 rfl (lv_at hl 7 rfl) ?_
          refine Rd.callV (r := (nI (rs.length))) (As := []) S (q_rules hC.hd) (cwV 0 hts gL_act_X2_rules rfl rfl rfl (by decide +kernel) ⟨Nat.le_of_ble_eq_true rfl, Nat.le_of_ble_eq_true rfl⟩) hK (hC.hd.recv hK) rfl hl.1 rfl (Nat.le_of_ble_eq_true rfl) dL_act_281 ⟨Nat.le_of_ble_eq_true rfl, Nat.le_of_ble_eq_true rfl⟩ ?_
          refine lv_iconst (v := (nI (1))) hx hb dL_act_284 (by decide +kernel) ?_
          refine nr_iadd hx hb dL_act_285 ?_
          refine Rd.callS (r := (nI (lowN (((v) >>> ((nI (8)) &&& 31))) ((rs.length) + 1)))) (As := [.int (((v) >>> ((nI (8)) &&& 31))), .int (nI ((rs.length) + 1))]) S (k_L_low l (v := (((v) >>> ((nI (8)) &&& 31)))) (n := (rs.length) + 1) (by omega) (by omega)) (va_cwS 2 hts gL_act_L_low rfl rfl rfl (by decide +kernel) ⟨Nat.le_of_ble_eq_true rfl, Nat.le_of_ble_eq_true rfl⟩) hK rfl hl.1 rfl (Nat.le_of_ble_eq_true rfl) dL_act_286 ⟨Nat.le_of_ble_eq_true rfl, Nat.le_of_ble_eq_true rfl⟩ ?_
          refine nr_top (y := (nI (to))) (by rw [h_to]) ?_
          obtain ⟨dd, mc, ms, hbd, hU⟩ := hR (by omega) D Y F t0 la x na _ hC hFr
          refine UC.callSW (As := .ref x :: [.int (nI (1)), .int (nI (pl)), .int (nI (to))]) S hU (vx_cwSW 4 hts gL_act_L_tends rfl rfl rfl (by decide +kernel) ⟨(by show dd + 1 ≤ 14; omega), (by show 8 + (5 + 11) + 40 * dd ≤ 40 * 14; omega)⟩) hK eL_bl (fun U hW hU9 => eL.step hE0 hS hW hU9) hS (fun q h => h) rfl hl.1 rfl (Nat.le_of_ble_eq_true rfl) dL_act_289 ⟨(by show 0 + mc ≤ 40; omega), (by show 0 + ms ≤ 120; omega)⟩ (fun v9 H1 locs hB hS hsz hkp => ?_)
          obtain ⟨rfl, hB⟩ := hB
          refine W.widen (k := 40) (n := 120) (by omega) (by omega) ?_
          refine lv_goto (tgt := 313) hx hb dL_act_292 (by decide) ?_
          exact hE _ _ _ _ _ dL_act_313 (vp_nar_int _) rfl hB hS
    · refine lv_aload_n hx hb dL_act_220 rfl (lv_at hl 7 rfl) ?_
      refine lv_iload_n hx hb dL_act_221 rfl (lv_at hl 5 rfl) ?_
      refine lv_iload hx hb dL_act_222 (lv_at hl 3 rfl) ?_
      refine lv_iload_n hx hb dL_act_224 rfl (lv_at hl 8 rfl) ?_
      refine lv_bipush (v := (nI (15))) hx hb dL_act_225 (by decide +kernel) ?_
      refine lv_ishr hx hb dL_act_227 ?_
      refine lv_iload_n hx hb dL_act_228 rfl (lv_at hl 6 rfl) ?_
      refine nr_if_eq (tgt := 237) hx hb (by omega) dL_act_229 (by decide) (fun c_229 => ?_) (fun c_229 => absurd c_229 (by decide))
      refine lv_iconst (v := (nI (4))) hx hb dL_act_237 (by decide +kernel) ?_
      refine Rd.callS (r := (nI (lowN (((v) >>> ((nI (15)) &&& 31))) (4)))) (As := [.int (((v) >>> ((nI (15)) &&& 31))), .int (nI (4))]) S (k_L_low l (v := (((v) >>> ((nI (15)) &&& 31)))) (n := 4) (by omega) (by omega)) (va_cwS 2 hts gL_act_L_low rfl rfl rfl (by decide +kernel) ⟨Nat.le_of_ble_eq_true rfl, Nat.le_of_ble_eq_true rfl⟩) hK rfl hl.1 rfl (Nat.le_of_ble_eq_true rfl) dL_act_238 ⟨Nat.le_of_ble_eq_true rfl, Nat.le_of_ble_eq_true rfl⟩ ?_
      refine nr_top (y := (nI (q0))) (by rw [h_q0]) ?_
      obtain ⟨dd, mc, ms, hbd, hU⟩ := hJ (by omega) (by omega) D Y F t0 la x na _ hC hFr
      refine UC.callSW (As := .ref x :: [.int (nI (a)), .int (nI (c0)), .int (nI (q0))]) S hU (vx_cwSW 4 hts gL_act_L_judge rfl rfl rfl (by decide +kernel) ⟨(by show dd + 1 ≤ 14; omega), (by show 8 + (5 + 11) + 40 * dd ≤ 40 * 14; omega)⟩) hK eL_bl (fun U hW hU9 => eL.step hE0 hS hW hU9) hS (fun q h => h) rfl hl.1 rfl (Nat.le_of_ble_eq_true rfl) dL_act_241 ⟨(by show 0 + mc ≤ 40; omega), (by show 0 + ms ≤ 120; omega)⟩ (fun v9 H1 locs hB hS hsz hkp => ?_)
      obtain ⟨rfl, hB⟩ := hB
      refine W.widen (k := 40) (n := 120) (by omega) (by omega) ?_
      exact hE _ _ _ _ _ dL_act_244 (vp_nar_int _) rfl hB hS
  · refine lv_aload_n hx hb dL_act_158 rfl (lv_at hl 7 rfl) ?_
    refine lv_iload_n hx hb dL_act_159 rfl (lv_at hl 5 rfl) ?_
    refine lv_iload hx hb dL_act_160 (lv_at hl 4 rfl) ?_
    refine lv_iload hx hb dL_act_162 (lv_at hl 3 rfl) ?_
    refine lv_iload hx hb dL_act_164 (lv_at hl 2 rfl) ?_
    refine lv_iload_n hx hb dL_act_166 rfl (lv_at hl 8 rfl) ?_
    refine lv_bipush (v := (nI (14))) hx hb dL_act_167 (by decide +kernel) ?_
    refine lv_ishr hx hb dL_act_169 ?_
    refine lv_iload_n hx hb dL_act_170 rfl (lv_at hl 6 rfl) ?_
    refine nr_if_eq (tgt := 179) hx hb (by omega) dL_act_171 (by decide) (fun c_171 => ?_) (fun c_171 => absurd c_171 (by decide))
    refine lv_bipush (v := (nI (15))) hx hb dL_act_179 (by decide +kernel) ?_
    refine Rd.callS (r := (nI (lowN (((v) >>> ((nI (14)) &&& 31))) (15)))) (As := [.int (((v) >>> ((nI (14)) &&& 31))), .int (nI (15))]) S (k_L_low l (v := (((v) >>> ((nI (14)) &&& 31)))) (n := 15) (by omega) (by omega)) (va_cwS 2 hts gL_act_L_low rfl rfl rfl (by decide +kernel) ⟨Nat.le_of_ble_eq_true rfl, Nat.le_of_ble_eq_true rfl⟩) hK rfl hl.1 rfl (Nat.le_of_ble_eq_true rfl) dL_act_181 ⟨Nat.le_of_ble_eq_true rfl, Nat.le_of_ble_eq_true rfl⟩ ?_
    refine nr_top (y := (nI (pr))) (by rw [h_pr]) ?_
    refine lv_iload_n hx hb dL_act_184 rfl (lv_at hl 6 rfl) ?_
    refine nr_if_eq (tgt := 192) hx hb (by omega) dL_act_185 (by decide) (fun c_185 => ?_) (fun c_185 => absurd c_185 (by decide))
    refine lv_iconst (v := (nI (1))) hx hb dL_act_192 (by decide +kernel) ?_
    refine nr_iadd hx hb dL_act_193 ?_
    refine lv_iload_n hx hb dL_act_194 rfl (lv_at hl 8 rfl) ?_
    refine lv_bipush (v := (nI (18))) hx hb dL_act_195 (by decide +kernel) ?_
    refine lv_ishr hx hb dL_act_197 ?_
    refine lv_iconst (v := (nI (1))) hx hb dL_act_198 (by decide +kernel) ?_
    refine lv_iand hx hb dL_act_199 ?_
    refine lv_iconst (v := (nI (1))) hx hb dL_act_200 (by decide +kernel) ?_
    refine nr_isE (t := 208) (j := 209) hx hb dL_act_201 (by decide) dL_act_204 dL_act_205 (by decide) dL_act_208 rfl ?_
    obtain ⟨dd, mc, ms, hbd, hU⟩ := hA (by omega) D Y F t0 la x na _ hC hFr
    refine UC.callSW (As := .ref x :: [.int (nI (a)), .int (nI (a + b)), .int (nI (c0)), .int (nI (c0 + d0)), .int (nI (pr + 1)), .int (bI (decide ((((((v) >>> ((nI (18)) &&& 31))) &&& (nI (1)))) = (nI (1)))))]) S hU (vx_cwSW 7 hts gL_act_L_add rfl rfl rfl (by decide +kernel) ⟨(by show dd + 1 ≤ 14; omega), (by show 8 + (8 + 11) + 40 * dd ≤ 40 * 14; omega)⟩) hK eL_bl (fun U hW hU9 => eL.step hE0 hS hW hU9) hS (fun q h => h) rfl hl.1 rfl (Nat.le_of_ble_eq_true rfl) dL_act_209 ⟨(by show 0 + mc ≤ 40; omega), (by show 0 + ms ≤ 120; omega)⟩ (fun v9 H1 locs hB hS hsz hkp => ?_)
    obtain ⟨rfl, hB⟩ := hB
    refine W.widen (k := 40) (n := 120) (by omega) (by omega) ?_
    exact hE _ _ _ _ _ dL_act_212 (vp_nar_int _) rfl hB hS
set_option maxHeartbeats 4000000 in
/-- what a cell does to an object, whichever it is -/
theorem k_L_act (l : Launch) (hlt : l.stackTraces = false) (v : Int32) {ju mi lo : Int32} {rs : List RV} (hok : rsOk rs) : ∃ (r ju2 mi2 lo2 : Int32) (rs2 : List RV), (r = -99999 → ju2 = ju ∧ mi2 = mi ∧ lo2 = lo ∧ rs2 = rs) ∧ (∀ n, JL ju lo n → JL ju2 lo2 (n + 1)) ∧ ∀ (D : va_G) (Y : Nat → ClassId) (F : Nat → Prop) (t0 la x na : Nat) (H0 : Heap), CS D Y F t0 la x na ju mi lo rs H0 → (∀ q, H0.size ≤ q → F q) → UC l yL_act wsL_act 14 40 120 D Y (eL t0 F F) [.ref x, .int v] H0 F (bI_ r (CS D Y F t0 la x na ju2 mi2 lo2 rs2)) := by
  have key : ∀ (a b c0 d0 pr pl to q0 hw : Nat) (pm : Bool), ∃ (r ju2 mi2 lo2 : Int32) (rs2 : List RV), (r = -99999 → ju2 = ju ∧ mi2 = mi ∧ lo2 = lo ∧ rs2 = rs) ∧ (∀ n, JL ju lo n → JL ju2 lo2 (n + 1)) ∧ (hw < 6 → Cl l yL_add wsL_add [.int (nI a), .int (nI b), .int (nI c0), .int (nI d0), .int (nI pr), .int (bI pm)] ju mi lo rs r ju2 mi2 lo2 rs2) ∧ (6 ≤ hw → hw < 14 → Cl l yL_judge wsL_judge [.int (nI a), .int (nI c0), .int (nI q0)] ju mi lo rs r ju2 mi2 lo2 rs2) ∧ (hw = 14 → Cl l yL_tends wsL_tends [.int (nI 1), .int (nI pl), .int (nI to)] ju mi lo rs r ju2 mi2 lo2 rs2) ∧ (14 < hw → hw < 18 → Cl l yL_tends wsL_tends [.int (nI 0), .int (nI pl), .int (nI to)] ju mi lo rs r ju2 mi2 lo2 rs2) ∧ (hw = 18 → Cl l yX2_shorten wsX2_shorten [] ju mi lo rs r ju2 mi2 lo2 rs2) ∧ (18 < hw → Cl l yX2_sortByHits wsX2_sortByHits [] ju mi lo rs r ju2 mi2 lo2 rs2) := by
    intro a b c0 d0 pr pl to q0 hw pm
    have hu : ∀ n, JL ju lo n → JL ju lo (n + 1) := fun n h => h.up (Nat.le_succ n)
    rcases (show hw < 6 ∨ (6 ≤ hw ∧ hw < 14) ∨ hw = 14 ∨ (14 < hw ∧ hw < 18) ∨ hw = 18 ∨ 18 < hw by omega) with h | h | h | h | h | h
    · obtain ⟨r, rs2, h1, h2⟩ := cl_add l hlt (nI a) (nI b) (nI c0) (nI d0) (nI pr) pm (ju := ju) (mi := mi) (lo := lo) hok
      exact ⟨r, ju, mi, lo, rs2, fun z => ⟨rfl, rfl, rfl, h1 z⟩, hu, fun _ => h2, fun z => absurd z (by omega), fun z => absurd z (by omega), fun z => absurd z (by omega), fun z => absurd z (by omega), fun z => absurd z (by omega)⟩
    · obtain ⟨r, ju2, mi2, lo2, rs2, h1, h3, h2⟩ := cl_judge l hlt (nI a) (nI c0) (nI q0) (ju := ju) (mi := mi) (lo := lo) hok
      exact ⟨r, ju2, mi2, lo2, rs2, h1, h3, fun z => absurd z (by omega), fun _ _ => h2, fun z => absurd z (by omega), fun z => absurd z (by omega), fun z => absurd z (by omega), fun z => absurd z (by omega)⟩
    · obtain ⟨r, rs2, h1, h2⟩ := cl_remove l hlt (nI pl) (nI to) (ju := ju) (mi := mi) (lo := lo) hok
      exact ⟨r, ju, mi, lo, rs2, fun z => ⟨rfl, rfl, rfl, h1 z⟩, hu, fun z => absurd z (by omega), fun _ z => absurd z (by omega), fun _ => h2, fun z => absurd z (by omega), fun z => absurd z (by omega), fun z => absurd z (by omega)⟩
    · obtain ⟨r, rs2, h1, h2⟩ := cl_move l hlt (nI pl) (nI to) (ju := ju) (mi := mi) (lo := lo) hok
      exact ⟨r, ju, mi, lo, rs2, fun z => ⟨rfl, rfl, rfl, h1 z⟩, hu, fun z => absurd z (by omega), fun _ z => absurd z (by omega), fun z => absurd z (by omega), fun _ _ => h2, fun z => absurd z (by omega), fun z => absurd z (by omega)⟩
    · have hle := Nat.lt_of_le_of_lt (itS_cnt rs.length rs) (show rs.length < 2 ^ 31 by have := hok.1; omega)
      exact ⟨nI (itS rs.length rs).2, ju, mi, lo, (itS rs.length rs).1, fun z => absurd z (nI_n9 hle), hu, fun z => absurd z (by omega), fun _ z => absurd z (by omega), fun z => absurd z (by omega), fun _ z => absurd z (by omega), fun _ => cl_shorten l ju mi lo rs, fun z => absurd z (by omega)⟩
    · have hle := Nat.lt_of_le_of_lt (Nat.le_trans (soF_le 241 rs) (invR_le hok.1)) (show 240 < 2 ^ 31 by decide)
      exact ⟨nI (sor rs).2, ju, mi, lo, (sor rs).1, fun z => absurd z (nI_n9 hle), hu, fun z => absurd z (by omega), fun _ z => absurd z (by omega), fun z => absurd z (by omega), fun _ z => absurd z (by omega), fun z => absurd z (by omega), fun _ => cl_sort l ju mi lo rs⟩
  by_cases ho : lowN ((v) >>> ((nI (23)) &&& 31)) (8) = 0
  · obtain ⟨r, ju2, mi2, lo2, rs2, h1, h2, hA, hJ, hR, hM, hSh, hSo⟩ := key (lowN ((v) >>> ((nI (3)) &&& 31)) (36)) (lowN ((v) >>> ((nI (6)) &&& 31)) (36)) (lowN ((v) >>> ((nI (9)) &&& 31)) (36)) (lowN ((v) >>> ((nI (12)) &&& 31)) (36)) (lowN ((v) >>> ((nI (14)) &&& 31)) (20) + 0) (lowN ((v) >>> ((nI (4)) &&& 31)) (20)) (lowN ((v) >>> ((nI (8)) &&& 31)) (20)) (lowN ((v) >>> ((nI (15)) &&& 31)) (6)) (lowN (v) (20)) (decide ((((v) >>> ((nI (18)) &&& 31)) &&& (nI (1))) = (nI (1))))
    exact ⟨r, ju2, mi2, lo2, rs2, h1, h2, fun D Y F t0 la x na H0 hC hFr => act_t l v hok rfl rfl rfl rfl rfl rfl rfl rfl rfl rfl ho hA hJ hR hM hSh hSo hC hFr⟩
  · obtain ⟨r, ju2, mi2, lo2, rs2, h1, h2, hA, hJ, hR, hM, hSh, hSo⟩ := key (lowN ((v) >>> ((nI (3)) &&& 31)) (32)) (lowN ((v) >>> ((nI (3)) &&& 31)) (32) + lowN ((v) >>> ((nI (6)) &&& 31)) (32 - lowN ((v) >>> ((nI (3)) &&& 31)) (32))) (lowN ((v) >>> ((nI (9)) &&& 31)) (32)) (lowN ((v) >>> ((nI (9)) &&& 31)) (32) + lowN ((v) >>> ((nI (12)) &&& 31)) (32 - lowN ((v) >>> ((nI (9)) &&& 31)) (32))) (lowN ((v) >>> ((nI (14)) &&& 31)) (15) + 1) (lowN ((v) >>> ((nI (4)) &&& 31)) (rs.length + 1)) (lowN ((v) >>> ((nI (8)) &&& 31)) (rs.length + 1)) (lowN ((v) >>> ((nI (15)) &&& 31)) (4)) (lowN (v) (20)) (decide ((((v) >>> ((nI (18)) &&& 31)) &&& (nI (1))) = (nI (1))))
    exact ⟨r, ju2, mi2, lo2, rs2, h1, h2, fun D Y F t0 la x na H0 hC hFr => act_f l v hok rfl rfl rfl rfl rfl rfl rfl rfl rfl rfl ho hA hJ hR hM hSh hSo hC hFr⟩
