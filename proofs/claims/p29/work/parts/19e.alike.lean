/-! areAlike -/
set_option maxHeartbeats 4000000 in
set_option maxRecDepth 100000 in
theorem k_L_areAlike (l : Launch) {D : va_G} {Y : Nat → ClassId} {F : Nat → Prop} {x x2 : Nat} {ju mi lo : Int32} {rs : List RV} {H0 : Heap} (hA : Hd D Y x ju mi lo rs H0) (hB : Hd D Y x2 ju mi lo rs H0) {avq : UInt32} (hq : avK avq = true) (hav : ∀ r, avR lo ju r → r = avq) : UD l yL_areAlike wsL_areAlike 7 0 0 D Y (eT) [.ref (x), .ref (x2)] H0 F (fun H => H = H0) (bI true) := by
  refine UD.start (cc := cL_areAlike) (maxL := 4) (rt := .boolean) (by decide) rfl (Nat.le_of_ble_eq_true rfl) ?_
  intro p e s m args below meth c ls Q Sd hK0 hH0 hE0 hS hl hE d0 hd0
  subst hH0
  have Sd : ∀ d : Drawn, CallFix p m c cL_areAlike 4 (s.setDrawn d) args wsL_areAlike RL := Sd
  have S := Sd d0
  have hx : p.tables.exec = Jvm.exec := S.1
  have hb := S.2.1
  have hts := S.2.2.2.2
  have hK : KK D Y (s.setDrawn d0) := hK0.drawn d0
  have hl : lv_has ls 4 [(0, .ref (x)), (1, .ref (x2))] := hl
  have hok := hA.ok
  have hn := hok.1
  have hpm := pmT_le rs
  have hen : sumN (fun k => enN (gt rs k)) rs.length ≤ 128 * rs.length := sumN_le rs.length (fun i hi => (enN_le (hok.2 i hi)).2)
  refine lv_aload_n hx hb dL_areAlike_0 rfl (lv_at hl 0 rfl) ?_
  refine Rd.callV (r := (nI (rs.length))) (As := []) S (q_rules hA) (cwV 0 hts gL_areAlike_X2_rules rfl rfl rfl (by decide +kernel) ⟨Nat.le_of_ble_eq_true rfl, Nat.le_of_ble_eq_true rfl⟩) hK (hA.recv hK) rfl hl.1 rfl (Nat.le_of_ble_eq_true rfl) dL_areAlike_1 ⟨Nat.le_of_ble_eq_true rfl, Nat.le_of_ble_eq_true rfl⟩ ?_
  refine lv_aload_n hx hb dL_areAlike_4 rfl (lv_at hl 1 rfl) ?_
  refine Rd.callV (r := (nI (rs.length))) (As := []) S (q_rules hB) (cwV 0 hts gL_areAlike_X2_rules rfl rfl rfl (by decide +kernel) ⟨Nat.le_of_ble_eq_true rfl, Nat.le_of_ble_eq_true rfl⟩) hK (hB.recv hK) rfl hl.1 rfl (Nat.le_of_ble_eq_true rfl) dL_areAlike_5 ⟨Nat.le_of_ble_eq_true rfl, Nat.le_of_ble_eq_true rfl⟩ ?_
  refine nr_icmp_ne (tgt := 60) hx hb (by omega) (by omega) dL_areAlike_8 (by decide) (fun c_8 => absurd c_8 (fun z => z rfl)) (fun c_8 => ?_)
  refine lv_aload_n hx hb dL_areAlike_11 rfl (lv_at hl 0 rfl) ?_
  refine Rd.callV (r := (mi)) (As := []) S (q_misses hA) (cwV 0 hts gL_areAlike_X2_misses rfl rfl rfl (by decide +kernel) ⟨Nat.le_of_ble_eq_true rfl, Nat.le_of_ble_eq_true rfl⟩) hK (hA.recv hK) rfl hl.1 rfl (Nat.le_of_ble_eq_true rfl) dL_areAlike_12 ⟨Nat.le_of_ble_eq_true rfl, Nat.le_of_ble_eq_true rfl⟩ ?_
  refine lv_aload_n hx hb dL_areAlike_15 rfl (lv_at hl 1 rfl) ?_
  refine Rd.callV (r := (mi)) (As := []) S (q_misses hB) (cwV 0 hts gL_areAlike_X2_misses rfl rfl rfl (by decide +kernel) ⟨Nat.le_of_ble_eq_true rfl, Nat.le_of_ble_eq_true rfl⟩) hK (hB.recv hK) rfl hl.1 rfl (Nat.le_of_ble_eq_true rfl) dL_areAlike_16 ⟨Nat.le_of_ble_eq_true rfl, Nat.le_of_ble_eq_true rfl⟩ ?_
  refine lv_icmp_ne (tgt := 60) hx hb dL_areAlike_19 (by decide) (fun c_19 => absurd c_19 (fun z => z rfl)) (fun c_19 => ?_)
  refine lv_aload_n hx hb dL_areAlike_22 rfl (lv_at hl 0 rfl) ?_
  refine nr_avg hd0 S hA (cwV 0 hts gL_areAlike_X2_averageLooks rfl rfl rfl (by decide +kernel) ⟨Nat.le_of_ble_eq_true rfl, Nat.le_of_ble_eq_true rfl⟩) hK hS hl.1 (Nat.le_of_ble_eq_true rfl) dL_areAlike_23 ⟨Nat.le_of_ble_eq_true rfl, Nat.le_of_ble_eq_true rfl⟩ (fun av1 d1 locs ha1 hd1 hS => ?_)
  have av1e := hav av1 ha1
  subst av1e
  have S := Sd d1
  have hts := S.2.2.2.2
  have hK : KK D Y (s.setDrawn d1) := hK0.drawn d1
  refine lv_aload_n hx hb dL_areAlike_26 rfl (lv_at hl 1 rfl) ?_
  refine nr_avg hd1 S hB (cwV 0 hts gL_areAlike_X2_averageLooks rfl rfl rfl (by decide +kernel) ⟨Nat.le_of_ble_eq_true rfl, Nat.le_of_ble_eq_true rfl⟩) hK hS hl.1 (Nat.le_of_ble_eq_true rfl) dL_areAlike_27 ⟨Nat.le_of_ble_eq_true rfl, Nat.le_of_ble_eq_true rfl⟩ (fun av2 d2 locs ha2 hd2 hS => ?_)
  have av2e := hav av2 ha2
  subst av2e
  have S := Sd d2
  have hts := S.2.2.2.2
  have hK : KK D Y (s.setDrawn d2) := hK0.drawn d2
  refine lv_fcmp hx hb dL_areAlike_30 ?_
  rw [(avK_at hq).1]
  refine lv_if_ne (tgt := 60) hx hb dL_areAlike_31 (by decide) (fun z => absurd (by decide +kernel) z) (fun _ => ?_)
  refine lv_aload_n hx hb dL_areAlike_34 rfl (lv_at hl 0 rfl) ?_
  refine Rd.callV (r := (nI (pmT rs))) (As := []) S (q_permitted hA) (cwV 0 hts gL_areAlike_X2_permitted rfl rfl rfl (by decide +kernel) ⟨Nat.le_of_ble_eq_true rfl, Nat.le_of_ble_eq_true rfl⟩) hK (hA.recv hK) rfl hl.1 rfl (Nat.le_of_ble_eq_true rfl) dL_areAlike_35 ⟨Nat.le_of_ble_eq_true rfl, Nat.le_of_ble_eq_true rfl⟩ ?_
  refine lv_aload_n hx hb dL_areAlike_38 rfl (lv_at hl 1 rfl) ?_
  refine Rd.callV (r := (nI (pmT rs))) (As := []) S (q_permitted hB) (cwV 0 hts gL_areAlike_X2_permitted rfl rfl rfl (by decide +kernel) ⟨Nat.le_of_ble_eq_true rfl, Nat.le_of_ble_eq_true rfl⟩) hK (hB.recv hK) rfl hl.1 rfl (Nat.le_of_ble_eq_true rfl) dL_areAlike_39 ⟨Nat.le_of_ble_eq_true rfl, Nat.le_of_ble_eq_true rfl⟩ ?_
  refine nr_icmp_ne (tgt := 60) hx hb (by omega) (by omega) dL_areAlike_42 (by decide) (fun c_42 => absurd c_42 (fun z => z rfl)) (fun c_42 => ?_)
  refine lv_aload_n hx hb dL_areAlike_45 rfl (lv_at hl 0 rfl) ?_
  refine Rd.callV (r := (nI (sumN (fun k => enN (gt rs k)) rs.length))) (As := []) S (q_allEntries hA) (cwV 0 hts gL_areAlike_X2_allEntries rfl rfl rfl (by decide +kernel) ⟨Nat.le_of_ble_eq_true rfl, Nat.le_of_ble_eq_true rfl⟩) hK (hA.recv hK) rfl hl.1 rfl (Nat.le_of_ble_eq_true rfl) dL_areAlike_46 ⟨Nat.le_of_ble_eq_true rfl, Nat.le_of_ble_eq_true rfl⟩ ?_
  refine lv_aload_n hx hb dL_areAlike_49 rfl (lv_at hl 1 rfl) ?_
  refine Rd.callV (r := (nI (sumN (fun k => enN (gt rs k)) rs.length))) (As := []) S (q_allEntries hB) (cwV 0 hts gL_areAlike_X2_allEntries rfl rfl rfl (by decide +kernel) ⟨Nat.le_of_ble_eq_true rfl, Nat.le_of_ble_eq_true rfl⟩) hK (hB.recv hK) rfl hl.1 rfl (Nat.le_of_ble_eq_true rfl) dL_areAlike_50 ⟨Nat.le_of_ble_eq_true rfl, Nat.le_of_ble_eq_true rfl⟩ ?_
  refine nr_icmp_ne (tgt := 60) hx hb (by omega) (by omega) dL_areAlike_53 (by decide) (fun c_53 => absurd c_53 (fun z => z rfl)) (fun c_53 => ?_)
  refine lv_iconst (v := (nI (1))) hx hb dL_areAlike_56 (by decide +kernel) ?_
  refine lv_goto (tgt := 61) hx hb dL_areAlike_57 (by decide) ?_
  refine lv_istore_n (lv' := [(2, .int (nI (1))), (0, .ref (x)), (1, .ref (x2))]) hx hb dL_areAlike_61 rfl hl (by decide) rfl (fun ls hl => ?_)
  refine lv_iconst (v := (nI (0))) hx hb dL_areAlike_62 (by decide +kernel) ?_
  refine lv_istore_n (lv' := [(3, .int (nI (0))), (2, .int (nI (1))), (0, .ref (x)), (1, .ref (x2))]) hx hb dL_areAlike_63 rfl hl (by decide) rfl (fun ls hl => ?_)
  have loop_64 : ∀ (fu_64 : Nat) (pl : Nat), (pl ≤ rs.length) → rs.length - pl < fu_64 → ∀ ls : Array Slot, lv_has ls 4 [(3, .int (nI (pl))), (2, .int (nI (1))), (0, .ref (x)), (1, .ref (x2))] → W p l e (rmG 7 0 0) (s.setDrawn d2) m args below meth c s.heap locs 0 0 Q (F0 m 64 ls []) := by
    intro fu_64
    induction fu_64 with
    | zero => exact fun pl _ hk => absurd hk (Nat.not_lt_zero _)
    | succ fu_64 ih_64 =>
      intro pl h1 hk_64 ls hl
      refine lv_iload_n hx hb dL_areAlike_64 rfl (lv_at hl 0 rfl) ?_
      refine lv_aload_n hx hb dL_areAlike_65 rfl (lv_at hl 2 rfl) ?_
      refine Rd.callV (r := (nI (rs.length))) (As := []) S (q_rules hA) (cwV 0 hts gL_areAlike_X2_rules rfl rfl rfl (by decide +kernel) ⟨Nat.le_of_ble_eq_true rfl, Nat.le_of_ble_eq_true rfl⟩) hK (hA.recv hK) rfl hl.1 rfl (Nat.le_of_ble_eq_true rfl) dL_areAlike_66 ⟨Nat.le_of_ble_eq_true rfl, Nat.le_of_ble_eq_true rfl⟩ ?_
      refine nr_icmp_ge (tgt := 153) hx hb (by omega) (by omega) dL_areAlike_69 (by decide) (fun c_69 => ?_) (fun c_69 => ?_)
      · refine lv_iload_n hx hb dL_areAlike_153 rfl (lv_at hl 1 rfl) ?_
        exact hE _ _ _ _ _ _ hd2 dL_areAlike_154 rfl rfl rfl hS
      · refine lv_iload_n hx hb dL_areAlike_72 rfl (lv_at hl 1 rfl) ?_
        refine nr_if_eq (tgt := 153) hx hb (by omega) dL_areAlike_73 (by decide) (fun c_73 => absurd c_73 (by decide)) (fun c_73 => ?_)
        have ho := hok.2 pl (by omega)
        unfold rvOk at ho
        refine lv_aload_n hx hb dL_areAlike_76 rfl (lv_at hl 2 rfl) ?_
        refine lv_iload_n hx hb dL_areAlike_77 rfl (lv_at hl 0 rfl) ?_
        refine Rd.callV (r := (nI (100 * sF (gt rs (pl)) + sT (gt rs (pl))))) (As := [.int (nI (pl))]) S (q_sources hA (i := pl) (by omega)) (cwV 1 hts gL_areAlike_X2_sources rfl rfl rfl (by decide +kernel) ⟨Nat.le_of_ble_eq_true rfl, Nat.le_of_ble_eq_true rfl⟩) hK (hA.recv hK) rfl hl.1 rfl (Nat.le_of_ble_eq_true rfl) dL_areAlike_78 ⟨Nat.le_of_ble_eq_true rfl, Nat.le_of_ble_eq_true rfl⟩ ?_
        refine lv_aload_n hx hb dL_areAlike_81 rfl (lv_at hl 3 rfl) ?_
        refine lv_iload_n hx hb dL_areAlike_82 rfl (lv_at hl 0 rfl) ?_
        refine Rd.callV (r := (nI (100 * sF (gt rs (pl)) + sT (gt rs (pl))))) (As := [.int (nI (pl))]) S (q_sources hB (i := pl) (by omega)) (cwV 1 hts gL_areAlike_X2_sources rfl rfl rfl (by decide +kernel) ⟨Nat.le_of_ble_eq_true rfl, Nat.le_of_ble_eq_true rfl⟩) hK (hB.recv hK) rfl hl.1 rfl (Nat.le_of_ble_eq_true rfl) dL_areAlike_83 ⟨Nat.le_of_ble_eq_true rfl, Nat.le_of_ble_eq_true rfl⟩ ?_
        refine nr_icmp_ne (tgt := 145) hx hb (by omega) (by omega) dL_areAlike_86 (by decide) (fun c_86 => absurd c_86 (fun z => z rfl)) (fun c_86 => ?_)
        refine lv_aload_n hx hb dL_areAlike_89 rfl (lv_at hl 2 rfl) ?_
        refine lv_iload_n hx hb dL_areAlike_90 rfl (lv_at hl 0 rfl) ?_
        refine Rd.callV (r := (nI (100 * dF (gt rs (pl)) + dT (gt rs (pl))))) (As := [.int (nI (pl))]) S (q_destinations hA (i := pl) (by omega)) (cwV 1 hts gL_areAlike_X2_destinations rfl rfl rfl (by decide +kernel) ⟨Nat.le_of_ble_eq_true rfl, Nat.le_of_ble_eq_true rfl⟩) hK (hA.recv hK) rfl hl.1 rfl (Nat.le_of_ble_eq_true rfl) dL_areAlike_91 ⟨Nat.le_of_ble_eq_true rfl, Nat.le_of_ble_eq_true rfl⟩ ?_
        refine lv_aload_n hx hb dL_areAlike_94 rfl (lv_at hl 3 rfl) ?_
        refine lv_iload_n hx hb dL_areAlike_95 rfl (lv_at hl 0 rfl) ?_
        refine Rd.callV (r := (nI (100 * dF (gt rs (pl)) + dT (gt rs (pl))))) (As := [.int (nI (pl))]) S (q_destinations hB (i := pl) (by omega)) (cwV 1 hts gL_areAlike_X2_destinations rfl rfl rfl (by decide +kernel) ⟨Nat.le_of_ble_eq_true rfl, Nat.le_of_ble_eq_true rfl⟩) hK (hB.recv hK) rfl hl.1 rfl (Nat.le_of_ble_eq_true rfl) dL_areAlike_96 ⟨Nat.le_of_ble_eq_true rfl, Nat.le_of_ble_eq_true rfl⟩ ?_
        refine nr_icmp_ne (tgt := 145) hx hb (by omega) (by omega) dL_areAlike_99 (by decide) (fun c_99 => absurd c_99 (fun z => z rfl)) (fun c_99 => ?_)
        refine lv_aload_n hx hb dL_areAlike_102 rfl (lv_at hl 2 rfl) ?_
        refine lv_iload_n hx hb dL_areAlike_103 rfl (lv_at hl 0 rfl) ?_
        refine Rd.callV (r := (nI (pR (gt rs (pl))))) (As := [.int (nI (pl))]) S (q_protocols hA (i := pl) (by omega)) (cwV 1 hts gL_areAlike_X2_protocols rfl rfl rfl (by decide +kernel) ⟨Nat.le_of_ble_eq_true rfl, Nat.le_of_ble_eq_true rfl⟩) hK (hA.recv hK) rfl hl.1 rfl (Nat.le_of_ble_eq_true rfl) dL_areAlike_104 ⟨Nat.le_of_ble_eq_true rfl, Nat.le_of_ble_eq_true rfl⟩ ?_
        refine lv_aload_n hx hb dL_areAlike_107 rfl (lv_at hl 3 rfl) ?_
        refine lv_iload_n hx hb dL_areAlike_108 rfl (lv_at hl 0 rfl) ?_
        refine Rd.callV (r := (nI (pR (gt rs (pl))))) (As := [.int (nI (pl))]) S (q_protocols hB (i := pl) (by omega)) (cwV 1 hts gL_areAlike_X2_protocols rfl rfl rfl (by decide +kernel) ⟨Nat.le_of_ble_eq_true rfl, Nat.le_of_ble_eq_true rfl⟩) hK (hB.recv hK) rfl hl.1 rfl (Nat.le_of_ble_eq_true rfl) dL_areAlike_109 ⟨Nat.le_of_ble_eq_true rfl, Nat.le_of_ble_eq_true rfl⟩ ?_
        refine nr_icmp_ne (tgt := 145) hx hb (by omega) (by omega) dL_areAlike_112 (by decide) (fun c_112 => absurd c_112 (fun z => z rfl)) (fun c_112 => ?_)
        refine lv_aload_n hx hb dL_areAlike_115 rfl (lv_at hl 2 rfl) ?_
        refine lv_iload_n hx hb dL_areAlike_116 rfl (lv_at hl 0 rfl) ?_
        refine Rd.callV (r := (bI (pM (gt rs (pl))))) (As := [.int (nI (pl))]) S (q_permits hA (i := pl) (by omega)) (cwV 1 hts gL_areAlike_X2_permits rfl rfl rfl (by decide +kernel) ⟨Nat.le_of_ble_eq_true rfl, Nat.le_of_ble_eq_true rfl⟩) hK (hA.recv hK) rfl hl.1 rfl (Nat.le_of_ble_eq_true rfl) dL_areAlike_117 ⟨Nat.le_of_ble_eq_true rfl, Nat.le_of_ble_eq_true rfl⟩ ?_
        refine lv_aload_n hx hb dL_areAlike_120 rfl (lv_at hl 3 rfl) ?_
        refine lv_iload_n hx hb dL_areAlike_121 rfl (lv_at hl 0 rfl) ?_
        refine Rd.callV (r := (bI (pM (gt rs (pl))))) (As := [.int (nI (pl))]) S (q_permits hB (i := pl) (by omega)) (cwV 1 hts gL_areAlike_X2_permits rfl rfl rfl (by decide +kernel) ⟨Nat.le_of_ble_eq_true rfl, Nat.le_of_ble_eq_true rfl⟩) hK (hB.recv hK) rfl hl.1 rfl (Nat.le_of_ble_eq_true rfl) dL_areAlike_122 ⟨Nat.le_of_ble_eq_true rfl, Nat.le_of_ble_eq_true rfl⟩ ?_
        refine nr_icmpB_ne (tgt := 145) hx hb dL_areAlike_125 (by decide) (fun c_125 => absurd c_125 (fun z => z rfl)) (fun c_125 => ?_)
        refine lv_aload_n hx hb dL_areAlike_128 rfl (lv_at hl 2 rfl) ?_
        refine lv_iload_n hx hb dL_areAlike_129 rfl (lv_at hl 0 rfl) ?_
        refine Rd.callV (r := (hT (gt rs (pl)))) (As := [.int (nI (pl))]) S (q_hits hA (i := pl) (by omega)) (cwV 1 hts gL_areAlike_X2_hits rfl rfl rfl (by decide +kernel) ⟨Nat.le_of_ble_eq_true rfl, Nat.le_of_ble_eq_true rfl⟩) hK (hA.recv hK) rfl hl.1 rfl (Nat.le_of_ble_eq_true rfl) dL_areAlike_130 ⟨Nat.le_of_ble_eq_true rfl, Nat.le_of_ble_eq_true rfl⟩ ?_
        refine lv_aload_n hx hb dL_areAlike_133 rfl (lv_at hl 3 rfl) ?_
        refine lv_iload_n hx hb dL_areAlike_134 rfl (lv_at hl 0 rfl) ?_
        refine Rd.callV (r := (hT (gt rs (pl)))) (As := [.int (nI (pl))]) S (q_hits hB (i := pl) (by omega)) (cwV 1 hts gL_areAlike_X2_hits rfl rfl rfl (by decide +kernel) ⟨Nat.le_of_ble_eq_true rfl, Nat.le_of_ble_eq_true rfl⟩) hK (hB.recv hK) rfl hl.1 rfl (Nat.le_of_ble_eq_true rfl) dL_areAlike_135 ⟨Nat.le_of_ble_eq_true rfl, Nat.le_of_ble_eq_true rfl⟩ ?_
        refine lv_icmp_ne (tgt := 145) hx hb dL_areAlike_138 (by decide) (fun c_138 => absurd c_138 (fun z => z rfl)) (fun c_138 => ?_)
        refine lv_iconst (v := (nI (1))) hx hb dL_areAlike_141 (by decide +kernel) ?_
        refine lv_goto (tgt := 146) hx hb dL_areAlike_142 (by decide) ?_
        refine lv_istore_n (lv' := [(2, .int (nI (1))), (3, .int (nI (pl))), (0, .ref (x)), (1, .ref (x2))]) hx hb dL_areAlike_146 rfl hl (by decide) rfl (fun ls hl => ?_)
        refine lv_iinc (v := (nI (pl + 1))) (lv' := [(3, .int (nI (pl + 1))), (2, .int (nI (1))), (0, .ref (x)), (1, .ref (x2))]) hx hb dL_areAlike_147 hl (k := 1) rfl (nI_add _ _) (by decide) rfl (fun ls hl => ?_)
        refine lv_goto (tgt := 64) hx hb dL_areAlike_150 (by decide) ?_
        exact ih_64 (pl + 1) (by omega) (by omega) ls (lv_sub hl [0, 1, 2, 3] rfl)
  exact loop_64 _ (0) (by omega) (Nat.lt_succ_self _) ls (lv_sub hl [0, 1, 2, 3] rfl)
