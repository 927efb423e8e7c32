/-! arePacketsSo -/
/-- what the decider says of each rule -/
theorem pk_fx {rs : List RV} {s d p ru : Nat} {dr : Int32} (hok : rsOk rs) (hr : dcR rs s d p dr) (hd : d < 32) (hu : ru < rs.length) : (nI ru = dr → bN (mtB (gt rs ru) s d p) = 1) ∧ (dr < 0 → bN (mtB (gt rs ru) s d p) = 0) ∧ (nI ru < dr → bN (mtB (gt rs ru) s d p) = 0) := by
  have hn := hok.1
  rw [← mbI_eq (hok.2 ru hu) hd]
  rcases hr with ⟨rfl, hf⟩ | ⟨rfl, hf⟩
  · have h0 : mbI (gt rs ru) s d p = false := fstN_not (P := fun i => mbI (gt rs i) s d p) rs.length ru (by show ru < fmN rs s d p; omega) hu
    rw [h0]
    exact ⟨fun z => absurd z (nI_m1 (by omega)), fun _ => rfl, fun _ => rfl⟩
  · refine ⟨fun z => ?_, fun z => absurd z (nI_pos (by omega)), fun z => ?_⟩
    · have e : ru = fmN rs s d p := (nI_eq (by omega) (by omega)).mp z
      have h1 : mbI (gt rs (fmN rs s d p)) s d p = true := fstN_hit (P := fun i => mbI (gt rs i) s d p) rs.length hf
      rw [e, h1]
      rfl
    · have h1 : ru < fmN rs s d p := (nI_ltI (by omega) (by omega)).mp z
      have h0 : mbI (gt rs ru) s d p = false := fstN_not (P := fun i => mbI (gt rs i) s d p) rs.length ru h1 hu
      rw [h0]
      rfl
set_option maxHeartbeats 4000000 in
set_option maxRecDepth 100000 in
theorem k_L_arePacketsSo (l : Launch) (hlt : l.stackTraces = false) {D : va_G} {Y : Nat → ClassId} {F G : Nat → Prop} {t0 la x na : Nat} {ju mi lo : Int32} {rs : List RV} {H0 : Heap} (v : Int32) (hC : CS D Y G t0 la x na ju mi lo rs H0) : UC l yL_arePacketsSo wsL_arePacketsSo 12 6 36 D Y (eL t0 F F) [.ref (x), .int (v)] H0 F (bI_ (bI true) (Kp H0)) := by
  refine UCi.start (cc := cL_arePacketsSo) (maxL := 8) (rt := .boolean) (by decide) rfl (Nat.le_of_ble_eq_true rfl) ?_
  intro p e s m args below meth c ls H locs Q S hK hH0 hE0 hHH hS hl hin hE
  subst hH0
  subst hHH
  have S : CallFix p m c cL_arePacketsSo 8 s args wsL_arePacketsSo RL := S
  have hx := S.1
  have hb := S.2.1
  have hts := S.2.2.2.2
  have hl : lv_has ls 8 [(0, .ref (x)), (1, .int (v))] := hl
  have hok := hC.ok
  have hn := hok.1
  refine lv_iconst (v := (nI (0))) hx hb dL_arePacketsSo_0 (by decide +kernel) ?_
  refine lv_istore_n (lv' := [(2, .int (nI (0))), (0, .ref (x)), (1, .int (v))]) hx hb dL_arePacketsSo_1 rfl hl (by decide) rfl (fun ls hl => ?_)
  have hkp0 : Kp s.heap s.heap := Kp.rf
  have hcs : ∀ {g9 : JFrame} {H9 : Heap} {ls9 : List Loc}, W p l e (rmG 12 6 36) s m args below meth c H9 ls9 0 (6 * 0) Q g9 → W p l e (rmG 12 6 36) s m args below meth c H9 ls9 0 0 Q g9 := fun h => h
  have loop_2 : ∀ (fu_2 : Nat) (k : Nat), (k ≤ 6) → 6 - k < fu_2 → ∀ (H : Heap) (locs : List Loc), CS D Y G t0 la x na ju mi lo rs H → Kp s.heap H → va_S F s.heap H locs → ∀ ls : Array Slot, lv_has ls 8 [(2, .int (nI (k))), (0, .ref (x)), (1, .int (v))] → W p l e (rmG 12 6 36) s m args below meth c H locs k (6 * k) Q (F0 m 2 ls []) := by
    intro fu_2
    induction fu_2 with
    | zero => exact fun k _ hk => absurd hk (Nat.not_lt_zero _)
    | succ fu_2 ih_2 =>
      intro k h1 hk_2 H locs hC hkp0 hS ls hl
      refine lv_iload_n hx hb dL_arePacketsSo_2 rfl (lv_at hl 0 rfl) ?_
      refine lv_bipush (v := (nI (6))) hx hb dL_arePacketsSo_3 (by decide +kernel) ?_
      refine nr_icmp_ge (tgt := 155) hx hb (by omega) (by omega) dL_arePacketsSo_5 (by decide) (fun c_5 => ?_) (fun c_5 => ?_)
      · refine lv_iconst (v := (nI (1))) hx hb dL_arePacketsSo_155 (by decide +kernel) ?_
        refine W.widen (k := 6) (n := 36) (by omega) (by omega) ?_
        exact hE _ _ _ _ _ dL_arePacketsSo_156 rfl rfl hkp0 hS
      · refine lv_iload_n hx hb dL_arePacketsSo_8 rfl (lv_at hl 2 rfl) ?_
        refine lv_iconst (v := (nI (2))) hx hb dL_arePacketsSo_9 (by decide +kernel) ?_
        refine lv_iload_n hx hb dL_arePacketsSo_10 rfl (lv_at hl 0 rfl) ?_
        refine nr_imul hx hb dL_arePacketsSo_11 ?_
        refine lv_ishr hx hb dL_arePacketsSo_12 ?_
        refine lv_sipush (v := (nI (4096))) hx hb dL_arePacketsSo_13 (by decide +kernel) ?_
        obtain ⟨pk, hpk, hlow⟩ : ∃ pk : Nat, pk < 4096 ∧ Rd l yL_low wsL_low 0 D Y [.int (((v) >>> ((nI (2 * k)) &&& 31))), .int (nI (4096))] H (nI pk) := ⟨_, lowN_lt _ (by omega), k_L_low l (by omega) (by omega)⟩
        refine Rd.callS (r := nI pk) (As := [.int (((v) >>> ((nI (2 * k)) &&& 31))), .int (nI (4096))]) S hlow (va_cwS 2 hts gL_arePacketsSo_L_low rfl rfl rfl (by decide +kernel) ⟨Nat.le_of_ble_eq_true rfl, Nat.le_of_ble_eq_true rfl⟩) hK rfl hl.1 rfl (Nat.le_of_ble_eq_true rfl) dL_arePacketsSo_16 ⟨(by show _ ≤ 6; omega), (by show _ ≤ 36; omega)⟩ ?_
        refine lv_istore_n (lv' := [(3, .int (nI (pk))), (2, .int (nI (k))), (0, .ref (x)), (1, .int (v))]) hx hb dL_arePacketsSo_19 rfl hl (by decide) rfl (fun ls hl => ?_)
        refine lv_aload_n hx hb dL_arePacketsSo_20 rfl (lv_at hl 2 rfl) ?_
        refine lv_iload_n hx hb dL_arePacketsSo_21 rfl (lv_at hl 0 rfl) ?_
        refine lv_sipush (v := (nI (128))) hx hb dL_arePacketsSo_22 (by decide +kernel) ?_
        refine nr_idiv hx hb (by omega) (by omega) (by omega) dL_arePacketsSo_25 ?_
        refine lv_iload_n hx hb dL_arePacketsSo_26 rfl (lv_at hl 0 rfl) ?_
        refine lv_iconst (v := (nI (4))) hx hb dL_arePacketsSo_27 (by decide +kernel) ?_
        refine nr_idiv hx hb (by omega) (by omega) (by omega) dL_arePacketsSo_28 ?_
        refine lv_bipush (v := (nI (32))) hx hb dL_arePacketsSo_29 (by decide +kernel) ?_
        refine nr_irem hx hb (by omega) (by omega) (by omega) dL_arePacketsSo_31 ?_
        refine lv_iload_n hx hb dL_arePacketsSo_32 rfl (lv_at hl 0 rfl) ?_
        refine lv_iconst (v := (nI (4))) hx hb dL_arePacketsSo_33 (by decide +kernel) ?_
        refine nr_irem hx hb (by omega) (by omega) (by omega) dL_arePacketsSo_34 ?_
        obtain ⟨dr, hdr, hU⟩ := cl_decider l hlt (rs := rs) (pk / 128) ((pk / 4) % 32) (pk % 4) (by omega) (by omega) (by omega)
        refine UC.callSW (As := [.ref x, .int (nI (pk / 128)), .int (nI ((pk / 4) % 32)), .int (nI (pk % 4))]) S (hU D Y F t0 x ju mi lo H hC.hd) (vx_cwSW 4 hts gL_arePacketsSo_L_decider rfl rfl rfl (by decide +kernel) ⟨Nat.le_of_ble_eq_true rfl, Nat.le_of_ble_eq_true rfl⟩) hK eL_bl (fun U hW hU9 => eL.step hE0 hS hW hU9) hS (fun q h => h) rfl hl.1 rfl (Nat.le_of_ble_eq_true rfl) dL_arePacketsSo_35 ⟨(by show _ ≤ 6; omega), (by show _ ≤ 36; omega)⟩ (fun v9 H locs hB hS hsz hkp => ?_)
        obtain ⟨rfl, hB⟩ := hB
        have hC := hC.kp hB
        have hkp0 := hkp0.tr hB
        refine lv_istore (lv' := [(4, .int (dr)), (3, .int (nI (pk))), (2, .int (nI (k))), (0, .ref (x)), (1, .int (v))]) hx hb dL_arePacketsSo_38 hl (by decide) rfl (fun ls hl => ?_)
        refine lv_iconst (v := (nI (0))) hx hb dL_arePacketsSo_40 (by decide +kernel) ?_
        refine lv_istore (lv' := [(5, .int (nI (0))), (4, .int (dr)), (3, .int (nI (pk))), (2, .int (nI (k))), (0, .ref (x)), (1, .int (v))]) hx hb dL_arePacketsSo_41 hl (by decide) rfl (fun ls hl => ?_)
        have loop_43 : ∀ (fu_43 : Nat) (ru : Nat), (ru ≤ rs.length) → rs.length - ru < fu_43 → ∀ ls : Array Slot, lv_has ls 8 [(5, .int (nI (ru))), (4, .int (dr)), (3, .int (nI (pk))), (2, .int (nI (k))), (0, .ref (x)), (1, .int (v))] → W p l e (rmG 12 6 36) s m args below meth c H locs (k + 1) (6 * k + 6) Q (F0 m 43 ls []) := by
          intro fu_43
          induction fu_43 with
          | zero => exact fun ru _ hk => absurd hk (Nat.not_lt_zero _)
          | succ fu_43 ih_43 =>
            intro ru h3 hk_43 ls hl
            refine lv_iload hx hb dL_arePacketsSo_43 (lv_at hl 0 rfl) ?_
            refine lv_aload_n hx hb dL_arePacketsSo_45 rfl (lv_at hl 4 rfl) ?_
            refine Rd.callV (r := (nI (rs.length))) (As := []) S (q_rules hC.hd) (cwV 0 hts gL_arePacketsSo_X2_rules rfl rfl rfl (by decide +kernel) ⟨Nat.le_of_ble_eq_true rfl, Nat.le_of_ble_eq_true rfl⟩) hK (hC.hd.recv hK) rfl hl.1 rfl (Nat.le_of_ble_eq_true rfl) dL_arePacketsSo_46 ⟨(by show _ ≤ 6; omega), (by show _ ≤ 36; omega)⟩ ?_
            refine nr_icmp_ge (tgt := 149) hx hb (by omega) (by omega) dL_arePacketsSo_49 (by decide) (fun c_49 => ?_) (fun c_49 => ?_)
            · refine lv_iinc (v := (nI (k + 1))) (lv' := [(2, .int (nI (k + 1))), (5, .int (nI (ru))), (4, .int (dr)), (3, .int (nI (pk))), (0, .ref (x)), (1, .int (v))]) hx hb dL_arePacketsSo_149 hl (k := 3) rfl (nI_add _ _) (by decide) rfl (fun ls hl => ?_)
              refine lv_goto (tgt := 2) hx hb dL_arePacketsSo_152 (by decide) ?_
              refine W.widen (k := k + 1) (n := 6 * (k + 1)) (by omega) (by omega) ?_
              exact ih_2 (k + 1) (by omega) (by omega) _ _ hC hkp0 hS ls (lv_sub hl [0, 4, 5] rfl)
            · have hro := hok.2 ru (by omega)
              have hen := enN_le hro
              refine lv_iconst (v := (nI (0))) hx hb dL_arePacketsSo_52 (by decide +kernel) ?_
              refine lv_istore (lv' := [(6, .int (nI (0))), (5, .int (nI (ru))), (4, .int (dr)), (3, .int (nI (pk))), (2, .int (nI (k))), (0, .ref (x)), (1, .int (v))]) hx hb dL_arePacketsSo_53 hl (by decide) rfl (fun ls hl => ?_)
              refine lv_iconst (v := (nI (0))) hx hb dL_arePacketsSo_55 (by decide +kernel) ?_
              refine lv_istore (lv' := [(7, .int (nI (0))), (6, .int (nI (0))), (5, .int (nI (ru))), (4, .int (dr)), (3, .int (nI (pk))), (2, .int (nI (k))), (0, .ref (x)), (1, .int (v))]) hx hb dL_arePacketsSo_56 hl (by decide) rfl (fun ls hl => ?_)
              have loop_58 : ∀ (fu_58 : Nat) (me : Nat) (en : Nat), (en ≤ enN (gt rs ru)) → (me = metN (gt rs ru) pk en) → enN (gt rs ru) - en < fu_58 → ∀ ls : Array Slot, lv_has ls 8 [(7, .int (nI (en))), (6, .int (nI (me))), (5, .int (nI (ru))), (4, .int (dr)), (3, .int (nI (pk))), (2, .int (nI (k))), (0, .ref (x)), (1, .int (v))] → W p l e (rmG 12 6 36) s m args below meth c H locs (k + 1) (6 * k + 6) Q (F0 m 58 ls []) := by
                intro fu_58
                induction fu_58 with
                | zero => exact fun me en _ _ hk => absurd hk (Nat.not_lt_zero _)
                | succ fu_58 ih_58 =>
                  intro me en h4 h5 hk_58 ls hl
                  refine lv_iload hx hb dL_arePacketsSo_58 (lv_at hl 0 rfl) ?_
                  refine lv_aload_n hx hb dL_arePacketsSo_60 rfl (lv_at hl 6 rfl) ?_
                  refine lv_iload hx hb dL_arePacketsSo_61 (lv_at hl 2 rfl) ?_
                  refine Rd.callV (r := (nI (enN (gt rs (ru))))) (As := [.int (nI (ru))]) S (q_entries hC.hd (i := ru) (by omega)) (cwV 1 hts gL_arePacketsSo_X2_entries rfl rfl rfl (by decide +kernel) ⟨Nat.le_of_ble_eq_true rfl, Nat.le_of_ble_eq_true rfl⟩) hK (hC.hd.recv hK) rfl hl.1 rfl (Nat.le_of_ble_eq_true rfl) dL_arePacketsSo_63 ⟨(by show _ ≤ 6; omega), (by show _ ≤ 36; omega)⟩ ?_
                  refine nr_icmp_ge (tgt := 106) hx hb (by omega) (by omega) dL_arePacketsSo_66 (by decide) (fun c_66 => ?_) (fun c_66 => ?_)
                  · have hme : me = bN (mtB (gt rs ru) (pk / 128) (pk / 4 % 32) (pk % 4)) := by rw [h5, show en = enN (gt rs ru) from by omega]; exact met_q hro hpk
                    obtain ⟨F1, F2, F3⟩ := pk_fx hok hdr (by omega) (ru := ru) (by omega)
                    rw [← hme] at F1 F2 F3
                    have hm1 : me ≤ 1 := by rw [hme]; exact bN_le _
                    refine lv_iload hx hb dL_arePacketsSo_106 (lv_at hl 1 rfl) ?_
                    refine lv_iconst (v := (nI (1))) hx hb dL_arePacketsSo_108 (by decide +kernel) ?_
                    refine nr_icmp_gt (tgt := 141) hx hb (by omega) (by omega) dL_arePacketsSo_109 (by decide) (fun c_109 => absurd c_109 (by omega)) (fun c_109 => ?_)
                    refine lv_iload hx hb dL_arePacketsSo_112 (lv_at hl 2 rfl) ?_
                    refine lv_iload hx hb dL_arePacketsSo_114 (lv_at hl 3 rfl) ?_
                    refine lv_icmp_ne (tgt := 124) hx hb dL_arePacketsSo_116 (by decide) (fun c_116 => ?_) (fun c_116 => ?_)
                    · refine lv_iload hx hb dL_arePacketsSo_124 (lv_at hl 3 rfl) ?_
                      refine lv_if_lt (tgt := 136) hx hb dL_arePacketsSo_126 (by decide) (fun c_126 => ?_) (fun c_126 => ?_)
                      · refine lv_iload hx hb dL_arePacketsSo_136 (lv_at hl 1 rfl) ?_
                        refine lv_if_le (tgt := 143) hx hb dL_arePacketsSo_138 (by decide) (fun c_138 => ?_) (fun c_138 => absurd c_138 (fun z => z (by first | (rw [F2 c_126]; decide) | (rw [F3 (Int32.not_le.mp c_133)]; decide))))
                        refine lv_iinc (v := (nI (ru + 1))) (lv' := [(5, .int (nI (ru + 1))), (7, .int (nI (en))), (6, .int (nI (me))), (4, .int (dr)), (3, .int (nI (pk))), (2, .int (nI (k))), (0, .ref (x)), (1, .int (v))]) hx hb dL_arePacketsSo_143 hl (k := 2) rfl (nI_add _ _) (by decide) rfl (fun ls hl => ?_)
                        refine lv_goto (tgt := 43) hx hb dL_arePacketsSo_146 (by decide) ?_
                        exact ih_43 (ru + 1) (by omega) (by omega) ls (lv_sub hl [0, 3, 4, 5, 6, 7] rfl)
                      · refine lv_iload hx hb dL_arePacketsSo_129 (lv_at hl 2 rfl) ?_
                        refine lv_iload hx hb dL_arePacketsSo_131 (lv_at hl 3 rfl) ?_
                        refine lv_icmp_ge (tgt := 143) hx hb dL_arePacketsSo_133 (by decide) (fun c_133 => ?_) (fun c_133 => ?_)
                        · refine lv_iinc (v := (nI (ru + 1))) (lv' := [(5, .int (nI (ru + 1))), (7, .int (nI (en))), (6, .int (nI (me))), (4, .int (dr)), (3, .int (nI (pk))), (2, .int (nI (k))), (0, .ref (x)), (1, .int (v))]) hx hb dL_arePacketsSo_143 hl (k := 2) rfl (nI_add _ _) (by decide) rfl (fun ls hl => ?_)
                          refine lv_goto (tgt := 43) hx hb dL_arePacketsSo_146 (by decide) ?_
                          exact ih_43 (ru + 1) (by omega) (by omega) ls (lv_sub hl [0, 3, 4, 5, 6, 7] rfl)
                        · refine lv_iload hx hb dL_arePacketsSo_136 (lv_at hl 1 rfl) ?_
                          refine lv_if_le (tgt := 143) hx hb dL_arePacketsSo_138 (by decide) (fun c_138 => ?_) (fun c_138 => absurd c_138 (fun z => z (by first | (rw [F2 c_126]; decide) | (rw [F3 (Int32.not_le.mp c_133)]; decide))))
                          refine lv_iinc (v := (nI (ru + 1))) (lv' := [(5, .int (nI (ru + 1))), (7, .int (nI (en))), (6, .int (nI (me))), (4, .int (dr)), (3, .int (nI (pk))), (2, .int (nI (k))), (0, .ref (x)), (1, .int (v))]) hx hb dL_arePacketsSo_143 hl (k := 2) rfl (nI_add _ _) (by decide) rfl (fun ls hl => ?_)
                          refine lv_goto (tgt := 43) hx hb dL_arePacketsSo_146 (by decide) ?_
                          exact ih_43 (ru + 1) (by omega) (by omega) ls (lv_sub hl [0, 3, 4, 5, 6, 7] rfl)
                    · refine lv_iload hx hb dL_arePacketsSo_119 (lv_at hl 1 rfl) ?_
                      refine nr_if_eq (tgt := 141) hx hb (by omega) dL_arePacketsSo_121 (by decide) (fun c_121 => absurd c_121 (by have := F1 c_116; omega)) (fun c_121 => ?_)
                      refine lv_iload hx hb dL_arePacketsSo_124 (lv_at hl 3 rfl) ?_
                      refine lv_if_lt (tgt := 136) hx hb dL_arePacketsSo_126 (by decide) (fun c_126 => ?_) (fun c_126 => ?_)
                      · refine lv_iload hx hb dL_arePacketsSo_136 (lv_at hl 1 rfl) ?_
                        refine lv_if_le (tgt := 143) hx hb dL_arePacketsSo_138 (by decide) (fun c_138 => ?_) (fun c_138 => absurd c_138 (fun z => z (by first | (rw [F2 c_126]; decide) | (rw [F3 (Int32.not_le.mp c_133)]; decide))))
                        refine lv_iinc (v := (nI (ru + 1))) (lv' := [(5, .int (nI (ru + 1))), (7, .int (nI (en))), (6, .int (nI (me))), (4, .int (dr)), (3, .int (nI (pk))), (2, .int (nI (k))), (0, .ref (x)), (1, .int (v))]) hx hb dL_arePacketsSo_143 hl (k := 2) rfl (nI_add _ _) (by decide) rfl (fun ls hl => ?_)
                        refine lv_goto (tgt := 43) hx hb dL_arePacketsSo_146 (by decide) ?_
                        exact ih_43 (ru + 1) (by omega) (by omega) ls (lv_sub hl [0, 3, 4, 5, 6, 7] rfl)
                      · refine lv_iload hx hb dL_arePacketsSo_129 (lv_at hl 2 rfl) ?_
                        refine lv_iload hx hb dL_arePacketsSo_131 (lv_at hl 3 rfl) ?_
                        refine lv_icmp_ge (tgt := 143) hx hb dL_arePacketsSo_133 (by decide) (fun c_133 => ?_) (fun c_133 => ?_)
                        · refine lv_iinc (v := (nI (ru + 1))) (lv' := [(5, .int (nI (ru + 1))), (7, .int (nI (en))), (6, .int (nI (me))), (4, .int (dr)), (3, .int (nI (pk))), (2, .int (nI (k))), (0, .ref (x)), (1, .int (v))]) hx hb dL_arePacketsSo_143 hl (k := 2) rfl (nI_add _ _) (by decide) rfl (fun ls hl => ?_)
                          refine lv_goto (tgt := 43) hx hb dL_arePacketsSo_146 (by decide) ?_
                          exact ih_43 (ru + 1) (by omega) (by omega) ls (lv_sub hl [0, 3, 4, 5, 6, 7] rfl)
                        · refine lv_iload hx hb dL_arePacketsSo_136 (lv_at hl 1 rfl) ?_
                          refine lv_if_le (tgt := 143) hx hb dL_arePacketsSo_138 (by decide) (fun c_138 => ?_) (fun c_138 => absurd c_138 (fun z => z (by first | (rw [F2 c_126]; decide) | (rw [F3 (Int32.not_le.mp c_133)]; decide))))
                          refine lv_iinc (v := (nI (ru + 1))) (lv' := [(5, .int (nI (ru + 1))), (7, .int (nI (en))), (6, .int (nI (me))), (4, .int (dr)), (3, .int (nI (pk))), (2, .int (nI (k))), (0, .ref (x)), (1, .int (v))]) hx hb dL_arePacketsSo_143 hl (k := 2) rfl (nI_add _ _) (by decide) rfl (fun ls hl => ?_)
                          refine lv_goto (tgt := 43) hx hb dL_arePacketsSo_146 (by decide) ?_
                          exact ih_43 (ru + 1) (by omega) (by omega) ls (lv_sub hl [0, 3, 4, 5, 6, 7] rfl)
                  · refine lv_iload hx hb dL_arePacketsSo_69 (lv_at hl 1 rfl) ?_
                    refine lv_iload_n hx hb dL_arePacketsSo_71 rfl (lv_at hl 4 rfl) ?_
                    refine lv_aload_n hx hb dL_arePacketsSo_72 rfl (lv_at hl 6 rfl) ?_
                    refine lv_iload hx hb dL_arePacketsSo_73 (lv_at hl 2 rfl) ?_
                    refine lv_iload hx hb dL_arePacketsSo_75 (lv_at hl 0 rfl) ?_
                    refine Rd.callV (r := (nI (emN (gt rs (ru)) (en)))) (As := [.int (nI (ru)), .int (nI (en))]) S (q_entryMask hC.hd (i := ru) (e0 := en) (by omega) (by omega)) (cwV 2 hts gL_arePacketsSo_X2_entryMask rfl rfl rfl (by decide +kernel) ⟨Nat.le_of_ble_eq_true rfl, Nat.le_of_ble_eq_true rfl⟩) hK (hC.hd.recv hK) rfl hl.1 rfl (Nat.le_of_ble_eq_true rfl) dL_arePacketsSo_77 ⟨(by show _ ≤ 6; omega), (by show _ ≤ 36; omega)⟩ ?_
                    refine lv_iand hx hb dL_arePacketsSo_80 ?_
                    refine nr_top (y := (nI (pk &&& emN (gt rs (ru)) (en)))) (nx_and _ _) ?_
                    refine lv_aload_n hx hb dL_arePacketsSo_81 rfl (lv_at hl 6 rfl) ?_
                    refine lv_iload hx hb dL_arePacketsSo_82 (lv_at hl 2 rfl) ?_
                    refine lv_iload hx hb dL_arePacketsSo_84 (lv_at hl 0 rfl) ?_
                    refine Rd.callV (r := (nI (evN (gt rs (ru)) (en)))) (As := [.int (nI (ru)), .int (nI (en))]) S (q_entryValue hC.hd (i := ru) (e0 := en) (by omega) (by omega)) (cwV 2 hts gL_arePacketsSo_X2_entryValue rfl rfl rfl (by decide +kernel) ⟨Nat.le_of_ble_eq_true rfl, Nat.le_of_ble_eq_true rfl⟩) hK (hC.hd.recv hK) rfl hl.1 rfl (Nat.le_of_ble_eq_true rfl) dL_arePacketsSo_86 ⟨(by show _ ≤ 6; omega), (by show _ ≤ 36; omega)⟩ ?_
                    have hev := ev_lt (hok.2 ru (by omega)) (e := en) (by omega)
                    have hal : pk &&& emN (gt rs ru) en ≤ pk := Nat.and_le_left
                    refine nr_isE (t := 96) (j := 97) hx hb dL_arePacketsSo_89 (by decide) dL_arePacketsSo_92 dL_arePacketsSo_93 (by decide) dL_arePacketsSo_96 rfl ?_
                    refine nr_top (y := nI (bN (decide (pk &&& emN (gt rs ru) en = evN (gt rs ru) en)))) ((bI_nI _).trans (congrArg (fun z => nI (bN z)) (decide_eq_decide.mpr (nI_eq (by omega) (by omega))))) ?_
                    refine nr_iadd hx hb dL_arePacketsSo_97 ?_
                    refine lv_istore (lv' := [(6, .int (nI (me + (bN (decide (pk &&& emN (gt rs ru) en = evN (gt rs ru) en)))))), (7, .int (nI (en))), (5, .int (nI (ru))), (4, .int (dr)), (3, .int (nI (pk))), (2, .int (nI (k))), (0, .ref (x)), (1, .int (v))]) hx hb dL_arePacketsSo_98 hl (by decide) rfl (fun ls hl => ?_)
                    refine lv_iinc (v := (nI (en + 1))) (lv' := [(7, .int (nI (en + 1))), (6, .int (nI (me + (bN (decide (pk &&& emN (gt rs ru) en = evN (gt rs ru) en)))))), (5, .int (nI (ru))), (4, .int (dr)), (3, .int (nI (pk))), (2, .int (nI (k))), (0, .ref (x)), (1, .int (v))]) hx hb dL_arePacketsSo_100 hl (k := 1) rfl (nI_add _ _) (by decide) rfl (fun ls hl => ?_)
                    refine lv_goto (tgt := 58) hx hb dL_arePacketsSo_103 (by decide) ?_
                    exact ih_58 (me + (bN (decide (pk &&& emN (gt rs ru) en = evN (gt rs ru) en)))) (en + 1) (by omega) (by rw [h5]; rfl) (by omega) ls (lv_sub hl [0, 1, 2, 3, 4, 5, 6, 7] rfl)
              exact loop_58 _ (0) (0) (Nat.zero_le _) (rfl) (Nat.lt_succ_self _) ls (lv_sub hl [0, 1, 2, 3, 4, 5, 6, 7] rfl)
        exact loop_43 _ (0) (by omega) (Nat.lt_succ_self _) ls (lv_sub hl [0, 1, 2, 3, 4, 5] rfl)
  exact hcs (loop_2 _ 0 (Nat.zero_le _) (Nat.lt_succ_self _) _ _ hC hkp0 hS ls (lv_sub hl [0, 1, 2] rfl))
