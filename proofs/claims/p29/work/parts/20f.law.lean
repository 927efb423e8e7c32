/-! the law, turn by turn -/
set_option maxHeartbeats 64000000 in
set_option maxRecDepth 100000 in
theorem lc_109 {p : Program} {l : Launch} {e : Env} {s : State} {m : MethodId} {below : List Frame} {meth : Method} {c : Code} {b L : Nat} {xs : Nat → Int32} {D : va_G} {Y : Nat → ClassId} {t0 la x na la2 x2 na2 : Nat} (hEn : LEn l p s m meth c b L xs D Y t0) {k : Nat} (hk : k < 72) {v : Int32} {cells slots : Nat} (hc : cells + 0 ≤ 695921) (hs : slots + 0 ≤ 7014006) (hN : LC p l e s m below meth c b D Y t0 la x na la2 x2 na2 155 k v (cells + 0) (slots + 0)) : LC p l e s m below meth c b D Y t0 la x na la2 x2 na2 109 k v cells slots := by
  intro d0 ju mi lo rs H locs ls hd0 hT hJ hS hl
  obtain ⟨C0, hK0, hE0, hlt, hL⟩ := hEn
  obtain ⟨hx, hb, hr, hml, hown, hts0, hXs, hbl, hlocks, hgv⟩ := id C0
  have Sd : ∀ d : Drawn, CallFix p m c cL_law 8 (s.setDrawn d) #[Value.ref b] wsL_law RL := fun d => ⟨hx, hb, hml, hown, dr_words (fun w h => hts0 w (wsL_law_in w h)) d⟩
  have S := Sd d0
  have hts := S.2.2.2.2
  have hK := hK0.drawn d0
  have hXd : va_X b L xs (s.setDrawn d0) s.heap := va_X.moved (u := s) (U := s.setDrawn d0) (Vm.Alike.refl s.vm) hXs
  have hbA : ¬ bigA s b := Nat.not_le.mpr hbl
  have hn := hT.ok.1
  refine lv_iload_n hx hb dL_law_109 rfl (lv_at hl 3 rfl) ?_
  refine lv_iconst (v := (nI (5))) hx hb dL_law_110 (by decide +kernel) ?_
  refine nr_irem hx hb (by omega) (by omega) (by omega) dL_law_111 ?_
  refine lv_iconst (v := (nI (4))) hx hb dL_law_112 (by decide +kernel) ?_
  refine nr_icmp_ne (tgt := 155) hx hb (by omega) (by omega) dL_law_113 (by decide) (fun c_113 => ?_) (fun c_113 => ?_)
  · refine W.widen (k := cells + 0) (n := slots + 0) (by omega) (by omega) ?_
    exact hN _ _ _ _ _ _ _ ls hd0 hT hJ hS (lv_sub hl [0, 1, 2, 3, 4] rfl)
  · refine lv_aload_n hx hb dL_law_116 rfl (lv_at hl 1 rfl) ?_
    refine Rd.callV (r := nI (rs.length)) (As := []) S (q_rules hT.hd1) (cwV 0 hts gL_law_X2_rules rfl rfl rfl (by decide +kernel) ⟨Nat.le_of_ble_eq_true rfl, Nat.le_of_ble_eq_true rfl⟩) hK (hT.hd1.recv hK) rfl hl.1 rfl (Nat.le_of_ble_eq_true rfl) dL_law_117 ⟨(by show _ ≤ 695921; omega), (by show _ ≤ 7014006; omega)⟩ ?_
    refine lv_if_le (tgt := 155) hx hb dL_law_120 (by decide) (fun _ => ?_) (fun cz => ?_)
    · refine W.widen (k := cells + 0) (n := slots + 0) (by omega) (by omega) ?_
      exact hN _ _ _ _ _ _ _ ls hd0 hT hJ hS (lv_sub hl [0, 1, 2, 3, 4] rfl)
    · have hpos : 0 < rs.length := Nat.pos_of_ne_zero (fun z => cz (by rw [z]; decide))
      refine lv_aload_n hx hb dL_law_123 rfl (lv_at hl 1 rfl) ?_
      refine lv_iload hx hb dL_law_124 (lv_at hl 4 rfl) ?_
      refine lv_iconst (v := (nI (5))) hx hb dL_law_126 (by decide +kernel) ?_
      refine lv_ishr hx hb dL_law_127 ?_
      refine lv_aload_n hx hb dL_law_128 rfl (lv_at hl 1 rfl) ?_
      refine Rd.callV (r := nI (rs.length)) (As := []) S (q_rules hT.hd1) (cwV 0 hts gL_law_X2_rules rfl rfl rfl (by decide +kernel) ⟨Nat.le_of_ble_eq_true rfl, Nat.le_of_ble_eq_true rfl⟩) hK (hT.hd1.recv hK) rfl hl.1 rfl (Nat.le_of_ble_eq_true rfl) dL_law_129 ⟨(by show _ ≤ 695921; omega), (by show _ ≤ 7014006; omega)⟩ ?_
      obtain ⟨z132, hz132, hlow⟩ : ∃ z : Nat, z < rs.length ∧ Rd l yL_low wsL_low 0 D Y [.int (((v) >>> ((nI (5)) &&& 31))), .int (nI (rs.length))] H (nI z) := ⟨_, lowN_lt _ (by omega), k_L_low l (by omega) (by omega)⟩
      refine Rd.callS (r := nI z132) (As := [.int (((v) >>> ((nI (5)) &&& 31))), .int (nI (rs.length))]) S hlow (va_cwS 2 hts gL_law_L_low rfl rfl rfl (by decide +kernel) ⟨Nat.le_of_ble_eq_true rfl, Nat.le_of_ble_eq_true rfl⟩) hK rfl hl.1 rfl (Nat.le_of_ble_eq_true rfl) dL_law_132 ⟨(by show _ ≤ 695921; omega), (by show _ ≤ 7014006; omega)⟩ ?_
      refine lv_iload hx hb dL_law_135 (lv_at hl 4 rfl) ?_
      refine lv_bipush (v := (nI (8))) hx hb dL_law_137 (by decide +kernel) ?_
      refine lv_ishr hx hb dL_law_139 ?_
      refine lv_aload_n hx hb dL_law_140 rfl (lv_at hl 1 rfl) ?_
      refine Rd.callV (r := nI (rs.length)) (As := []) S (q_rules hT.hd1) (cwV 0 hts gL_law_X2_rules rfl rfl rfl (by decide +kernel) ⟨Nat.le_of_ble_eq_true rfl, Nat.le_of_ble_eq_true rfl⟩) hK (hT.hd1.recv hK) rfl hl.1 rfl (Nat.le_of_ble_eq_true rfl) dL_law_141 ⟨(by show _ ≤ 695921; omega), (by show _ ≤ 7014006; omega)⟩ ?_
      obtain ⟨z144, hz144, hlow⟩ : ∃ z : Nat, z < rs.length ∧ Rd l yL_low wsL_low 0 D Y [.int (((v) >>> ((nI (8)) &&& 31))), .int (nI (rs.length))] H (nI z) := ⟨_, lowN_lt _ (by omega), k_L_low l (by omega) (by omega)⟩
      refine Rd.callS (r := nI z144) (As := [.int (((v) >>> ((nI (8)) &&& 31))), .int (nI (rs.length))]) S hlow (va_cwS 2 hts gL_law_L_low rfl rfl rfl (by decide +kernel) ⟨Nat.le_of_ble_eq_true rfl, Nat.le_of_ble_eq_true rfl⟩) hK rfl hl.1 rfl (Nat.le_of_ble_eq_true rfl) dL_law_144 ⟨(by show _ ≤ 695921; omega), (by show _ ≤ 7014006; omega)⟩ ?_
      obtain ⟨F, hCF, hFr, hFb, hnext⟩ := hT.o
      refine UC.callS (As := [.ref x, .int (nI (z132)), .int (nI (z144))]) S (k_L_isMovedSo l hCF hz132 hz144) (va_cwS 3 hts gL_law_L_isMovedSo rfl rfl rfl (by decide +kernel) ⟨Nat.le_of_ble_eq_true rfl, Nat.le_of_ble_eq_true rfl⟩) hK eL_bl (fun U hW hU => eL.use hE0 hS hW hU hFb hFb) hS hFb rfl hl.1 rfl (Nat.le_of_ble_eq_true rfl) dL_law_147 ⟨(by show _ + 0 ≤ 695921; omega), (by show _ + 0 ≤ 7014006; omega)⟩ (fun v9 H locs hB hS hsz hkp => ?_)
      obtain ⟨rfl, hC1⟩ := hB
      have hT := hnext _ _ _ _ _ hC1 hsz hkp
      refine nr_ifB_ne (tgt := 155) hx hb dL_law_150 (by decide) (fun c_150 => ?_) (fun c_150 => absurd c_150 (by decide))
      refine W.widen (k := cells + 0) (n := slots + 0) (by omega) (by omega) ?_
      exact hN _ _ _ _ _ _ _ ls hd0 hT hJ hS (lv_sub hl [0, 1, 2, 3, 4] rfl)
