/-! the law, turn by turn -/
set_option maxHeartbeats 4000000 in
set_option maxRecDepth 100000 in
theorem lc_57 {p : Program} {l : Launch} {e : Env} {s : State} {m : MethodId} {below : List Frame} {meth : Method} {c : Code} {b L : Nat} {xs : Nat → Int32} {D : va_G} {Y : Nat → ClassId} {t0 la x na la2 x2 na2 : Nat} (hEn : LEn l p s m meth c b L xs D Y t0) {k : Nat} (hk : k < 72) {v : Int32} {cells slots : Nat} (hc : cells + 0 ≤ 695921) (hs : slots + 0 ≤ 7014006) (hN : LC p l e s m below meth c b D Y t0 la x na la2 x2 na2 72 k v (cells + 0) (slots + 0)) : LC p l e s m below meth c b D Y t0 la x na la2 x2 na2 57 k v cells slots := by
  intro d0 ju mi lo rs H locs ls hd0 hT hJ hS hl
  obtain ⟨C0, hK0, hE0, hlt, hL⟩ := hEn
  obtain ⟨hx, hb, hr, hml, hown, hts0, hXs, hbl, hlocks, hgv⟩ := id C0
  have Sd : ∀ d : Drawn, CallFix p m c cL_law 8 (s.setDrawn d) #[Value.ref b] wsL_law RL := fun d => ⟨hx, hb, hml, hown, dr_words (fun w h => hts0 w (wsL_law_in w h)) d⟩
  have S := Sd d0
  have hts := S.2.2.2.2
  have hK := hK0.drawn d0
  have hXd : va_X b L xs (s.setDrawn d0) s.heap := va_X.moved (u := s) (U := s.setDrawn d0) (Vm.Alike.refl s.vm) hXs
  have hbA : ¬ bigA s b := Nat.not_le.mpr hbl
  have hn := hT.ok.1
  refine lv_iload_n hx hb dL_law_57 rfl (lv_at hl 3 rfl) ?_
  refine lv_iconst (v := (nI (3))) hx hb dL_law_58 (by decide +kernel) ?_
  refine nr_irem hx hb (by omega) (by omega) (by omega) dL_law_59 ?_
  refine lv_iconst (v := (nI (2))) hx hb dL_law_60 (by decide +kernel) ?_
  refine nr_icmp_ne (tgt := 72) hx hb (by omega) (by omega) dL_law_61 (by decide) (fun c_61 => ?_) (fun c_61 => ?_)
  · refine W.widen (k := cells + 0) (n := slots + 0) (by omega) (by omega) ?_
    exact hN _ _ _ _ _ _ _ ls hd0 hT hJ hS (lv_sub hl [0, 1, 2, 3, 4] rfl)
  · refine lv_aload_n hx hb dL_law_64 rfl (lv_at hl 1 rfl) ?_
    refine lv_aload_n hx hb dL_law_65 rfl (lv_at hl 2 rfl) ?_
    obtain ⟨avq, hq, hav⟩ := hJ.av (by omega)
    refine UD.callS hd0 S (k_L_areAlike l (F := fun _ => False) hT.hd1 hT.hd2 hq hav) (va_cwS 2 hts gL_law_L_areAlike rfl rfl rfl (by decide +kernel) ⟨Nat.le_of_ble_eq_true rfl, Nat.le_of_ble_eq_true rfl⟩) hK eT_bl (fun _ _ _ => trivial) hS (fun q h => h.elim) rfl hl.1 rfl (Nat.le_of_ble_eq_true rfl) dL_law_66 ⟨(by show _ + 0 ≤ 695921; omega), (by show _ + 0 ≤ 7014006; omega)⟩ (fun d1 H1 locs hd1 hB hS hsz hkp => ?_)
    have e1 : H1 = _ := hB
    subst e1
    have S := Sd d1
    have hts := S.2.2.2.2
    have hK := hK0.drawn d1
    refine nr_ifB_eq (tgt := 107) hx hb dL_law_69 (by decide) (fun c_69 => absurd c_69 (by decide)) (fun c_69 => ?_)
    refine W.widen (k := cells + 0) (n := slots + 0) (by omega) (by omega) ?_
    exact hN _ _ _ _ _ _ _ ls hd1 hT hJ hS (lv_sub hl [0, 1, 2, 3, 4] rfl)
set_option maxHeartbeats 4000000 in
set_option maxRecDepth 100000 in
theorem lc_72 {p : Program} {l : Launch} {e : Env} {s : State} {m : MethodId} {below : List Frame} {meth : Method} {c : Code} {b L : Nat} {xs : Nat → Int32} {D : va_G} {Y : Nat → ClassId} {t0 la x na la2 x2 na2 : Nat} (hEn : LEn l p s m meth c b L xs D Y t0) {k : Nat} (hk : k < 72) {v : Int32} {cells slots : Nat} (hc : cells + 16 ≤ 695921) (hs : slots + 96 ≤ 7014006) (hN : LC p l e s m below meth c b D Y t0 la x na la2 x2 na2 88 k v (cells + 16) (slots + 96)) : LC p l e s m below meth c b D Y t0 la x na la2 x2 na2 72 k v cells slots := by
  intro d0 ju mi lo rs H locs ls hd0 hT hJ hS hl
  obtain ⟨C0, hK0, hE0, hlt, hL⟩ := hEn
  obtain ⟨hx, hb, hr, hml, hown, hts0, hXs, hbl, hlocks, hgv⟩ := id C0
  have Sd : ∀ d : Drawn, CallFix p m c cL_law 8 (s.setDrawn d) #[Value.ref b] wsL_law RL := fun d => ⟨hx, hb, hml, hown, dr_words (fun w h => hts0 w (wsL_law_in w h)) d⟩
  have S := Sd d0
  have hts := S.2.2.2.2
  have hK := hK0.drawn d0
  have hXd : va_X b L xs (s.setDrawn d0) s.heap := va_X.moved (u := s) (U := s.setDrawn d0) (Vm.Alike.refl s.vm) hXs
  have hbA : ¬ bigA s b := Nat.not_le.mpr hbl
  have hn := hT.ok.1
  refine lv_iload_n hx hb dL_law_72 rfl (lv_at hl 3 rfl) ?_
  refine lv_iconst (v := (nI (4))) hx hb dL_law_73 (by decide +kernel) ?_
  refine nr_irem hx hb (by omega) (by omega) (by omega) dL_law_74 ?_
  refine lv_iconst (v := (nI (1))) hx hb dL_law_75 (by decide +kernel) ?_
  refine nr_icmp_ne (tgt := 88) hx hb (by omega) (by omega) dL_law_76 (by decide) (fun c_76 => ?_) (fun c_76 => ?_)
  · refine W.widen (k := cells + 16) (n := slots + 96) (by omega) (by omega) ?_
    exact hN _ _ _ _ _ _ _ ls hd0 hT hJ hS (lv_sub hl [0, 1, 2, 3, 4] rfl)
  · refine lv_aload_n hx hb dL_law_79 rfl (lv_at hl 1 rfl) ?_
    refine lv_iload hx hb dL_law_80 (lv_at hl 4 rfl) ?_
    obtain ⟨avq, hq, hav⟩ := hJ.av (by omega)
    obtain ⟨G1, hC1⟩ := hT.c1
    refine UD.callS hd0 S (k_L_areRulesSo l (F := bigA s) hlt (v) hC1 hq hav) (va_cwS 2 hts gL_law_L_areRulesSo rfl rfl rfl (by decide +kernel) ⟨Nat.le_of_ble_eq_true rfl, Nat.le_of_ble_eq_true rfl⟩) hK eL_bl (fun U hW hU => eL.use hE0 hS hW hU (fun _ h => h) (fun _ h => h)) hS (fun q h => h) rfl hl.1 rfl (Nat.le_of_ble_eq_true rfl) dL_law_82 ⟨(by show _ + 16 ≤ 695921; omega), (by show _ + 96 ≤ 7014006; omega)⟩ (fun d1 H locs hd1 hB hS hsz hkp => ?_)
    have hT := hT.kp hB
    have S := Sd d1
    have hts := S.2.2.2.2
    have hK := hK0.drawn d1
    refine nr_ifB_eq (tgt := 107) hx hb dL_law_85 (by decide) (fun c_85 => absurd c_85 (by decide)) (fun c_85 => ?_)
    refine W.widen (k := cells + 16) (n := slots + 96) (by omega) (by omega) ?_
    exact hN _ _ _ _ _ _ _ ls hd1 hT hJ hS (lv_sub hl [0, 1, 2, 3, 4] rfl)
set_option maxHeartbeats 4000000 in
set_option maxRecDepth 100000 in
theorem lc_88 {p : Program} {l : Launch} {e : Env} {s : State} {m : MethodId} {below : List Frame} {meth : Method} {c : Code} {b L : Nat} {xs : Nat → Int32} {D : va_G} {Y : Nat → ClassId} {t0 la x na la2 x2 na2 : Nat} (hEn : LEn l p s m meth c b L xs D Y t0) {k : Nat} (hk : k < 72) {v : Int32} {cells slots : Nat} (hc : cells + 6 ≤ 695921) (hs : slots + 36 ≤ 7014006) (hN : LC p l e s m below meth c b D Y t0 la x na la2 x2 na2 109 k v (cells + 6) (slots + 36)) : LC p l e s m below meth c b D Y t0 la x na la2 x2 na2 88 k v cells slots := by
  intro d0 ju mi lo rs H locs ls hd0 hT hJ hS hl
  obtain ⟨C0, hK0, hE0, hlt, hL⟩ := hEn
  obtain ⟨hx, hb, hr, hml, hown, hts0, hXs, hbl, hlocks, hgv⟩ := id C0
  have Sd : ∀ d : Drawn, CallFix p m c cL_law 8 (s.setDrawn d) #[Value.ref b] wsL_law RL := fun d => ⟨hx, hb, hml, hown, dr_words (fun w h => hts0 w (wsL_law_in w h)) d⟩
  have S := Sd d0
  have hts := S.2.2.2.2
  have hK := hK0.drawn d0
  have hXd : va_X b L xs (s.setDrawn d0) s.heap := va_X.moved (u := s) (U := s.setDrawn d0) (Vm.Alike.refl s.vm) hXs
  have hbA : ¬ bigA s b := Nat.not_le.mpr hbl
  have hn := hT.ok.1
  refine lv_iload_n hx hb dL_law_88 rfl (lv_at hl 3 rfl) ?_
  refine lv_bipush (v := (nI (6))) hx hb dL_law_89 (by decide +kernel) ?_
  refine nr_irem hx hb (by omega) (by omega) (by omega) dL_law_91 ?_
  refine lv_iconst (v := (nI (3))) hx hb dL_law_92 (by decide +kernel) ?_
  refine nr_icmp_ne (tgt := 109) hx hb (by omega) (by omega) dL_law_93 (by decide) (fun c_93 => ?_) (fun c_93 => ?_)
  · refine W.widen (k := cells + 6) (n := slots + 36) (by omega) (by omega) ?_
    exact hN _ _ _ _ _ _ _ ls hd0 hT hJ hS (lv_sub hl [0, 1, 2, 3, 4] rfl)
  · refine lv_aload_n hx hb dL_law_96 rfl (lv_at hl 1 rfl) ?_
    refine lv_iload hx hb dL_law_97 (lv_at hl 4 rfl) ?_
    refine lv_iconst (v := (nI (1))) hx hb dL_law_99 (by decide +kernel) ?_
    refine lv_ishr hx hb dL_law_100 ?_
    obtain ⟨G1, hC1⟩ := hT.c1
    refine UC.callS (As := [.ref x, .int (((v) >>> ((nI (1)) &&& 31)))]) S (k_L_arePacketsSo l (F := bigA s) hlt (((v) >>> ((nI (1)) &&& 31))) hC1) (va_cwS 2 hts gL_law_L_arePacketsSo rfl rfl rfl (by decide +kernel) ⟨Nat.le_of_ble_eq_true rfl, Nat.le_of_ble_eq_true rfl⟩) hK eL_bl (fun U hW hU => eL.use hE0 hS hW hU (fun _ h => h) (fun _ h => h)) hS (fun q h => h) rfl hl.1 rfl (Nat.le_of_ble_eq_true rfl) dL_law_101 ⟨(by show _ + 6 ≤ 695921; omega), (by show _ + 36 ≤ 7014006; omega)⟩ (fun v9 H locs hB hS hsz hkp => ?_)
    obtain ⟨rfl, hB⟩ := hB
    have hT := hT.kp hB
    refine nr_ifB_ne (tgt := 109) hx hb dL_law_104 (by decide) (fun c_104 => ?_) (fun c_104 => absurd c_104 (by decide))
    refine W.widen (k := cells + 6) (n := slots + 36) (by omega) (by omega) ?_
    exact hN _ _ _ _ _ _ _ ls hd0 hT hJ hS (lv_sub hl [0, 1, 2, 3, 4] rfl)
set_option maxHeartbeats 4000000 in
set_option maxRecDepth 100000 in
theorem lc_109 {p : Program} {l : Launch} {e : Env} {s : State} {m : MethodId} {below : List Frame} {meth : Method} {c : Code} {b L : Nat} {xs : Nat → Int32} {D : va_G} {Y : Nat → ClassId} {t0 la x na la2 x2 na2 : Nat} (hEn : LEn l p s m meth c b L xs D Y t0) {k : Nat} (hk : k < 72) {v : Int32} {cells slots : Nat} (hc : cells + 0 ≤ 695921) (hs : slots + 0 ≤ 7014006) (hN : LC p l e s m below meth c b D Y t0 la x na la2 x2 na2 155 k v (cells + 0) (slots + 0)) : LC p l e s m below meth c b D Y t0 la x na la2 x2 na2 109 k v cells slots := by
  intro d0 ju mi lo rs H locs ls hd0 hT hJ hS hl
  obtain ⟨C0, hK0, hE0, hlt, hL⟩ := hEn
  obtain ⟨hx, hb, hr, hml, hown, hts0, hXs, hbl, hlocks, hgv⟩ := id C0
  have Sd : ∀ d : Drawn, CallFix p m c cL_law 8 (s.setDrawn d) #[Value.ref b] wsL_law RL := fun d => ⟨hx, hb, hml, hown, dr_words (fun w h => hts0 w (wsL_law_in w h)) d⟩
  have S := Sd d0
  have hts := S.2.2.2.2
  have hK := hK0.drawn d0
  have hXd : va_X b L xs (s.setDrawn d0) s.heap := va_X.moved (u := s) (U := s.setDrawn d0) (Vm.Alike.refl s.vm) hXs
  have hbA : ¬ bigA s b := Nat.not_le.mpr hbl
  have hn := hT.ok.1
  refine lv_iload_n hx hb dL_law_109 rfl (lv_at hl 3 rfl) ?_
  refine lv_iconst (v := (nI (5))) hx hb dL_law_110 (by decide +kernel) ?_
  refine nr_irem hx hb (by omega) (by omega) (by omega) dL_law_111 ?_
  refine lv_iconst (v := (nI (4))) hx hb dL_law_112 (by decide +kernel) ?_
  refine nr_icmp_ne (tgt := 155) hx hb (by omega) (by omega) dL_law_113 (by decide) (fun c_113 => ?_) (fun c_113 => ?_)
  · refine W.widen (k := cells + 0) (n := slots + 0) (by omega) (by omega) ?_
    exact hN _ _ _ _ _ _ _ ls hd0 hT hJ hS (lv_sub hl [0, 1, 2, 3, 4] rfl)
  · refine lv_aload_n hx hb dL_law_116 rfl (lv_at hl 1 rfl) ?_
    refine Rd.callV (r := nI (rs.length)) (As := []) S (q_rules hT.hd1) (cwV 0 hts gL_law_X2_rules rfl rfl rfl (by decide +kernel) ⟨Nat.le_of_ble_eq_true rfl, Nat.le_of_ble_eq_true rfl⟩) hK (hT.hd1.recv hK) rfl hl.1 rfl (Nat.le_of_ble_eq_true rfl) dL_law_117 ⟨(by show _ ≤ 695921; omega), (by show _ ≤ 7014006; omega)⟩ ?_
    refine lv_if_le (tgt := 155) hx hb dL_law_120 (by decide) (fun _ => ?_) (fun cz => ?_)
    · refine W.widen (k := cells + 0) (n := slots + 0) (by omega) (by omega) ?_
      exact hN _ _ _ _ _ _ _ ls hd0 hT hJ hS (lv_sub hl [0, 1, 2, 3, 4] rfl)
    · have hpos : 0 < rs.length := Nat.pos_of_ne_zero (fun z => cz (by rw [z]; decide))
      refine lv_aload_n hx hb dL_law_123 rfl (lv_at hl 1 rfl) ?_
      refine lv_iload hx hb dL_law_124 (lv_at hl 4 rfl) ?_
      refine lv_iconst (v := (nI (5))) hx hb dL_law_126 (by decide +kernel) ?_
      refine lv_ishr hx hb dL_law_127 ?_
      refine lv_aload_n hx hb dL_law_128 rfl (lv_at hl 1 rfl) ?_
      refine Rd.callV (r := nI (rs.length)) (As := []) S (q_rules hT.hd1) (cwV 0 hts gL_law_X2_rules rfl rfl rfl (by decide +kernel) ⟨Nat.le_of_ble_eq_true rfl, Nat.le_of_ble_eq_true rfl⟩) hK (hT.hd1.recv hK) rfl hl.1 rfl (Nat.le_of_ble_eq_true rfl) dL_law_129 ⟨(by show _ ≤ 695921; omega), (by show _ ≤ 7014006; omega)⟩ ?_
      obtain ⟨z132, hz132, hlow⟩ : ∃ z : Nat, z < rs.length ∧ Rd l yL_low wsL_low 0 D Y [.int (((v) >>> ((nI (5)) &&& 31))), .int (nI (rs.length))] H (nI z) := ⟨_, lowN_lt _ (by omega), k_L_low l (by omega) (by omega)⟩
      refine Rd.callS (r := nI z132) (As := [.int (((v) >>> ((nI (5)) &&& 31))), .int (nI (rs.length))]) S hlow (va_cwS 2 hts gL_law_L_low rfl rfl rfl (by decide +kernel) ⟨Nat.le_of_ble_eq_true rfl, Nat.le_of_ble_eq_true rfl⟩) hK rfl hl.1 rfl (Nat.le_of_ble_eq_true rfl) dL_law_132 ⟨(by show _ ≤ 695921; omega), (by show _ ≤ 7014006; omega)⟩ ?_
      refine lv_iload hx hb dL_law_135 (lv_at hl 4 rfl) ?_
      refine lv_bipush (v := (nI (8))) hx hb dL_law_137 (by decide +kernel) ?_
      refine lv_ishr hx hb dL_law_139 ?_
      refine lv_aload_n hx hb dL_law_140 rfl (lv_at hl 1 rfl) ?_
      refine Rd.callV (r := nI (rs.length)) (As := []) S (q_rules hT.hd1) (cwV 0 hts gL_law_X2_rules rfl rfl rfl (by decide +kernel) ⟨Nat.le_of_ble_eq_true rfl, Nat.le_of_ble_eq_true rfl⟩) hK (hT.hd1.recv hK) rfl hl.1 rfl (Nat.le_of_ble_eq_true rfl) dL_law_141 ⟨(by show _ ≤ 695921; omega), (by show _ ≤ 7014006; omega)⟩ ?_
      obtain ⟨z144, hz144, hlow⟩ : ∃ z : Nat, z < rs.length ∧ Rd l yL_low wsL_low 0 D Y [.int (((v) >>> ((nI (8)) &&& 31))), .int (nI (rs.length))] H (nI z) := ⟨_, lowN_lt _ (by omega), k_L_low l (by omega) (by omega)⟩
      refine Rd.callS (r := nI z144) (As := [.int (((v) >>> ((nI (8)) &&& 31))), .int (nI (rs.length))]) S hlow (va_cwS 2 hts gL_law_L_low rfl rfl rfl (by decide +kernel) ⟨Nat.le_of_ble_eq_true rfl, Nat.le_of_ble_eq_true rfl⟩) hK rfl hl.1 rfl (Nat.le_of_ble_eq_true rfl) dL_law_144 ⟨(by show _ ≤ 695921; omega), (by show _ ≤ 7014006; omega)⟩ ?_
      obtain ⟨F, hCF, hFr, hFb, hnext⟩ := hT.o
      refine UC.callS (As := [.ref x, .int (nI (z132)), .int (nI (z144))]) S (k_L_isMovedSo l hCF hz132 hz144) (va_cwS 3 hts gL_law_L_isMovedSo rfl rfl rfl (by decide +kernel) ⟨Nat.le_of_ble_eq_true rfl, Nat.le_of_ble_eq_true rfl⟩) hK eL_bl (fun U hW hU => eL.use hE0 hS hW hU hFb hFb) hS hFb rfl hl.1 rfl (Nat.le_of_ble_eq_true rfl) dL_law_147 ⟨(by show _ + 0 ≤ 695921; omega), (by show _ + 0 ≤ 7014006; omega)⟩ (fun v9 H locs hB hS hsz hkp => ?_)
      obtain ⟨rfl, hC1⟩ := hB
      have hT := hnext _ _ _ _ _ hC1 hsz hkp
      refine nr_ifB_ne (tgt := 155) hx hb dL_law_150 (by decide) (fun c_150 => ?_) (fun c_150 => absurd c_150 (by decide))
      refine W.widen (k := cells + 0) (n := slots + 0) (by omega) (by omega) ?_
      exact hN _ _ _ _ _ _ _ ls hd0 hT hJ hS (lv_sub hl [0, 1, 2, 3, 4] rfl)
set_option maxHeartbeats 4000000 in
set_option maxRecDepth 100000 in
theorem lc_155 {p : Program} {l : Launch} {e : Env} {s : State} {m : MethodId} {below : List Frame} {meth : Method} {c : Code} {b L : Nat} {xs : Nat → Int32} {D : va_G} {Y : Nat → ClassId} {t0 la x na la2 x2 na2 : Nat} (hEn : LEn l p s m meth c b L xs D Y t0) {k : Nat} (hk : k < 72) {v : Int32} {cells slots : Nat} (hc : cells + 200 ≤ 695921) (hs : slots + 600 ≤ 7014006) (hN : LC p l e s m below meth c b D Y t0 la x na la2 x2 na2 228 k v (cells + 200) (slots + 600)) : LC p l e s m below meth c b D Y t0 la x na la2 x2 na2 155 k v cells slots := by
  intro d0 ju mi lo rs H locs ls hd0 hT hJ hS hl
  obtain ⟨C0, hK0, hE0, hlt, hL⟩ := hEn
  obtain ⟨hx, hb, hr, hml, hown, hts0, hXs, hbl, hlocks, hgv⟩ := id C0
  have Sd : ∀ d : Drawn, CallFix p m c cL_law 8 (s.setDrawn d) #[Value.ref b] wsL_law RL := fun d => ⟨hx, hb, hml, hown, dr_words (fun w h => hts0 w (wsL_law_in w h)) d⟩
  have S := Sd d0
  have hts := S.2.2.2.2
  have hK := hK0.drawn d0
  have hXd : va_X b L xs (s.setDrawn d0) s.heap := va_X.moved (u := s) (U := s.setDrawn d0) (Vm.Alike.refl s.vm) hXs
  have hbA : ¬ bigA s b := Nat.not_le.mpr hbl
  have hn := hT.ok.1
  refine lv_iload_n hx hb dL_law_155 rfl (lv_at hl 3 rfl) ?_
  refine lv_bipush (v := (nI (24))) hx hb dL_law_156 (by decide +kernel) ?_
  refine nr_irem hx hb (by omega) (by omega) (by omega) dL_law_158 ?_
  refine lv_bipush (v := (nI (20))) hx hb dL_law_159 (by decide +kernel) ?_
  refine nr_icmp_ne (tgt := 228) hx hb (by omega) (by omega) dL_law_161 (by decide) (fun c_161 => ?_) (fun c_161 => ?_)
  · refine W.widen (k := cells + 200) (n := slots + 600) (by omega) (by omega) ?_
    exact hN _ _ _ _ _ _ _ ls hd0 hT hJ hS (lv_sub hl [0, 1, 2, 3, 4] rfl)
  · have q1 := pmE_T (pmE_itS rs.length hT.ok)
    have hok2 : rsOk (itS rs.length rs).1 := itS_ok rs.length hT.ok
    have q2 := pmE_T (pmE_sor (rs := (itS rs.length rs).1) (by have := hok2.1; omega))
    have q3 := itS_cnt rs.length rs
    have q4 : (sor (itS rs.length rs).1).2 ≤ 240 := Nat.le_trans (soF_le 241 _) (invR_le hok2.1)
    have q5 := pmT_le rs
    have q6 := pmT_le (itS rs.length rs).1
    have q7 := pmT_le (sor (itS rs.length rs).1).1
    refine lv_aload_n hx hb dL_law_164 rfl (lv_at hl 1 rfl) ?_
    refine Rd.callV (r := nI (pmT (rs))) (As := []) S (q_permitted hT.hd1) (cwV 0 hts gL_law_X2_permitted rfl rfl rfl (by decide +kernel) ⟨Nat.le_of_ble_eq_true rfl, Nat.le_of_ble_eq_true rfl⟩) hK (hT.hd1.recv hK) rfl hl.1 rfl (Nat.le_of_ble_eq_true rfl) dL_law_165 ⟨(by show _ ≤ 695921; omega), (by show _ ≤ 7014006; omega)⟩ ?_
    refine lv_istore (lv' := [(6, .int (nI (pmT (rs)))), (0, .ref (b)), (1, .ref (x)), (2, .ref (x2)), (3, .int (nI (k))), (4, .int (v))]) hx hb dL_law_168 hl (by decide) rfl (fun ls hl => ?_)
    refine lv_aload_n hx hb dL_law_170 rfl (lv_at hl 2 rfl) ?_
    obtain ⟨F, hCF, hFr, hFb, hnext⟩ := hT.o
    obtain ⟨dd, mc, ms, hbd, hU⟩ := cl_shorten l ju mi lo (rs) D Y F t0 la x na _ hCF hFr
    refine UC.callV (As := []) S hU (cwV 0 hts gL_law_X2_shorten rfl rfl rfl (by decide +kernel) ⟨(by show dd + 1 ≤ 2048; omega), (by show 8 + (4 + 11) + 40 * dd ≤ 84000; omega)⟩) hK eL_bl (fun U hW hU => eL.use hE0 hS hW hU hFb hFb) hS hFb (hT.hd1.recv hK) rfl hl.1 rfl (Nat.le_of_ble_eq_true rfl) dL_law_171 ⟨(by show _ + mc ≤ 695921; omega), (by show _ + ms ≤ 7014006; omega)⟩ (fun v9 H locs hB hS hsz hkp => ?_)
    obtain ⟨rfl, hC1⟩ := hB
    have hT := hnext _ _ _ _ _ hC1 hsz hkp
    refine W.widen (k := cells + 40) (n := slots + 120) (by omega) (by omega) ?_
    refine lv_istore (lv' := [(7, .int (nI ((itS rs.length rs).2))), (6, .int (nI (pmT (rs)))), (0, .ref (b)), (1, .ref (x)), (2, .ref (x2)), (3, .int (nI (k))), (4, .int (v))]) hx hb dL_law_174 hl (by decide) rfl (fun ls hl => ?_)
    refine lv_iload hx hb dL_law_176 (lv_at hl 0 rfl) ?_
    refine lv_if_lt (tgt := 226) hx hb dL_law_178 (by decide) (fun c_178 => absurd c_178 (nI_pos (by omega))) (fun c_178 => ?_)
    refine lv_aload_n hx hb dL_law_181 rfl (lv_at hl 4 rfl) ?_
    obtain ⟨F, hCF, hFr, hFb, hnext⟩ := hT.sym.o
    obtain ⟨dd, mc, ms, hbd, hU⟩ := cl_shorten l ju mi lo (rs) D Y F t0 la2 x2 na2 _ hCF hFr
    refine UC.callV (As := []) S hU (cwV 0 hts gL_law_X2_shorten rfl rfl rfl (by decide +kernel) ⟨(by show dd + 1 ≤ 2048; omega), (by show 8 + (4 + 11) + 40 * dd ≤ 84000; omega)⟩) hK eL_bl (fun U hW hU => eL.use hE0 hS hW hU hFb hFb) hS hFb (hT.hd2.recv hK) rfl hl.1 rfl (Nat.le_of_ble_eq_true rfl) dL_law_182 ⟨(by show _ + mc ≤ 695921; omega), (by show _ + ms ≤ 7014006; omega)⟩ (fun v9 H locs hB hS hsz hkp => ?_)
    obtain ⟨rfl, hC1⟩ := hB
    have hT := hnext _ _ _ _ _ hC1 hsz hkp
    have hT := hT.sym
    refine W.widen (k := cells + 80) (n := slots + 240) (by omega) (by omega) ?_
    refine lv_iload hx hb dL_law_185 (lv_at hl 0 rfl) ?_
    refine nr_icmp_ne (tgt := 226) hx hb (by omega) (by omega) dL_law_187 (by decide) (fun c_187 => absurd c_187 (by omega)) (fun c_187 => ?_)
    refine lv_aload_n hx hb dL_law_190 rfl (lv_at hl 3 rfl) ?_
    refine Rd.callV (r := nI (pmT ((itS rs.length rs).1))) (As := []) S (q_permitted hT.hd1) (cwV 0 hts gL_law_X2_permitted rfl rfl rfl (by decide +kernel) ⟨Nat.le_of_ble_eq_true rfl, Nat.le_of_ble_eq_true rfl⟩) hK (hT.hd1.recv hK) rfl hl.1 rfl (Nat.le_of_ble_eq_true rfl) dL_law_191 ⟨(by show _ ≤ 695921; omega), (by show _ ≤ 7014006; omega)⟩ ?_
    refine lv_iload hx hb dL_law_194 (lv_at hl 1 rfl) ?_
    refine nr_icmp_ne (tgt := 226) hx hb (by omega) (by omega) dL_law_196 (by decide) (fun c_196 => absurd c_196 (by omega)) (fun c_196 => ?_)
    refine lv_aload_n hx hb dL_law_199 rfl (lv_at hl 3 rfl) ?_
    obtain ⟨F, hCF, hFr, hFb, hnext⟩ := hT.o
    obtain ⟨dd, mc, ms, hbd, hU⟩ := cl_shorten l ju mi lo ((itS rs.length rs).1) D Y F t0 la x na _ hCF hFr
    refine UC.callV (As := []) S hU (cwV 0 hts gL_law_X2_shorten rfl rfl rfl (by decide +kernel) ⟨(by show dd + 1 ≤ 2048; omega), (by show 8 + (4 + 11) + 40 * dd ≤ 84000; omega)⟩) hK eL_bl (fun U hW hU => eL.use hE0 hS hW hU hFb hFb) hS hFb (hT.hd1.recv hK) rfl hl.1 rfl (Nat.le_of_ble_eq_true rfl) dL_law_200 ⟨(by show _ + mc ≤ 695921; omega), (by show _ + ms ≤ 7014006; omega)⟩ (fun v9 H locs hB hS hsz hkp => ?_)
    obtain ⟨rfl, hC1⟩ := hB
    have hT := hnext _ _ _ _ _ hC1 hsz hkp
    refine W.widen (k := cells + 120) (n := slots + 360) (by omega) (by omega) ?_
    have e9 := itS_two rs
    have e91 : (itS (itS rs.length rs).1.length (itS rs.length rs).1).1 = (itS rs.length rs).1 := congrArg Prod.fst e9
    have e92 : (itS (itS rs.length rs).1.length (itS rs.length rs).1).2 = 0 := congrArg Prod.snd e9
    rw [e91] at hT
    rw [e92]
    refine nr_if_ne (tgt := 226) hx hb (by omega) dL_law_203 (by decide) (fun c_203 => absurd c_203 (by decide)) (fun c_203 => ?_)
    refine lv_aload_n hx hb dL_law_206 rfl (lv_at hl 3 rfl) ?_
    obtain ⟨F, hCF, hFr, hFb, hnext⟩ := hT.o
    obtain ⟨dd, mc, ms, hbd, hU⟩ := cl_sort l ju mi lo ((itS rs.length rs).1) D Y F t0 la x na _ hCF hFr
    refine UC.callV (As := []) S hU (cwV 0 hts gL_law_X2_sortByHits rfl rfl rfl (by decide +kernel) ⟨(by show dd + 1 ≤ 2048; omega), (by show 8 + (4 + 11) + 40 * dd ≤ 84000; omega)⟩) hK eL_bl (fun U hW hU => eL.use hE0 hS hW hU hFb hFb) hS hFb (hT.hd1.recv hK) rfl hl.1 rfl (Nat.le_of_ble_eq_true rfl) dL_law_207 ⟨(by show _ + mc ≤ 695921; omega), (by show _ + ms ≤ 7014006; omega)⟩ (fun v9 H locs hB hS hsz hkp => ?_)
    obtain ⟨rfl, hC1⟩ := hB
    have hT := hnext _ _ _ _ _ hC1 hsz hkp
    refine W.widen (k := cells + 160) (n := slots + 480) (by omega) (by omega) ?_
    refine lv_aload_n hx hb dL_law_210 rfl (lv_at hl 4 rfl) ?_
    obtain ⟨F, hCF, hFr, hFb, hnext⟩ := hT.sym.o
    obtain ⟨dd, mc, ms, hbd, hU⟩ := cl_sort l ju mi lo ((itS rs.length rs).1) D Y F t0 la2 x2 na2 _ hCF hFr
    refine UC.callV (As := []) S hU (cwV 0 hts gL_law_X2_sortByHits rfl rfl rfl (by decide +kernel) ⟨(by show dd + 1 ≤ 2048; omega), (by show 8 + (4 + 11) + 40 * dd ≤ 84000; omega)⟩) hK eL_bl (fun U hW hU => eL.use hE0 hS hW hU hFb hFb) hS hFb (hT.hd2.recv hK) rfl hl.1 rfl (Nat.le_of_ble_eq_true rfl) dL_law_211 ⟨(by show _ + mc ≤ 695921; omega), (by show _ + ms ≤ 7014006; omega)⟩ (fun v9 H locs hB hS hsz hkp => ?_)
    obtain ⟨rfl, hC1⟩ := hB
    have hT := hnext _ _ _ _ _ hC1 hsz hkp
    have hT := hT.sym
    refine W.widen (k := cells + 200) (n := slots + 600) (by omega) (by omega) ?_
    refine nr_icmp_ne (tgt := 226) hx hb (by omega) (by omega) dL_law_214 (by decide) (fun c_214 => absurd c_214 (by omega)) (fun c_214 => ?_)
    refine lv_aload_n hx hb dL_law_217 rfl (lv_at hl 3 rfl) ?_
    refine Rd.callV (r := nI (pmT ((sor (itS rs.length rs).1).1))) (As := []) S (q_permitted hT.hd1) (cwV 0 hts gL_law_X2_permitted rfl rfl rfl (by decide +kernel) ⟨Nat.le_of_ble_eq_true rfl, Nat.le_of_ble_eq_true rfl⟩) hK (hT.hd1.recv hK) rfl hl.1 rfl (Nat.le_of_ble_eq_true rfl) dL_law_218 ⟨(by show _ ≤ 695921; omega), (by show _ ≤ 7014006; omega)⟩ ?_
    refine lv_iload hx hb dL_law_221 (lv_at hl 1 rfl) ?_
    refine nr_icmp_eq (tgt := 228) hx hb (by omega) (by omega) dL_law_223 (by decide) (fun c_223 => ?_) (fun c_223 => absurd c_223 (by omega))
    refine W.widen (k := cells + 200) (n := slots + 600) (by omega) (by omega) ?_
    exact hN _ _ _ _ _ _ _ ls hd0 hT hJ hS (lv_sub hl [2, 3, 4, 5, 6] rfl)
set_option maxHeartbeats 4000000 in
set_option maxRecDepth 100000 in
theorem lc_24 {p : Program} {l : Launch} {e : Env} {s : State} {m : MethodId} {below : List Frame} {meth : Method} {c : Code} {b L : Nat} {xs : Nat → Int32} {D : va_G} {Y : Nat → ClassId} {t0 la x na la2 x2 na2 : Nat} (hEn : LEn l p s m meth c b L xs D Y t0) {k : Nat} (hk : k < 72) {cells slots : Nat} (hc : cells + 80 ≤ 695921) (hs : slots + 240 ≤ 7014006) (hN : ∀ v, LC p l e s m below meth c b D Y t0 la x na la2 x2 na2 57 k v (cells + 80) (slots + 240)) (d0 : Drawn) (ju mi lo : Int32) (rs : List RV) (H : Heap) (locs : List Loc) (ls : Array Slot) (hd0 : s.drawn.sameBut d0 lw_cs) (hT : Tw D Y t0 s.heap.size la x na la2 x2 na2 ju mi lo rs ju mi lo rs H) (hJ : JL ju lo k) (hS : va_S (bigA s) s.heap H locs) (hl : lv_has ls 8 [(0, .ref b), (1, .ref x), (2, .ref x2), (3, .int (nI k))]) : lwW p l e s m below meth c b d0 H locs cells slots (F0 m 24 ls []) := by
  obtain ⟨C0, hK0, hE0, hlt, hL⟩ := hEn
  obtain ⟨hx, hb, hr, hml, hown, hts0, hXs, hbl, hlocks, hgv⟩ := id C0
  have Sd : ∀ d : Drawn, CallFix p m c cL_law 8 (s.setDrawn d) #[Value.ref b] wsL_law RL := fun d => ⟨hx, hb, hml, hown, dr_words (fun w h => hts0 w (wsL_law_in w h)) d⟩
  have S := Sd d0
  have hts := S.2.2.2.2
  have hK := hK0.drawn d0
  have hXd : va_X b L xs (s.setDrawn d0) s.heap := va_X.moved (u := s) (U := s.setDrawn d0) (Vm.Alike.refl s.vm) hXs
  have hbA : ¬ bigA s b := Nat.not_le.mpr hbl
  refine lv_aload_n hx hb dL_law_24 rfl (lv_at hl 0 rfl) ?_
  refine lv_iload_n hx hb dL_law_25 rfl (lv_at hl 3 rfl) ?_
  refine UC.callS (As := [.ref b, .int (nI (k))]) S (k_L_cell l (D := D) (Y := Y) (F := fun _ => False) (b := b) (L := L) (k := k) (xs := xs) (by omega) (by omega) (fun z => z)) (va_cwS 2 hts gL_law_L_cell rfl rfl rfl (by decide +kernel) ⟨Nat.le_of_ble_eq_true rfl, Nat.le_of_ble_eq_true rfl⟩) hK eScr_bl (fun U hW hU => ⟨by rw [hU]; exact va_X.moved hW.alike (hXd.kept (hS.2.1 b hbl hbA)), by rw [hU]; exact Nat.lt_of_lt_of_le hbl hS.1⟩) hS (fun q h => h.elim) rfl hl.1 rfl (Nat.le_of_ble_eq_true rfl) dL_law_26 ⟨(by show _ + 0 ≤ 695921; omega), (by show _ + 0 ≤ 7014006; omega)⟩ (fun v9 H1 locs hB hS hsz hkp => ?_)
  obtain ⟨rfl, e1⟩ := hB
  subst e1
  refine W.widen (k := cells) (n := slots) (by omega) (by omega) ?_
  obtain ⟨v, hv⟩ : ∃ v : Int32, v = cellV L xs k := ⟨_, rfl⟩
  refine nr_top (y := v) hv.symm ?_
  obtain ⟨r, ju2, mi2, lo2, rs2, hr9, hJ2, hAct⟩ := k_L_act l hlt v (ju := ju) (mi := mi) (lo := lo) (rs := rs) hT.ok
  refine lv_istore (lv' := [(4, .int (v)), (0, .ref (b)), (1, .ref (x)), (2, .ref (x2)), (3, .int (nI (k)))]) hx hb dL_law_29 hl (by decide) rfl (fun ls hl => ?_)
  refine lv_aload_n hx hb dL_law_31 rfl (lv_at hl 2 rfl) ?_
  refine lv_iload hx hb dL_law_32 (lv_at hl 0 rfl) ?_
  obtain ⟨F, hCF, hFr, hFb, hnext⟩ := hT.o
  refine UC.callS (As := [.ref (x), .int (v)]) S (hAct D Y F t0 la x na _ hCF hFr) (va_cwS 2 hts gL_law_L_act rfl rfl rfl (by decide +kernel) ⟨Nat.le_of_ble_eq_true rfl, Nat.le_of_ble_eq_true rfl⟩) hK eL_bl (fun U hW hU => eL.use hE0 hS hW hU hFb hFb) hS hFb rfl hl.1 rfl (Nat.le_of_ble_eq_true rfl) dL_law_34 ⟨(by show _ + 40 ≤ 695921; omega), (by show _ + 120 ≤ 7014006; omega)⟩ (fun v9 H locs hB hS hsz hkp => ?_)
  obtain ⟨rfl, hC1⟩ := hB
  have hT := hnext _ _ _ _ _ hC1 hsz hkp
  refine lv_istore (lv' := [(5, .int (r)), (4, .int (v)), (0, .ref (b)), (1, .ref (x)), (2, .ref (x2)), (3, .int (nI (k)))]) hx hb dL_law_37 hl (by decide) rfl (fun ls hl => ?_)
  refine lv_iload hx hb dL_law_39 (lv_at hl 0 rfl) ?_
  refine lv_ldc hx hb S.2.2.2.1 (hts _ (List.mem_of_getElem? (i := 3) (by decide +kernel))) dL_law_41 ?_
  refine lv_icmp_eq (tgt := 57) hx hb dL_law_43 (by decide) (fun c43 => ?_) (fun c43 => ?_)
  · obtain ⟨e1, e2, e3, e4⟩ := hr9 c43
    subst e1
    subst e2
    subst e3
    subst e4
    refine W.widen (k := cells + 80) (n := slots + 240) (by omega) (by omega) ?_
    exact hN v _ _ _ _ _ _ _ ls hd0 hT (hJ2 k hJ) hS (lv_sub hl [2, 3, 4, 5, 1] rfl)
  · refine lv_aload_n hx hb dL_law_46 rfl (lv_at hl 4 rfl) ?_
    refine lv_iload hx hb dL_law_47 (lv_at hl 1 rfl) ?_
    obtain ⟨F, hCF, hFr, hFb, hnext⟩ := hT.sym.o
    refine UC.callS (As := [.ref (x2), .int (v)]) S (hAct D Y F t0 la2 x2 na2 _ hCF hFr) (va_cwS 2 hts gL_law_L_act rfl rfl rfl (by decide +kernel) ⟨Nat.le_of_ble_eq_true rfl, Nat.le_of_ble_eq_true rfl⟩) hK eL_bl (fun U hW hU => eL.use hE0 hS hW hU hFb hFb) hS hFb rfl hl.1 rfl (Nat.le_of_ble_eq_true rfl) dL_law_49 ⟨(by show _ + 40 ≤ 695921; omega), (by show _ + 120 ≤ 7014006; omega)⟩ (fun v9 H locs hB hS hsz hkp => ?_)
    obtain ⟨rfl, hC1⟩ := hB
    have hT := hnext _ _ _ _ _ hC1 hsz hkp
    have hT := hT.sym
    refine lv_iload hx hb dL_law_52 (lv_at hl 0 rfl) ?_
    refine lv_icmp_ne (tgt := 107) hx hb dL_law_54 (by decide) (fun c_54 => absurd c_54 (fun z => z rfl)) (fun c_54 => ?_)
    refine W.widen (k := cells + 80) (n := slots + 240) (by omega) (by omega) ?_
    exact hN v _ _ _ _ _ _ _ ls hd0 hT (hJ2 k hJ) hS (lv_sub hl [2, 3, 4, 5, 1] rfl)
set_option maxHeartbeats 4000000 in
set_option maxRecDepth 100000 in
theorem lc_234 {p : Program} {l : Launch} {e : Env} {s : State} {m : MethodId} {below : List Frame} {meth : Method} {c : Code} {b L : Nat} {xs : Nat → Int32} {D : va_G} {Y : Nat → ClassId} {t0 la x na la2 x2 na2 : Nat} (hEn : LEn l p s m meth c b L xs D Y t0) {cells slots : Nat} (hc : cells + 100 ≤ 695921) (hs : slots + 300 ≤ 7014006) (d0 : Drawn) (ju mi lo : Int32) (rs : List RV) (H : Heap) (locs : List Loc) (ls : Array Slot) (hd0 : s.drawn.sameBut d0 lw_cs) (hT : Tw D Y t0 s.heap.size la x na la2 x2 na2 ju mi lo rs ju mi lo rs H) (hJ : JL ju lo 72) (hS : va_S (bigA s) s.heap H locs) (hl : lv_has ls 8 [(0, .ref b), (1, .ref x), (2, .ref x2)]) : lwW p l e s m below meth c b d0 H locs cells slots (F0 m 234 ls []) := by
  obtain ⟨C0, hK0, hE0, hlt, hL⟩ := hEn
  obtain ⟨hx, hb, hr, hml, hown, hts0, hXs, hbl, hlocks, hgv⟩ := id C0
  have Sd : ∀ d : Drawn, CallFix p m c cL_law 8 (s.setDrawn d) #[Value.ref b] wsL_law RL := fun d => ⟨hx, hb, hml, hown, dr_words (fun w h => hts0 w (wsL_law_in w h)) d⟩
  have S := Sd d0
  have hts := S.2.2.2.2
  have hK := hK0.drawn d0
  have hXd : va_X b L xs (s.setDrawn d0) s.heap := va_X.moved (u := s) (U := s.setDrawn d0) (Vm.Alike.refl s.vm) hXs
  have hbA : ¬ bigA s b := Nat.not_le.mpr hbl
  refine lv_aload_n hx hb dL_law_234 rfl (lv_at hl 1 rfl) ?_
  refine lv_aload_n hx hb dL_law_235 rfl (lv_at hl 2 rfl) ?_
  obtain ⟨avq, hq, hav⟩ := hJ.av (by omega)
  refine UD.callS hd0 S (k_L_areAlike l (F := fun _ => False) hT.hd1 hT.hd2 hq hav) (va_cwS 2 hts gL_law_L_areAlike rfl rfl rfl (by decide +kernel) ⟨Nat.le_of_ble_eq_true rfl, Nat.le_of_ble_eq_true rfl⟩) hK eT_bl (fun _ _ _ => trivial) hS (fun q h => h.elim) rfl hl.1 rfl (Nat.le_of_ble_eq_true rfl) dL_law_236 ⟨(by show _ + 0 ≤ 695921; omega), (by show _ + 0 ≤ 7014006; omega)⟩ (fun d1 H1 locs hd1 hB hS hsz hkp => ?_)
  have e1 : H1 = _ := hB
  subst e1
  have S := Sd d1
  have hts := S.2.2.2.2
  have hK := hK0.drawn d1
  refine nr_ifB_eq (tgt := 263) hx hb dL_law_239 (by decide) (fun c_239 => absurd c_239 (by decide)) (fun c_239 => ?_)
  refine lv_aload_n hx hb dL_law_242 rfl (lv_at hl 1 rfl) ?_
  refine lv_iconst (v := (nI (5))) hx hb dL_law_243 (by decide +kernel) ?_
  obtain ⟨avq, hq, hav⟩ := hJ.av (by omega)
  obtain ⟨G1, hC1⟩ := hT.c1
  refine UD.callS hd1 S (k_L_areRulesSo l (F := bigA s) hlt (nI (5)) hC1 hq hav) (va_cwS 2 hts gL_law_L_areRulesSo rfl rfl rfl (by decide +kernel) ⟨Nat.le_of_ble_eq_true rfl, Nat.le_of_ble_eq_true rfl⟩) hK eL_bl (fun U hW hU => eL.use hE0 hS hW hU (fun _ h => h) (fun _ h => h)) hS (fun q h => h) rfl hl.1 rfl (Nat.le_of_ble_eq_true rfl) dL_law_244 ⟨(by show _ + 16 ≤ 695921; omega), (by show _ + 96 ≤ 7014006; omega)⟩ (fun d2 H locs hd2 hB hS hsz hkp => ?_)
  have hT := hT.kp hB
  have S := Sd d2
  have hts := S.2.2.2.2
  have hK := hK0.drawn d2
  refine nr_ifB_eq (tgt := 263) hx hb dL_law_247 (by decide) (fun c_247 => absurd c_247 (by decide)) (fun c_247 => ?_)
  refine lv_aload_n hx hb dL_law_250 rfl (lv_at hl 1 rfl) ?_
  refine lv_ldc hx hb S.2.2.2.1 (hts _ (List.mem_of_getElem? (i := 4) (by decide +kernel))) dL_law_251 ?_
  obtain ⟨G1, hC1⟩ := hT.c1
  refine UC.callS (As := [.ref x, .int ((987654321 : Int32))]) S (k_L_arePacketsSo l (F := bigA s) hlt ((987654321 : Int32)) hC1) (va_cwS 2 hts gL_law_L_arePacketsSo rfl rfl rfl (by decide +kernel) ⟨Nat.le_of_ble_eq_true rfl, Nat.le_of_ble_eq_true rfl⟩) hK eL_bl (fun U hW hU => eL.use hE0 hS hW hU (fun _ h => h) (fun _ h => h)) hS (fun q h => h) rfl hl.1 rfl (Nat.le_of_ble_eq_true rfl) dL_law_253 ⟨(by show _ + 6 ≤ 695921; omega), (by show _ + 36 ≤ 7014006; omega)⟩ (fun v9 H locs hB hS hsz hkp => ?_)
  obtain ⟨rfl, hB⟩ := hB
  have hT := hT.kp hB
  refine nr_ifB_eq (tgt := 263) hx hb dL_law_256 (by decide) (fun c_256 => absurd c_256 (by decide)) (fun c_256 => ?_)
  refine lv_iconst (v := (nI (1))) hx hb dL_law_259 (by decide +kernel) ?_
  refine lv_goto (tgt := 264) hx hb dL_law_260 (by decide) ?_
  refine nr_top (y := (1 : Int32)) rfl ?_
  refine va_forget (fun q hq => hS.2.2 q hq) ?_
  refine W.widen (k := 695921) (n := 7014006) (by omega) (by omega) ?_
  exact lw_ret hd2 hx hb hr hlocks dL_law_264
