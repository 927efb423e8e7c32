/-! the law, turn by turn -/
set_option maxHeartbeats 64000000 in
set_option maxRecDepth 100000 in
theorem lc_57 {p : Program} {l : Launch} {e : Env} {s : State} {m : MethodId} {below : List Frame} {meth : Method} {c : Code} {b L : Nat} {xs : Nat → Int32} {D : va_G} {Y : Nat → ClassId} {t0 la x na la2 x2 na2 : Nat} (hEn : LEn l p s m meth c b L xs D Y t0) {k : Nat} (hk : k < 72) {v : Int32} {cells slots : Nat} (hc : cells + 0 ≤ 695921) (hs : slots + 0 ≤ 7014006) (hN : LC p l e s m below meth c b D Y t0 la x na la2 x2 na2 72 k v (cells + 0) (slots + 0)) : LC p l e s m below meth c b D Y t0 la x na la2 x2 na2 57 k v cells slots := by
  intro d0 ju mi lo rs H locs ls hd0 hT hJ hS hl
  obtain ⟨C0, hK0, hE0, hlt, hL⟩ := hEn
  obtain ⟨hx, hb, hr, hml, hown, hts0, hXs, hbl, hlocks, hgv⟩ := id C0
  have Sd : ∀ d : Drawn, CallFix p m c cL_law 8 (s.setDrawn d) #[Value.ref b] wsL_law RL := fun d => ⟨hx, hb, hml, hown, dr_words (fun w h => hts0 w (wsL_law_in w h)) d⟩
  have S := Sd d0
  have hts := S.2.2.2.2
  have hK := hK0.drawn d0
  have hXd : va_X b L xs (s.setDrawn d0) s.heap := va_X.moved (u := s) (U := s.setDrawn d0) (Vm.Alike.refl s.vm) hXs
  have hbA : ¬ bigA s b := Nat.not_le.mpr hbl
  have hn := hT.ok.1
  refine lv_iload_n hx hb dL_law_57 rfl (lv_at hl 3 rfl) ?_
  refine lv_iconst (v := (nI (3))) hx hb dL_law_58 (by decide +kernel) ?_
  refine nr_irem hx hb (by omega) (by omega) (by omega) dL_law_59 ?_
  refine lv_iconst (v := (nI (2))) hx hb dL_law_60 (by decide +kernel) ?_
  refine nr_icmp_ne (tgt := 72) hx hb (by omega) (by omega) dL_law_61 (by decide) (fun c_61 => ?_) (fun c_61 => ?_)
  · refine W.widen (k := cells + 0) (n := slots + 0) (by omega) (by omega) ?_
    exact hN _ _ _ _ _ _ _ ls hd0 hT hJ hS (lv_sub hl [0, 1, 2, 3, 4] rfl)
  · refine lv_aload_n hx hb dL_law_64 rfl (lv_at hl 1 rfl) ?_
    refine lv_aload_n hx hb dL_law_65 rfl (lv_at hl 2 rfl) ?_
    obtain ⟨avq, hq, hav⟩ := hJ.av (by omega)
    refine UD.callS hd0 S (k_L_areAlike l (F := fun _ => False) hT.hd1 hT.hd2 hq hav) (va_cwS 2 hts gL_law_L_areAlike rfl rfl rfl (by decide +kernel) ⟨Nat.le_of_ble_eq_true rfl, Nat.le_of_ble_eq_true rfl⟩) hK eT_bl (fun _ _ _ => trivial) hS (fun q h => h.elim) rfl hl.1 rfl (Nat.le_of_ble_eq_true rfl) dL_law_66 ⟨(by show _ + 0 ≤ 695921; omega), (by show _ + 0 ≤ 7014006; omega)⟩ (fun d1 H9 locs9 hd1 hB hS9 hsz hkp => ?_)
    have e1 : H9 = _ := hB
    rw [e1] at hS9 ⊢
    have hS := hS9
    have S := Sd d1
    have hts := S.2.2.2.2
    have hK := hK0.drawn d1
    refine nr_ifB_eq (tgt := 107) hx hb dL_law_69 (by decide) (fun c_69 => absurd c_69 (by decide)) (fun c_69 => ?_)
    refine W.widen (k := cells + 0) (n := slots + 0) (by omega) (by omega) ?_
    exact hN _ _ _ _ _ _ _ ls hd1 hT hJ hS (lv_sub hl [0, 1, 2, 3, 4] rfl)
set_option maxHeartbeats 64000000 in
set_option maxRecDepth 100000 in
theorem lc_72 {p : Program} {l : Launch} {e : Env} {s : State} {m : MethodId} {below : List Frame} {meth : Method} {c : Code} {b L : Nat} {xs : Nat → Int32} {D : va_G} {Y : Nat → ClassId} {t0 la x na la2 x2 na2 : Nat} (hEn : LEn l p s m meth c b L xs D Y t0) {k : Nat} (hk : k < 72) {v : Int32} {cells slots : Nat} (hc : cells + 16 ≤ 695921) (hs : slots + 96 ≤ 7014006) (hN : LC p l e s m below meth c b D Y t0 la x na la2 x2 na2 88 k v (cells + 16) (slots + 96)) : LC p l e s m below meth c b D Y t0 la x na la2 x2 na2 72 k v cells slots := by
  intro d0 ju mi lo rs H locs ls hd0 hT hJ hS hl
  obtain ⟨C0, hK0, hE0, hlt, hL⟩ := hEn
  obtain ⟨hx, hb, hr, hml, hown, hts0, hXs, hbl, hlocks, hgv⟩ := id C0
  have Sd : ∀ d : Drawn, CallFix p m c cL_law 8 (s.setDrawn d) #[Value.ref b] wsL_law RL := fun d => ⟨hx, hb, hml, hown, dr_words (fun w h => hts0 w (wsL_law_in w h)) d⟩
  have S := Sd d0
  have hts := S.2.2.2.2
  have hK := hK0.drawn d0
  have hXd : va_X b L xs (s.setDrawn d0) s.heap := va_X.moved (u := s) (U := s.setDrawn d0) (Vm.Alike.refl s.vm) hXs
  have hbA : ¬ bigA s b := Nat.not_le.mpr hbl
  have hn := hT.ok.1
  refine lv_iload_n hx hb dL_law_72 rfl (lv_at hl 3 rfl) ?_
  refine lv_iconst (v := (nI (4))) hx hb dL_law_73 (by decide +kernel) ?_
  refine nr_irem hx hb (by omega) (by omega) (by omega) dL_law_74 ?_
  refine lv_iconst (v := (nI (1))) hx hb dL_law_75 (by decide +kernel) ?_
  refine nr_icmp_ne (tgt := 88) hx hb (by omega) (by omega) dL_law_76 (by decide) (fun c_76 => ?_) (fun c_76 => ?_)
  · refine W.widen (k := cells + 16) (n := slots + 96) (by omega) (by omega) ?_
    exact hN _ _ _ _ _ _ _ ls hd0 hT hJ hS (lv_sub hl [0, 1, 2, 3, 4] rfl)
  · refine lv_aload_n hx hb dL_law_79 rfl (lv_at hl 1 rfl) ?_
    refine lv_iload hx hb dL_law_80 (lv_at hl 4 rfl) ?_
    obtain ⟨avq, hq, hav⟩ := hJ.av (by omega)
    obtain ⟨G1, hC1⟩ := hT.c1
    refine UD.callS hd0 S (k_L_areRulesSo l (F := bigA s) hlt (v) hC1 hq hav) (va_cwS 2 hts gL_law_L_areRulesSo rfl rfl rfl (by decide +kernel) ⟨Nat.le_of_ble_eq_true rfl, Nat.le_of_ble_eq_true rfl⟩) hK eL_bl (fun U hW hU => eL.use hE0 hS hW hU (fun _ h => h) (fun _ h => h)) hS (fun q h => h) rfl hl.1 rfl (Nat.le_of_ble_eq_true rfl) dL_law_82 ⟨(by show _ + 16 ≤ 695921; omega), (by show _ + 96 ≤ 7014006; omega)⟩ (fun d1 H locs hd1 hB hS hsz hkp => ?_)
    have hT := hT.kp hB
    have S := Sd d1
    have hts := S.2.2.2.2
    have hK := hK0.drawn d1
    refine nr_ifB_eq (tgt := 107) hx hb dL_law_85 (by decide) (fun c_85 => absurd c_85 (by decide)) (fun c_85 => ?_)
    refine W.widen (k := cells + 16) (n := slots + 96) (by omega) (by omega) ?_
    exact hN _ _ _ _ _ _ _ ls hd1 hT hJ hS (lv_sub hl [0, 1, 2, 3, 4] rfl)
set_option maxHeartbeats 64000000 in
set_option maxRecDepth 100000 in
theorem lc_88 {p : Program} {l : Launch} {e : Env} {s : State} {m : MethodId} {below : List Frame} {meth : Method} {c : Code} {b L : Nat} {xs : Nat → Int32} {D : va_G} {Y : Nat → ClassId} {t0 la x na la2 x2 na2 : Nat} (hEn : LEn l p s m meth c b L xs D Y t0) {k : Nat} (hk : k < 72) {v : Int32} {cells slots : Nat} (hc : cells + 6 ≤ 695921) (hs : slots + 36 ≤ 7014006) (hN : LC p l e s m below meth c b D Y t0 la x na la2 x2 na2 109 k v (cells + 6) (slots + 36)) : LC p l e s m below meth c b D Y t0 la x na la2 x2 na2 88 k v cells slots := by
  intro d0 ju mi lo rs H locs ls hd0 hT hJ hS hl
  obtain ⟨C0, hK0, hE0, hlt, hL⟩ := hEn
  obtain ⟨hx, hb, hr, hml, hown, hts0, hXs, hbl, hlocks, hgv⟩ := id C0
  have Sd : ∀ d : Drawn, CallFix p m c cL_law 8 (s.setDrawn d) #[Value.ref b] wsL_law RL := fun d => ⟨hx, hb, hml, hown, dr_words (fun w h => hts0 w (wsL_law_in w h)) d⟩
  have S := Sd d0
  have hts := S.2.2.2.2
  have hK := hK0.drawn d0
  have hXd : va_X b L xs (s.setDrawn d0) s.heap := va_X.moved (u := s) (U := s.setDrawn d0) (Vm.Alike.refl s.vm) hXs
  have hbA : ¬ bigA s b := Nat.not_le.mpr hbl
  have hn := hT.ok.1
  refine lv_iload_n hx hb dL_law_88 rfl (lv_at hl 3 rfl) ?_
  refine lv_bipush (v := (nI (6))) hx hb dL_law_89 (by decide +kernel) ?_
  refine nr_irem hx hb (by omega) (by omega) (by omega) dL_law_91 ?_
  refine lv_iconst (v := (nI (3))) hx hb dL_law_92 (by decide +kernel) ?_
  refine nr_icmp_ne (tgt := 109) hx hb (by omega) (by omega) dL_law_93 (by decide) (fun c_93 => ?_) (fun c_93 => ?_)
  · refine W.widen (k := cells + 6) (n := slots + 36) (by omega) (by omega) ?_
    exact hN _ _ _ _ _ _ _ ls hd0 hT hJ hS (lv_sub hl [0, 1, 2, 3, 4] rfl)
  · refine lv_aload_n hx hb dL_law_96 rfl (lv_at hl 1 rfl) ?_
    refine lv_iload hx hb dL_law_97 (lv_at hl 4 rfl) ?_
    refine lv_iconst (v := (nI (1))) hx hb dL_law_99 (by decide +kernel) ?_
    refine lv_ishr hx hb dL_law_100 ?_
    obtain ⟨G1, hC1⟩ := hT.c1
    refine UC.callS (As := [.ref x, .int (((v) >>> ((nI (1)) &&& 31)))]) S (k_L_arePacketsSo l (F := bigA s) hlt (((v) >>> ((nI (1)) &&& 31))) hC1) (va_cwS 2 hts gL_law_L_arePacketsSo rfl rfl rfl (by decide +kernel) ⟨Nat.le_of_ble_eq_true rfl, Nat.le_of_ble_eq_true rfl⟩) hK eL_bl (fun U hW hU => eL.use hE0 hS hW hU (fun _ h => h) (fun _ h => h)) hS (fun q h => h) rfl hl.1 rfl (Nat.le_of_ble_eq_true rfl) dL_law_101 ⟨(by show _ + 6 ≤ 695921; omega), (by show _ + 36 ≤ 7014006; omega)⟩ (fun v9 H locs hB hS hsz hkp => ?_)
    obtain ⟨rfl, hB⟩ := hB
    have hT := hT.kp hB
    refine nr_ifB_ne (tgt := 109) hx hb dL_law_104 (by decide) (fun c_104 => ?_) (fun c_104 => absurd c_104 (by decide))
    refine W.widen (k := cells + 6) (n := slots + 36) (by omega) (by omega) ?_
    exact hN _ _ _ _ _ _ _ ls hd0 hT hJ hS (lv_sub hl [0, 1, 2, 3, 4] rfl)
