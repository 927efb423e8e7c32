/-! the law, turn by turn -/
set_option maxHeartbeats 64000000 in
set_option maxRecDepth 100000 in
theorem lc_24 {p : Program} {l : Launch} {e : Env} {s : State} {m : MethodId} {below : List Frame} {meth : Method} {c : Code} {b L : Nat} {xs : Nat → Int32} {D : va_G} {Y : Nat → ClassId} {t0 la x na la2 x2 na2 : Nat} (hEn : LEn l p s m meth c b L xs D Y t0) {k : Nat} (hk : k < 72) {cells slots : Nat} (hc : cells + 80 ≤ 695921) (hs : slots + 240 ≤ 7014006) (hN : ∀ v, LC p l e s m below meth c b D Y t0 la x na la2 x2 na2 57 k v (cells + 80) (slots + 240)) (d0 : Drawn) (ju mi lo : Int32) (rs : List RV) (H : Heap) (locs : List Loc) (ls : Array Slot) (hd0 : s.drawn.sameBut d0 lw_cs) (hT : Tw D Y t0 s.heap.size la x na la2 x2 na2 ju mi lo rs ju mi lo rs H) (hJ : JL ju lo k) (hS : va_S (bigA s) s.heap H locs) (hl : lv_has ls 8 [(0, .ref b), (1, .ref x), (2, .ref x2), (3, .int (nI k))]) : lwW p l e s m below meth c b d0 H locs cells slots (F0 m 24 ls []) := by
  obtain ⟨C0, hK0, hE0, hlt, hL⟩ := hEn
  obtain ⟨hx, hb, hr, hml, hown, hts0, hXs, hbl, hlocks, hgv⟩ := id C0
  have Sd : ∀ d : Drawn, CallFix p m c cL_law 8 (s.setDrawn d) #[Value.ref b] wsL_law RL := fun d => ⟨hx, hb, hml, hown, dr_words (fun w h => hts0 w (wsL_law_in w h)) d⟩
  have S := Sd d0
  have hts := S.2.2.2.2
  have hK := hK0.drawn d0
  have hXd : va_X b L xs (s.setDrawn d0) s.heap := va_X.moved (u := s) (U := s.setDrawn d0) (Vm.Alike.refl s.vm) hXs
  have hbA : ¬ bigA s b := Nat.not_le.mpr hbl
  refine lv_aload_n hx hb dL_law_24 rfl (lv_at hl 0 rfl) ?_
  refine lv_iload_n hx hb dL_law_25 rfl (lv_at hl 3 rfl) ?_
  refine UC.callS (As := [.ref b, .int (nI (k))]) S (k_L_cell l (D := D) (Y := Y) (F := fun _ => False) (b := b) (L := L) (k := k) (xs := xs) (by omega) (by omega) (fun z => z)) (va_cwS 2 hts gL_law_L_cell rfl rfl rfl (by decide +kernel) ⟨Nat.le_of_ble_eq_true rfl, Nat.le_of_ble_eq_true rfl⟩) hK eScr_bl (fun U hW hU => ⟨by rw [hU]; exact va_X.moved hW.alike (hXd.kept (hS.2.1 b hbl hbA)), by rw [hU]; exact Nat.lt_of_lt_of_le hbl hS.1⟩) hS (fun q h => h.elim) rfl hl.1 rfl (Nat.le_of_ble_eq_true rfl) dL_law_26 ⟨(by show _ + 0 ≤ 695921; omega), (by show _ + 0 ≤ 7014006; omega)⟩ (fun v9 H9 locs9 hB hS9 hsz hkp => ?_)
  obtain ⟨rfl, e1⟩ := hB
  rw [e1] at hS9 ⊢
  have hS := hS9
  refine W.widen (k := cells) (n := slots) (by omega) (by omega) ?_
  obtain ⟨v, hv⟩ : ∃ v : Int32, v = cellV L xs k := ⟨_, rfl⟩
  refine nr_top (y := v) hv.symm ?_
  obtain ⟨r, ju2, mi2, lo2, rs2, hr9, hJ2, hAct⟩ := k_L_act l hlt v (ju := ju) (mi := mi) (lo := lo) (rs := rs) hT.ok
  refine lv_istore (lv' := [(4, .int (v)), (0, .ref (b)), (1, .ref (x)), (2, .ref (x2)), (3, .int (nI (k)))]) hx hb dL_law_29 hl (by decide) rfl (fun ls hl => ?_)
  refine lv_aload_n hx hb dL_law_31 rfl (lv_at hl 2 rfl) ?_
  refine lv_iload hx hb dL_law_32 (lv_at hl 0 rfl) ?_
  obtain ⟨F, hCF, hFr, hFb, hnext⟩ := hT.o
  refine UC.callS (As := [.ref (x), .int (v)]) S (hAct D Y F t0 la x na _ hCF hFr) (va_cwS 2 hts gL_law_L_act rfl rfl rfl (by decide +kernel) ⟨Nat.le_of_ble_eq_true rfl, Nat.le_of_ble_eq_true rfl⟩) hK eL_bl (fun U hW hU => eL.use hE0 hS hW hU hFb hFb) hS hFb rfl hl.1 rfl (Nat.le_of_ble_eq_true rfl) dL_law_34 ⟨(by show _ + 40 ≤ 695921; omega), (by show _ + 120 ≤ 7014006; omega)⟩ (fun v9 H locs hB hS hsz hkp => ?_)
  obtain ⟨rfl, hC1⟩ := hB
  have hT := hnext _ _ _ _ _ hC1 hsz hkp
  refine lv_istore (lv' := [(5, .int (r)), (4, .int (v)), (0, .ref (b)), (1, .ref (x)), (2, .ref (x2)), (3, .int (nI (k)))]) hx hb dL_law_37 hl (by decide) rfl (fun ls hl => ?_)
  refine lv_iload hx hb dL_law_39 (lv_at hl 0 rfl) ?_
  refine lv_ldc (v := (-99999 : Int32)) hx hb S.2.2.2.1 (hts _ (List.mem_of_getElem? (i := 3) (by decide +kernel))) dL_law_41 ?_
  refine lv_icmp_eq (tgt := 57) hx hb dL_law_43 (by decide) (fun c43 => ?_) (fun c43 => ?_)
  · obtain ⟨e1, e2, e3, e4⟩ := hr9 c43
    subst e1
    subst e2
    subst e3
    subst e4
    refine W.widen (k := cells + 80) (n := slots + 240) (by omega) (by omega) ?_
    exact hN v _ _ _ _ _ _ _ ls hd0 hT (hJ2 k hJ) hS (lv_sub hl [2, 3, 4, 5, 1] rfl)
  · refine lv_aload_n hx hb dL_law_46 rfl (lv_at hl 4 rfl) ?_
    refine lv_iload hx hb dL_law_47 (lv_at hl 1 rfl) ?_
    obtain ⟨F, hCF, hFr, hFb, hnext⟩ := hT.sym.o
    refine UC.callS (As := [.ref (x2), .int (v)]) S (hAct D Y F t0 la2 x2 na2 _ hCF hFr) (va_cwS 2 hts gL_law_L_act rfl rfl rfl (by decide +kernel) ⟨Nat.le_of_ble_eq_true rfl, Nat.le_of_ble_eq_true rfl⟩) hK eL_bl (fun U hW hU => eL.use hE0 hS hW hU hFb hFb) hS hFb rfl hl.1 rfl (Nat.le_of_ble_eq_true rfl) dL_law_49 ⟨(by show _ + 40 ≤ 695921; omega), (by show _ + 120 ≤ 7014006; omega)⟩ (fun v9 H locs hB hS hsz hkp => ?_)
    obtain ⟨rfl, hC1⟩ := hB
    have hT := hnext _ _ _ _ _ hC1 hsz hkp
    have hT := hT.sym
    refine lv_iload hx hb dL_law_52 (lv_at hl 0 rfl) ?_
    refine lv_icmp_ne (tgt := 107) hx hb dL_law_54 (by decide) (fun c_54 => absurd c_54 (fun z => z rfl)) (fun c_54 => ?_)
    refine W.widen (k := cells + 80) (n := slots + 240) (by omega) (by omega) ?_
    exact hN v _ _ _ _ _ _ _ ls hd0 hT (hJ2 k hJ) hS (lv_sub hl [2, 3, 4, 5, 1] rfl)
set_option maxHeartbeats 64000000 in
set_option maxRecDepth 100000 in
theorem lc_234 {p : Program} {l : Launch} {e : Env} {s : State} {m : MethodId} {below : List Frame} {meth : Method} {c : Code} {b L : Nat} {xs : Nat → Int32} {D : va_G} {Y : Nat → ClassId} {t0 la x na la2 x2 na2 : Nat} (hEn : LEn l p s m meth c b L xs D Y t0) {cells slots : Nat} (hc : cells + 100 ≤ 695921) (hs : slots + 300 ≤ 7014006) (d0 : Drawn) (ju mi lo : Int32) (rs : List RV) (H : Heap) (locs : List Loc) (ls : Array Slot) (hd0 : s.drawn.sameBut d0 lw_cs) (hT : Tw D Y t0 s.heap.size la x na la2 x2 na2 ju mi lo rs ju mi lo rs H) (hJ : JL ju lo 72) (hS : va_S (bigA s) s.heap H locs) (hl : lv_has ls 8 [(0, .ref b), (1, .ref x), (2, .ref x2)]) : lwW p l e s m below meth c b d0 H locs cells slots (F0 m 234 ls []) := by
  obtain ⟨C0, hK0, hE0, hlt, hL⟩ := hEn
  obtain ⟨hx, hb, hr, hml, hown, hts0, hXs, hbl, hlocks, hgv⟩ := id C0
  have Sd : ∀ d : Drawn, CallFix p m c cL_law 8 (s.setDrawn d) #[Value.ref b] wsL_law RL := fun d => ⟨hx, hb, hml, hown, dr_words (fun w h => hts0 w (wsL_law_in w h)) d⟩
  have S := Sd d0
  have hts := S.2.2.2.2
  have hK := hK0.drawn d0
  have hXd : va_X b L xs (s.setDrawn d0) s.heap := va_X.moved (u := s) (U := s.setDrawn d0) (Vm.Alike.refl s.vm) hXs
  have hbA : ¬ bigA s b := Nat.not_le.mpr hbl
  refine lv_aload_n hx hb dL_law_234 rfl (lv_at hl 1 rfl) ?_
  refine lv_aload_n hx hb dL_law_235 rfl (lv_at hl 2 rfl) ?_
  obtain ⟨avq, hq, hav⟩ := hJ.av (by omega)
  refine UD.callS hd0 S (k_L_areAlike l (F := fun _ => False) hT.hd1 hT.hd2 hq hav) (va_cwS 2 hts gL_law_L_areAlike rfl rfl rfl (by decide +kernel) ⟨Nat.le_of_ble_eq_true rfl, Nat.le_of_ble_eq_true rfl⟩) hK eT_bl (fun _ _ _ => trivial) hS (fun q h => h.elim) rfl hl.1 rfl (Nat.le_of_ble_eq_true rfl) dL_law_236 ⟨(by show _ + 0 ≤ 695921; omega), (by show _ + 0 ≤ 7014006; omega)⟩ (fun d1 H9 locs9 hd1 hB hS9 hsz hkp => ?_)
  have e1 : H9 = _ := hB
  rw [e1] at hS9 ⊢
  have hS := hS9
  have S := Sd d1
  have hts := S.2.2.2.2
  have hK := hK0.drawn d1
  refine nr_ifB_eq (tgt := 263) hx hb dL_law_239 (by decide) (fun c_239 => absurd c_239 (by decide)) (fun c_239 => ?_)
  refine lv_aload_n hx hb dL_law_242 rfl (lv_at hl 1 rfl) ?_
  refine lv_iconst (v := (nI (5))) hx hb dL_law_243 (by decide +kernel) ?_
  obtain ⟨avq, hq, hav⟩ := hJ.av (by omega)
  obtain ⟨G1, hC1⟩ := hT.c1
  refine UD.callS hd1 S (k_L_areRulesSo l (F := bigA s) hlt (nI (5)) hC1 hq hav) (va_cwS 2 hts gL_law_L_areRulesSo rfl rfl rfl (by decide +kernel) ⟨Nat.le_of_ble_eq_true rfl, Nat.le_of_ble_eq_true rfl⟩) hK eL_bl (fun U hW hU => eL.use hE0 hS hW hU (fun _ h => h) (fun _ h => h)) hS (fun q h => h) rfl hl.1 rfl (Nat.le_of_ble_eq_true rfl) dL_law_244 ⟨(by show _ + 16 ≤ 695921; omega), (by show _ + 96 ≤ 7014006; omega)⟩ (fun d2 H locs hd2 hB hS hsz hkp => ?_)
  have hT := hT.kp hB
  have S := Sd d2
  have hts := S.2.2.2.2
  have hK := hK0.drawn d2
  refine nr_ifB_eq (tgt := 263) hx hb dL_law_247 (by decide) (fun c_247 => absurd c_247 (by decide)) (fun c_247 => ?_)
  refine lv_aload_n hx hb dL_law_250 rfl (lv_at hl 1 rfl) ?_
  refine lv_ldc (v := (987654321 : Int32)) hx hb S.2.2.2.1 (hts _ (List.mem_of_getElem? (i := 4) (by decide +kernel))) dL_law_251 ?_
  obtain ⟨G1, hC1⟩ := hT.c1
  refine UC.callS (As := [.ref x, .int ((987654321 : Int32))]) S (k_L_arePacketsSo l (F := bigA s) hlt ((987654321 : Int32)) hC1) (va_cwS 2 hts gL_law_L_arePacketsSo rfl rfl rfl (by decide +kernel) ⟨Nat.le_of_ble_eq_true rfl, Nat.le_of_ble_eq_true rfl⟩) hK eL_bl (fun U hW hU => eL.use hE0 hS hW hU (fun _ h => h) (fun _ h => h)) hS (fun q h => h) rfl hl.1 rfl (Nat.le_of_ble_eq_true rfl) dL_law_253 ⟨(by show _ + 6 ≤ 695921; omega), (by show _ + 36 ≤ 7014006; omega)⟩ (fun v9 H locs hB hS hsz hkp => ?_)
  obtain ⟨rfl, hB⟩ := hB
  have hT := hT.kp hB
  refine nr_ifB_eq (tgt := 263) hx hb dL_law_256 (by decide) (fun c_256 => absurd c_256 (by decide)) (fun c_256 => ?_)
  refine lv_iconst (v := (nI (1))) hx hb dL_law_259 (by decide +kernel) ?_
  refine lv_goto (tgt := 264) hx hb dL_law_260 (by decide) ?_
  refine nr_top (y := (1 : Int32)) rfl ?_
  refine va_forget (fun q hq => hS.2.2 q hq) ?_
  refine W.widen (k := 695921) (n := 7014006) (by omega) (by omega) ?_
  exact lw_ret hd2 hx hb hr hlocks dL_law_264
