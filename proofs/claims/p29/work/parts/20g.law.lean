/-! the law, turn by turn -/
set_option maxHeartbeats 64000000 in
set_option maxRecDepth 100000 in
theorem lc_155 {p : Program} {l : Launch} {e : Env} {s : State} {m : MethodId} {below : List Frame} {meth : Method} {c : Code} {b L : Nat} {xs : Nat → Int32} {D : va_G} {Y : Nat → ClassId} {t0 la x na la2 x2 na2 : Nat} (hEn : LEn l p s m meth c b L xs D Y t0) {k : Nat} (hk : k < 72) {v : Int32} {cells slots : Nat} (hc : cells + 200 ≤ 695921) (hs : slots + 600 ≤ 7014006) (hN : LC p l e s m below meth c b D Y t0 la x na la2 x2 na2 228 k v (cells + 200) (slots + 600)) : LC p l e s m below meth c b D Y t0 la x na la2 x2 na2 155 k v cells slots := by
  intro d0 ju mi lo rs H locs ls hd0 hT hJ hS hl
  obtain ⟨C0, hK0, hE0, hlt, hL⟩ := hEn
  obtain ⟨hx, hb, hr, hml, hown, hts0, hXs, hbl, hlocks, hgv⟩ := id C0
  have Sd : ∀ d : Drawn, CallFix p m c cL_law 8 (s.setDrawn d) #[Value.ref b] wsL_law RL := fun d => ⟨hx, hb, hml, hown, dr_words (fun w h => hts0 w (wsL_law_in w h)) d⟩
  have S := Sd d0
  have hts := S.2.2.2.2
  have hK := hK0.drawn d0
  have hXd : va_X b L xs (s.setDrawn d0) s.heap := va_X.moved (u := s) (U := s.setDrawn d0) (Vm.Alike.refl s.vm) hXs
  have hbA : ¬ bigA s b := Nat.not_le.mpr hbl
  have hn := hT.ok.1
  refine lv_iload_n hx hb dL_law_155 rfl (lv_at hl 3 rfl) ?_
  refine lv_bipush (v := (nI (24))) hx hb dL_law_156 (by decide +kernel) ?_
  refine nr_irem hx hb (by omega) (by omega) (by omega) dL_law_158 ?_
  refine lv_bipush (v := (nI (20))) hx hb dL_law_159 (by decide +kernel) ?_
  refine nr_icmp_ne (tgt := 228) hx hb (by omega) (by omega) dL_law_161 (by decide) (fun c_161 => ?_) (fun c_161 => ?_)
  · refine W.widen (k := cells + 200) (n := slots + 600) (by omega) (by omega) ?_
    exact hN _ _ _ _ _ _ _ ls hd0 hT hJ hS (lv_sub hl [0, 1, 2, 3, 4] rfl)
  · have q1 := pmE_T (pmE_itS rs.length hT.ok)
    have hok2 : rsOk (itS rs.length rs).1 := itS_ok rs.length hT.ok
    have q2 := pmE_T (pmE_sor (rs := (itS rs.length rs).1) (by have := hok2.1; omega))
    have q3 := itS_cnt rs.length rs
    have q4 : (sor (itS rs.length rs).1).2 ≤ 240 := Nat.le_trans (soF_le 241 _) (invR_le hok2.1)
    have q5 := pmT_le rs
    have q6 := pmT_le (itS rs.length rs).1
    have q7 := pmT_le (sor (itS rs.length rs).1).1
    refine lv_aload_n hx hb dL_law_164 rfl (lv_at hl 1 rfl) ?_
    refine Rd.callV (r := nI (pmT (rs))) (As := []) S (q_permitted hT.hd1) (cwV 0 hts gL_law_X2_permitted rfl rfl rfl (by decide +kernel) ⟨Nat.le_of_ble_eq_true rfl, Nat.le_of_ble_eq_true rfl⟩) hK (hT.hd1.recv hK) rfl hl.1 rfl (Nat.le_of_ble_eq_true rfl) dL_law_165 ⟨(by show _ ≤ 695921; omega), (by show _ ≤ 7014006; omega)⟩ ?_
    refine lv_istore (lv' := [(6, .int (nI (pmT (rs)))), (0, .ref (b)), (1, .ref (x)), (2, .ref (x2)), (3, .int (nI (k))), (4, .int (v))]) hx hb dL_law_168 hl (by decide) rfl (fun ls hl => ?_)
    refine lv_aload_n hx hb dL_law_170 rfl (lv_at hl 2 rfl) ?_
    obtain ⟨F, hCF, hFr, hFb, hnext⟩ := hT.o
    obtain ⟨dd, mc, ms, hbd, hU⟩ := cl_shorten l ju mi lo (rs) D Y F t0 la x na _ hCF hFr
    refine UC.callV (As := []) S hU (cwV 0 hts gL_law_X2_shorten rfl rfl rfl (by decide +kernel) ⟨(by show dd + 1 ≤ 2048; omega), (by show 8 + (4 + 11) + 40 * dd ≤ 84000; omega)⟩) hK eL_bl (fun U hW hU => eL.use hE0 hS hW hU hFb hFb) hS hFb (hT.hd1.recv hK) rfl hl.1 rfl (Nat.le_of_ble_eq_true rfl) dL_law_171 ⟨(by show _ + mc ≤ 695921; omega), (by show _ + ms ≤ 7014006; omega)⟩ (fun v9 H locs hB hS hsz hkp => ?_)
    obtain ⟨rfl, hC1⟩ := hB
    have hT := hnext _ _ _ _ _ hC1 hsz hkp
    refine W.widen (k := cells + 40) (n := slots + 120) (by omega) (by omega) ?_
    refine lv_istore (lv' := [(7, .int (nI ((itS rs.length rs).2))), (6, .int (nI (pmT (rs)))), (0, .ref (b)), (1, .ref (x)), (2, .ref (x2)), (3, .int (nI (k))), (4, .int (v))]) hx hb dL_law_174 hl (by decide) rfl (fun ls hl => ?_)
    refine lv_iload hx hb dL_law_176 (lv_at hl 0 rfl) ?_
    refine lv_if_lt (tgt := 226) hx hb dL_law_178 (by decide) (fun c_178 => absurd c_178 (nI_pos (by omega))) (fun c_178 => ?_)
    refine lv_aload_n hx hb dL_law_181 rfl (lv_at hl 4 rfl) ?_
    obtain ⟨F, hCF, hFr, hFb, hnext⟩ := hT.sym.o
    obtain ⟨dd, mc, ms, hbd, hU⟩ := cl_shorten l ju mi lo (rs) D Y F t0 la2 x2 na2 _ hCF hFr
    refine UC.callV (As := []) S hU (cwV 0 hts gL_law_X2_shorten rfl rfl rfl (by decide +kernel) ⟨(by show dd + 1 ≤ 2048; omega), (by show 8 + (4 + 11) + 40 * dd ≤ 84000; omega)⟩) hK eL_bl (fun U hW hU => eL.use hE0 hS hW hU hFb hFb) hS hFb (hT.hd2.recv hK) rfl hl.1 rfl (Nat.le_of_ble_eq_true rfl) dL_law_182 ⟨(by show _ + mc ≤ 695921; omega), (by show _ + ms ≤ 7014006; omega)⟩ (fun v9 H locs hB hS hsz hkp => ?_)
    obtain ⟨rfl, hC1⟩ := hB
    have hT := hnext _ _ _ _ _ hC1 hsz hkp
    have hT := hT.sym
    refine W.widen (k := cells + 80) (n := slots + 240) (by omega) (by omega) ?_
    refine lv_iload hx hb dL_law_185 (lv_at hl 0 rfl) ?_
    refine nr_icmp_ne (tgt := 226) hx hb (by omega) (by omega) dL_law_187 (by decide) (fun c_187 => absurd c_187 (by omega)) (fun c_187 => ?_)
    refine lv_aload_n hx hb dL_law_190 rfl (lv_at hl 3 rfl) ?_
    refine Rd.callV (r := nI (pmT ((itS rs.length rs).1))) (As := []) S (q_permitted hT.hd1) (cwV 0 hts gL_law_X2_permitted rfl rfl rfl (by decide +kernel) ⟨Nat.le_of_ble_eq_true rfl, Nat.le_of_ble_eq_true rfl⟩) hK (hT.hd1.recv hK) rfl hl.1 rfl (Nat.le_of_ble_eq_true rfl) dL_law_191 ⟨(by show _ ≤ 695921; omega), (by show _ ≤ 7014006; omega)⟩ ?_
    refine lv_iload hx hb dL_law_194 (lv_at hl 1 rfl) ?_
    refine nr_icmp_ne (tgt := 226) hx hb (by omega) (by omega) dL_law_196 (by decide) (fun c_196 => absurd c_196 (by omega)) (fun c_196 => ?_)
    refine lv_aload_n hx hb dL_law_199 rfl (lv_at hl 3 rfl) ?_
    obtain ⟨F, hCF, hFr, hFb, hnext⟩ := hT.o
    obtain ⟨dd, mc, ms, hbd, hU⟩ := cl_shorten l ju mi lo ((itS rs.length rs).1) D Y F t0 la x na _ hCF hFr
    refine UC.callV (As := []) S hU (cwV 0 hts gL_law_X2_shorten rfl rfl rfl (by decide +kernel) ⟨(by show dd + 1 ≤ 2048; omega), (by show 8 + (4 + 11) + 40 * dd ≤ 84000; omega)⟩) hK eL_bl (fun U hW hU => eL.use hE0 hS hW hU hFb hFb) hS hFb (hT.hd1.recv hK) rfl hl.1 rfl (Nat.le_of_ble_eq_true rfl) dL_law_200 ⟨(by show _ + mc ≤ 695921; omega), (by show _ + ms ≤ 7014006; omega)⟩ (fun v9 H locs hB hS hsz hkp => ?_)
    obtain ⟨rfl, hC1⟩ := hB
    have hT := hnext _ _ _ _ _ hC1 hsz hkp
    refine W.widen (k := cells + 120) (n := slots + 360) (by omega) (by omega) ?_
    have e9 := itS_two rs
    have e91 : (itS (itS rs.length rs).1.length (itS rs.length rs).1).1 = (itS rs.length rs).1 := by rw [e9]
    have e92 : (itS (itS rs.length rs).1.length (itS rs.length rs).1).2 = 0 := by rw [e9]
    rw [e91] at hT
    rw [e92]
    refine nr_if_ne (tgt := 226) hx hb (by omega) dL_law_203 (by decide) (fun c_203 => absurd c_203 (by decide)) (fun c_203 => ?_)
    refine lv_aload_n hx hb dL_law_206 rfl (lv_at hl 3 rfl) ?_
    obtain ⟨F, hCF, hFr, hFb, hnext⟩ := hT.o
    obtain ⟨dd, mc, ms, hbd, hU⟩ := cl_sort l ju mi lo ((itS rs.length rs).1) D Y F t0 la x na _ hCF hFr
    refine UC.callV (As := []) S hU (cwV 0 hts gL_law_X2_sortByHits rfl rfl rfl (by decide +kernel) ⟨(by show dd + 1 ≤ 2048; omega), (by show 8 + (4 + 11) + 40 * dd ≤ 84000; omega)⟩) hK eL_bl (fun U hW hU => eL.use hE0 hS hW hU hFb hFb) hS hFb (hT.hd1.recv hK) rfl hl.1 rfl (Nat.le_of_ble_eq_true rfl) dL_law_207 ⟨(by show _ + mc ≤ 695921; omega), (by show _ + ms ≤ 7014006; omega)⟩ (fun v9 H locs hB hS hsz hkp => ?_)
    obtain ⟨rfl, hC1⟩ := hB
    have hT := hnext _ _ _ _ _ hC1 hsz hkp
    refine W.widen (k := cells + 160) (n := slots + 480) (by omega) (by omega) ?_
    refine lv_aload_n hx hb dL_law_210 rfl (lv_at hl 4 rfl) ?_
    obtain ⟨F, hCF, hFr, hFb, hnext⟩ := hT.sym.o
    obtain ⟨dd, mc, ms, hbd, hU⟩ := cl_sort l ju mi lo ((itS rs.length rs).1) D Y F t0 la2 x2 na2 _ hCF hFr
    refine UC.callV (As := []) S hU (cwV 0 hts gL_law_X2_sortByHits rfl rfl rfl (by decide +kernel) ⟨(by show dd + 1 ≤ 2048; omega), (by show 8 + (4 + 11) + 40 * dd ≤ 84000; omega)⟩) hK eL_bl (fun U hW hU => eL.use hE0 hS hW hU hFb hFb) hS hFb (hT.hd2.recv hK) rfl hl.1 rfl (Nat.le_of_ble_eq_true rfl) dL_law_211 ⟨(by show _ + mc ≤ 695921; omega), (by show _ + ms ≤ 7014006; omega)⟩ (fun v9 H locs hB hS hsz hkp => ?_)
    obtain ⟨rfl, hC1⟩ := hB
    have hT := hnext _ _ _ _ _ hC1 hsz hkp
    have hT := hT.sym
    refine W.widen (k := cells + 200) (n := slots + 600) (by omega) (by omega) ?_
    refine nr_icmp_ne (tgt := 226) hx hb (by omega) (by omega) dL_law_214 (by decide) (fun c_214 => absurd c_214 (by omega)) (fun c_214 => ?_)
    refine lv_aload_n hx hb dL_law_217 rfl (lv_at hl 3 rfl) ?_
    refine Rd.callV (r := nI (pmT ((sor (itS rs.length rs).1).1))) (As := []) S (q_permitted hT.hd1) (cwV 0 hts gL_law_X2_permitted rfl rfl rfl (by decide +kernel) ⟨Nat.le_of_ble_eq_true rfl, Nat.le_of_ble_eq_true rfl⟩) hK (hT.hd1.recv hK) rfl hl.1 rfl (Nat.le_of_ble_eq_true rfl) dL_law_218 ⟨(by show _ ≤ 695921; omega), (by show _ ≤ 7014006; omega)⟩ ?_
    refine lv_iload hx hb dL_law_221 (lv_at hl 1 rfl) ?_
    refine nr_icmp_eq (tgt := 228) hx hb (by omega) (by omega) dL_law_223 (by decide) (fun c_223 => ?_) (fun c_223 => absurd c_223 (by omega))
    refine W.widen (k := cells + 200) (n := slots + 600) (by omega) (by omega) ?_
    exact hN _ _ _ _ _ _ _ ls hd0 hT hJ hS (lv_sub hl [2, 3, 4, 5, 6] rfl)
