/-! the law, call by call: through a helper -/
set_option maxHeartbeats 4000000 in
set_option maxRecDepth 100000 in
theorem lc_add {p : Program} {l : Launch} {e : Env} {s : State} {m : MethodId} {below : List Frame} {meth : Method} {c : Code} {b L : Nat} {xs : Nat → Int32} {D : va_G} {Y : Nat → ClassId} {F : Nat → Prop} {t0 la x na o : Nat} {A : Nat → Nat} (hEn : LEn l p s m meth c b L xs D Y F t0 o A) {i cells slots : Nat} (hi : i + 7 ≤ L) (hc : cells + 40 ≤ 601024) (hs : slots + 120 ≤ 7293034) (hN : LNx p l e s m below meth c b D Y F t0 la x na o A i (cells + 40) (slots + 120)) {d0 : Drawn} (hd0 : s.drawn.sameBut d0 lw_cs) {ju mi lo : Int32} {rs : List RV} {H : Heap} {locs : List Loc} {ls : Array Slot} (hLS : LwS D Y F t0 la x na o A ju mi lo rs H) (hS : va_S (bigA s) s.heap H locs) (hl : lv_has ls 9 (lwL b x (A 0) o i)) : lwW p l e s m below meth c b d0 H locs cells slots (F0 m 160 ls []) := by
  obtain ⟨C0, hK0, hE0, hFx, hlt, hL⟩ := hEn
  obtain ⟨hx, hb, hr, hml, hown, hts0, hXs, hbl, hlocks, hgv⟩ := id C0
  have hts : ∀ w ∈ wsL_law, w.before #[Value.ref b] (s.setDrawn d0) = true := dr_words (fun w h => hts0 w (wsL_law_in w h)) d0
  have S : CallFix p m c cL_law 9 (s.setDrawn d0) #[Value.ref b] wsL_law RL := ⟨hx, hb, hml, hown, hts⟩
  have hK := hK0.drawn d0
  have hXd : va_X b L xs (s.setDrawn d0) s.heap := va_X.moved (u := s) (U := s.setDrawn d0) (Vm.Alike.refl s.vm) hXs
  have hbA : ¬ bigA s b := Nat.not_le.mpr hbl
  obtain ⟨hC, ⟨th, hmd⟩, ⟨w0, hO⟩, hFr⟩ := hLS
  have hFA : ∀ q, F q → bigA s q := hFx.2.2.2.1
  have hFA2 : ∀ q, (F q ∨ q = o) → bigA s q := fun q h => h.elim (hFA q) (fun z => by rw [z]; exact hFx.2.2.2.2)
  obtain ⟨k, r, w, rs2, ju2, mi2, lo2, dd, mc, ms, dm, hbd, hU, hM, hw⟩ := sp_add l hlt (D := D) (Y := Y) (F := F) (t0 := t0) (la := la) (x := x) (na := na) (o := o) (A := A) (xs (i + 1)) (xs (i + 2)) (xs (i + 3)) (xs (i + 4)) (xs (i + 5)) (!decide (xs (i + 6) = 0)) ju mi lo rs H w0 hC hFr hFx.1 hO
  have hl : lv_has ls 9 [(0, .ref b), (1, .ref x), (2, .ref (A 0)), (3, .ref o), (4, .int (nI i))] := hl
  refine lv_aload_n hx hb dL_law_160 rfl (lv_at hl 1 rfl) ?_
  refine lv_aload_n hx hb dL_law_161 rfl (lv_at hl 0 rfl) ?_
  refine lv_iload hx hb dL_law_162 (lv_at hl 4 rfl) ?_
  refine lv_iconst (v := nI 1) hx hb dL_law_164 (by decide +kernel) ?_
  refine nr_iadd hx hb dL_law_165 ?_
  refine nr_sld (j := i + 1) hx hb hXd hbl hbA hS (by omega) (by omega) dL_law_166 ?_
  refine lv_aload_n hx hb dL_law_167 rfl (lv_at hl 0 rfl) ?_
  refine lv_iload hx hb dL_law_168 (lv_at hl 4 rfl) ?_
  refine lv_iconst (v := nI 2) hx hb dL_law_170 (by decide +kernel) ?_
  refine nr_iadd hx hb dL_law_171 ?_
  refine nr_sld (j := i + 2) hx hb hXd hbl hbA hS (by omega) (by omega) dL_law_172 ?_
  refine lv_aload_n hx hb dL_law_173 rfl (lv_at hl 0 rfl) ?_
  refine lv_iload hx hb dL_law_174 (lv_at hl 4 rfl) ?_
  refine lv_iconst (v := nI 3) hx hb dL_law_176 (by decide +kernel) ?_
  refine nr_iadd hx hb dL_law_177 ?_
  refine nr_sld (j := i + 3) hx hb hXd hbl hbA hS (by omega) (by omega) dL_law_178 ?_
  refine lv_aload_n hx hb dL_law_179 rfl (lv_at hl 0 rfl) ?_
  refine lv_iload hx hb dL_law_180 (lv_at hl 4 rfl) ?_
  refine lv_iconst (v := nI 4) hx hb dL_law_182 (by decide +kernel) ?_
  refine nr_iadd hx hb dL_law_183 ?_
  refine nr_sld (j := i + 4) hx hb hXd hbl hbA hS (by omega) (by omega) dL_law_184 ?_
  refine lv_aload_n hx hb dL_law_185 rfl (lv_at hl 0 rfl) ?_
  refine lv_iload hx hb dL_law_186 (lv_at hl 4 rfl) ?_
  refine lv_iconst (v := nI 5) hx hb dL_law_188 (by decide +kernel) ?_
  refine nr_iadd hx hb dL_law_189 ?_
  refine nr_sld (j := i + 5) hx hb hXd hbl hbA hS (by omega) (by omega) dL_law_190 ?_
  refine lv_aload_n hx hb dL_law_191 rfl (lv_at hl 0 rfl) ?_
  refine lv_iload hx hb dL_law_192 (lv_at hl 4 rfl) ?_
  refine lv_bipush (v := nI 6) hx hb dL_law_194 (by decide +kernel) ?_
  refine nr_iadd hx hb dL_law_196 ?_
  refine nr_sld (j := i + 6) hx hb hXd hbl hbA hS (by omega) (by omega) dL_law_197 ?_
  refine nr_ne0 (t := 205) (j := 206) hx hb dL_law_198 (by decide) dL_law_201 dL_law_202 (by decide) dL_law_205 rfl ?_
  refine lv_aload_n hx hb dL_law_206 rfl (lv_at hl 3 rfl) ?_
  refine UC.callSW (As := .ref x :: ([.int (xs (i + 1)), .int (xs (i + 2)), .int (xs (i + 3)), .int (xs (i + 4)), .int (xs (i + 5)), .int (bI (!decide (xs (i + 6) = 0)))] ++ [.ref o])) S hU (vx_cwSW 8 hts gL_law_L_add rfl rfl rfl (by decide +kernel) ⟨(by show dd + 1 ≤ 2048; omega), (by show 8 + (9 + 11) + 40 * dd ≤ 84000; omega)⟩) hK eL_bl (fun U hW hU9 => eL.use hE0 hS hW hU9 hFA hFA2) hS hFA2 rfl hl.1 rfl (Nat.le_of_ble_eq_true rfl) dL_law_207 ⟨(by show cells + mc ≤ 601024; omega), (by show slots + ms ≤ 7293034; omega)⟩ (fun v H1 locs hB hS hsz hkp => ?_)
  obtain ⟨rfl, hC1, w1, hO1, hw1⟩ := hB
  have hmd : mdB D Y A th mi ju lo rs H1 := hmd.kept (fun j hj hq => hkp (A j) hq (fun z => z.elim (hFx.2.1 j hj).1 (hFx.2.1 j hj).2.1))
  refine W.widen (k := cells + 40) (n := slots + 120) (by omega) (by omega) ?_
  refine lv_istore (lv' := [(5, .int (nI k)), (0, .ref b), (1, .ref x), (2, .ref (A 0)), (3, .ref o), (4, .int (nI i))]) hx hb dL_law_210 hl (by decide) rfl (fun ls hl => ?_)
  refine lv_aload_n hx hb dL_law_212 rfl (lv_at hl 3 rfl) ?_
  refine lv_aload_n hx hb dL_law_213 rfl (lv_at hl 1 rfl) ?_
  refine lv_iload hx hb dL_law_214 (lv_at hl 5 rfl) ?_
  refine lv_iconst (v := nI 1) hx hb dL_law_216 (by decide +kernel) ?_
  refine nr_iadd hx hb dL_law_217 ?_
  refine nr_sld (j := i + 1) hx hb hXd hbl hbA hS (by omega) (by omega) dL_law_218 ?_
  refine lv_aload_n hx hb dL_law_219 rfl (lv_at hl 1 rfl) ?_
  refine lv_iload hx hb dL_law_220 (lv_at hl 5 rfl) ?_
  refine lv_iconst (v := nI 2) hx hb dL_law_222 (by decide +kernel) ?_
  refine nr_iadd hx hb dL_law_223 ?_
  refine nr_sld (j := i + 2) hx hb hXd hbl hbA hS (by omega) (by omega) dL_law_224 ?_
  refine lv_aload_n hx hb dL_law_225 rfl (lv_at hl 1 rfl) ?_
  refine lv_iload hx hb dL_law_226 (lv_at hl 5 rfl) ?_
  refine lv_iconst (v := nI 3) hx hb dL_law_228 (by decide +kernel) ?_
  refine nr_iadd hx hb dL_law_229 ?_
  refine nr_sld (j := i + 3) hx hb hXd hbl hbA hS (by omega) (by omega) dL_law_230 ?_
  refine lv_aload_n hx hb dL_law_231 rfl (lv_at hl 1 rfl) ?_
  refine lv_iload hx hb dL_law_232 (lv_at hl 5 rfl) ?_
  refine lv_iconst (v := nI 4) hx hb dL_law_234 (by decide +kernel) ?_
  refine nr_iadd hx hb dL_law_235 ?_
  refine nr_sld (j := i + 4) hx hb hXd hbl hbA hS (by omega) (by omega) dL_law_236 ?_
  refine lv_aload_n hx hb dL_law_237 rfl (lv_at hl 1 rfl) ?_
  refine lv_iload hx hb dL_law_238 (lv_at hl 5 rfl) ?_
  refine lv_iconst (v := nI 5) hx hb dL_law_240 (by decide +kernel) ?_
  refine nr_iadd hx hb dL_law_241 ?_
  refine nr_sld (j := i + 5) hx hb hXd hbl hbA hS (by omega) (by omega) dL_law_242 ?_
  refine lv_aload_n hx hb dL_law_243 rfl (lv_at hl 1 rfl) ?_
  refine lv_iload hx hb dL_law_244 (lv_at hl 5 rfl) ?_
  refine lv_bipush (v := nI 6) hx hb dL_law_246 (by decide +kernel) ?_
  refine nr_iadd hx hb dL_law_248 ?_
  refine nr_sld (j := i + 6) hx hb hXd hbl hbA hS (by omega) (by omega) dL_law_249 ?_
  refine nr_ne0 (t := 257) (j := 258) hx hb dL_law_250 (by decide) dL_law_253 dL_law_254 (by decide) dL_law_257 rfl ?_
  obtain ⟨f, bf, ca, bg, sz, hf, hPm⟩ := hmd
  refine MuI.callV (r := r) (As := [.int (xs (i + 1)), .int (xs (i + 2)), .int (xs (i + 3)), .int (xs (i + 4)), .int (xs (i + 5)), .int (bI (!decide (xs (i + 6) = 0)))]) S (hM th f bf ca bg sz hf) (cwV 6 hts gL_law_X3_add rfl rfl rfl (by decide +kernel) ⟨(by show dm + 1 ≤ 2048; omega), (by show 8 + (8 + 11) + 40 * dm ≤ 84000; omega)⟩) hK hPm (wM_D hFx th _ mi ju lo f bf ca bg sz) hS (va_recv hK.1 hPm (ci := 3) (q0 := 0) rfl rfl) rfl hl.1 rfl (Nat.le_of_ble_eq_true rfl) dL_law_258 ⟨(by show _ ≤ 601024; omega), (by show _ ≤ 7293034; omega)⟩ (fun H2 locs hB2 hS hsz2 hkp2 => ?_)
  have hC2 := hC1.kept (fun q hq hFq => hkp2 q hq (fun z => by obtain ⟨i9, h9, e9⟩ := wM_adr z; exact (hFx.2.1 i9 h9).1 (e9 ▸ hFq)))
  have hO2 := hO1.kept (hkp2 o hO1.lt (fun z => by obtain ⟨i9, h9, e9⟩ := wM_adr z; exact (hFx.2.1 i9 h9).2.1 e9.symm))
  have hFr2 : ∀ q, H2.size ≤ q → F q := fun q hq => hFr q (by omega)
  refine lv_istore (lv' := [(6, .int r), (5, .int (nI k)), (0, .ref b), (1, .ref x), (2, .ref (A 0)), (3, .ref o), (4, .int (nI i))]) hx hb dL_law_261 hl (by decide) rfl (fun ls hl => ?_)
  refine lv_aload_n hx hb dL_law_263 rfl (lv_at hl 4 rfl) ?_
  obtain ⟨f2, bf2, ca2, bg2, sz2, hf2, hP2⟩ := id hB2
  refine Rd.callV (r := nI k) (As := []) S (k_X3_thrown l hP2) (cwV 0 hts gL_law_X3_thrown rfl rfl rfl (by decide +kernel) ⟨Nat.le_of_ble_eq_true rfl, Nat.le_of_ble_eq_true rfl⟩) hK (va_recv hK.1 hP2 (ci := 3) (q0 := 0) rfl rfl) rfl hl.1 rfl (Nat.le_of_ble_eq_true rfl) dL_law_264 ⟨(by show _ ≤ 601024; omega), (by show _ ≤ 7293034; omega)⟩ ?_
  refine lv_iload hx hb dL_law_267 (lv_at hl 1 rfl) ?_
  refine lv_icmp_eq (tgt := 274) hx hb dL_law_269 (by decide) (fun _ => ?_) (fun z => absurd rfl z)
  refine lv_iload hx hb dL_law_274 (lv_at hl 1 rfl) ?_
  refine nr_if_ne (a := k) (tgt := 291) hx hb (by omega) dL_law_276 (by decide) (fun ck => ?_) (fun ck => ?_)
  · refine lv_goto (tgt := 1554) hx hb dL_law_291 (by decide) ?_
    exact hN d0 ju2 mi2 lo2 rs2 H2 locs ls hd0 ⟨hC2, ⟨_, hB2⟩, ⟨_, hO2⟩, hFr2⟩ hS (lv_sub hl [2, 3, 4, 5, 6] rfl)
  · subst ck
    have hw2 := hw rfl
    rw [hw1 rfl, hw2] at hO2
    refine lv_aload_n hx hb dL_law_279 rfl (lv_at hl 5 rfl) ?_
    refine lv_iconst (v := nI 0) hx hb dL_law_280 (by decide +kernel) ?_
    refine nr_lald0 S hK hO2 dL_law_281 ?_
    refine lv_iload hx hb dL_law_282 (lv_at hl 0 rfl) ?_
    refine lv_i2l (v := r.toInt64) hx hb dL_law_284 rfl ?_
    refine W.lcmp hx hb dL_law_285 ?_
    refine lv_if_eq (tgt := 291) hx hb dL_law_286 (by decide) (fun _ => ?_) (fun z => absurd (lg_cmp_self _) z)
    refine lv_goto (tgt := 1554) hx hb dL_law_291 (by decide) ?_
    exact hN d0 ju2 mi2 lo2 rs2 H2 locs ls hd0 ⟨hC2, ⟨_, hB2⟩, ⟨_, hO2⟩, hFr2⟩ hS (lv_sub hl [2, 3, 4, 5, 6] rfl)
set_option maxHeartbeats 4000000 in
set_option maxRecDepth 100000 in
theorem lc_remove {p : Program} {l : Launch} {e : Env} {s : State} {m : MethodId} {below : List Frame} {meth : Method} {c : Code} {b L : Nat} {xs : Nat → Int32} {D : va_G} {Y : Nat → ClassId} {F : Nat → Prop} {t0 la x na o : Nat} {A : Nat → Nat} (hEn : LEn l p s m meth c b L xs D Y F t0 o A) {i cells slots : Nat} (hi : i + 7 ≤ L) (hc : cells + 40 ≤ 601024) (hs : slots + 120 ≤ 7293034) (hN : LNx p l e s m below meth c b D Y F t0 la x na o A i (cells + 40) (slots + 120)) {d0 : Drawn} (hd0 : s.drawn.sameBut d0 lw_cs) {ju mi lo : Int32} {rs : List RV} {H : Heap} {locs : List Loc} {ls : Array Slot} (hLS : LwS D Y F t0 la x na o A ju mi lo rs H) (hS : va_S (bigA s) s.heap H locs) (hl : lv_has ls 9 (lwL b x (A 0) o i)) : lwW p l e s m below meth c b d0 H locs cells slots (F0 m 294 ls []) := by
  obtain ⟨C0, hK0, hE0, hFx, hlt, hL⟩ := hEn
  obtain ⟨hx, hb, hr, hml, hown, hts0, hXs, hbl, hlocks, hgv⟩ := id C0
  have hts : ∀ w ∈ wsL_law, w.before #[Value.ref b] (s.setDrawn d0) = true := dr_words (fun w h => hts0 w (wsL_law_in w h)) d0
  have S : CallFix p m c cL_law 9 (s.setDrawn d0) #[Value.ref b] wsL_law RL := ⟨hx, hb, hml, hown, hts⟩
  have hK := hK0.drawn d0
  have hXd : va_X b L xs (s.setDrawn d0) s.heap := va_X.moved (u := s) (U := s.setDrawn d0) (Vm.Alike.refl s.vm) hXs
  have hbA : ¬ bigA s b := Nat.not_le.mpr hbl
  obtain ⟨hC, ⟨th, hmd⟩, ⟨w0, hO⟩, hFr⟩ := hLS
  have hFA : ∀ q, F q → bigA s q := hFx.2.2.2.1
  have hFA2 : ∀ q, (F q ∨ q = o) → bigA s q := fun q h => h.elim (hFA q) (fun z => by rw [z]; exact hFx.2.2.2.2)
  obtain ⟨k, r, w, rs2, ju2, mi2, lo2, dd, mc, ms, dm, hbd, hU, hM, hw⟩ := sp_remove l hlt (D := D) (Y := Y) (F := F) (t0 := t0) (la := la) (x := x) (na := na) (o := o) (A := A) (xs (i + 1)) ju mi lo rs H w0 hC hFr hFx.1 hO
  have hl : lv_has ls 9 [(0, .ref b), (1, .ref x), (2, .ref (A 0)), (3, .ref o), (4, .int (nI i))] := hl
  refine lv_aload_n hx hb dL_law_294 rfl (lv_at hl 1 rfl) ?_
  refine lv_aload_n hx hb dL_law_295 rfl (lv_at hl 0 rfl) ?_
  refine lv_iload hx hb dL_law_296 (lv_at hl 4 rfl) ?_
  refine lv_iconst (v := nI 1) hx hb dL_law_298 (by decide +kernel) ?_
  refine nr_iadd hx hb dL_law_299 ?_
  refine nr_sld (j := i + 1) hx hb hXd hbl hbA hS (by omega) (by omega) dL_law_300 ?_
  refine lv_aload_n hx hb dL_law_301 rfl (lv_at hl 3 rfl) ?_
  refine UC.callSW (As := .ref x :: ([.int (xs (i + 1))] ++ [.ref o])) S hU (vx_cwSW 3 hts gL_law_L_remove rfl rfl rfl (by decide +kernel) ⟨(by show dd + 1 ≤ 2048; omega), (by show 8 + (4 + 11) + 40 * dd ≤ 84000; omega)⟩) hK eL_bl (fun U hW hU9 => eL.use hE0 hS hW hU9 hFA hFA2) hS hFA2 rfl hl.1 rfl (Nat.le_of_ble_eq_true rfl) dL_law_302 ⟨(by show cells + mc ≤ 601024; omega), (by show slots + ms ≤ 7293034; omega)⟩ (fun v H1 locs hB hS hsz hkp => ?_)
  obtain ⟨rfl, hC1, w1, hO1, hw1⟩ := hB
  have hmd : mdB D Y A th mi ju lo rs H1 := hmd.kept (fun j hj hq => hkp (A j) hq (fun z => z.elim (hFx.2.1 j hj).1 (hFx.2.1 j hj).2.1))
  refine W.widen (k := cells + 40) (n := slots + 120) (by omega) (by omega) ?_
  refine lv_istore (lv' := [(5, .int (nI k)), (0, .ref b), (1, .ref x), (2, .ref (A 0)), (3, .ref o), (4, .int (nI i))]) hx hb dL_law_305 hl (by decide) rfl (fun ls hl => ?_)
  refine lv_aload_n hx hb dL_law_307 rfl (lv_at hl 3 rfl) ?_
  refine lv_aload_n hx hb dL_law_308 rfl (lv_at hl 1 rfl) ?_
  refine lv_iload hx hb dL_law_309 (lv_at hl 5 rfl) ?_
  refine lv_iconst (v := nI 1) hx hb dL_law_311 (by decide +kernel) ?_
  refine nr_iadd hx hb dL_law_312 ?_
  refine nr_sld (j := i + 1) hx hb hXd hbl hbA hS (by omega) (by omega) dL_law_313 ?_
  obtain ⟨f, bf, ca, bg, sz, hf, hPm⟩ := hmd
  refine MuI.callV (r := r) (As := [.int (xs (i + 1))]) S (hM th f bf ca bg sz hf) (cwV 1 hts gL_law_X3_remove rfl rfl rfl (by decide +kernel) ⟨(by show dm + 1 ≤ 2048; omega), (by show 8 + (2 + 11) + 40 * dm ≤ 84000; omega)⟩) hK hPm (wM_D hFx th _ mi ju lo f bf ca bg sz) hS (va_recv hK.1 hPm (ci := 3) (q0 := 0) rfl rfl) rfl hl.1 rfl (Nat.le_of_ble_eq_true rfl) dL_law_314 ⟨(by show _ ≤ 601024; omega), (by show _ ≤ 7293034; omega)⟩ (fun H2 locs hB2 hS hsz2 hkp2 => ?_)
  have hC2 := hC1.kept (fun q hq hFq => hkp2 q hq (fun z => by obtain ⟨i9, h9, e9⟩ := wM_adr z; exact (hFx.2.1 i9 h9).1 (e9 ▸ hFq)))
  have hO2 := hO1.kept (hkp2 o hO1.lt (fun z => by obtain ⟨i9, h9, e9⟩ := wM_adr z; exact (hFx.2.1 i9 h9).2.1 e9.symm))
  have hFr2 : ∀ q, H2.size ≤ q → F q := fun q hq => hFr q (by omega)
  refine lv_istore (lv' := [(6, .int r), (5, .int (nI k)), (0, .ref b), (1, .ref x), (2, .ref (A 0)), (3, .ref o), (4, .int (nI i))]) hx hb dL_law_317 hl (by decide) rfl (fun ls hl => ?_)
  refine lv_aload_n hx hb dL_law_319 rfl (lv_at hl 4 rfl) ?_
  obtain ⟨f2, bf2, ca2, bg2, sz2, hf2, hP2⟩ := id hB2
  refine Rd.callV (r := nI k) (As := []) S (k_X3_thrown l hP2) (cwV 0 hts gL_law_X3_thrown rfl rfl rfl (by decide +kernel) ⟨Nat.le_of_ble_eq_true rfl, Nat.le_of_ble_eq_true rfl⟩) hK (va_recv hK.1 hP2 (ci := 3) (q0 := 0) rfl rfl) rfl hl.1 rfl (Nat.le_of_ble_eq_true rfl) dL_law_320 ⟨(by show _ ≤ 601024; omega), (by show _ ≤ 7293034; omega)⟩ ?_
  refine lv_iload hx hb dL_law_323 (lv_at hl 1 rfl) ?_
  refine lv_icmp_eq (tgt := 330) hx hb dL_law_325 (by decide) (fun _ => ?_) (fun z => absurd rfl z)
  refine lv_iload hx hb dL_law_330 (lv_at hl 1 rfl) ?_
  refine nr_if_ne (a := k) (tgt := 347) hx hb (by omega) dL_law_332 (by decide) (fun ck => ?_) (fun ck => ?_)
  · refine lv_goto (tgt := 1554) hx hb dL_law_347 (by decide) ?_
    exact hN d0 ju2 mi2 lo2 rs2 H2 locs ls hd0 ⟨hC2, ⟨_, hB2⟩, ⟨_, hO2⟩, hFr2⟩ hS (lv_sub hl [2, 3, 4, 5, 6] rfl)
  · subst ck
    have hw2 := hw rfl
    rw [hw1 rfl, hw2] at hO2
    refine lv_aload_n hx hb dL_law_335 rfl (lv_at hl 5 rfl) ?_
    refine lv_iconst (v := nI 0) hx hb dL_law_336 (by decide +kernel) ?_
    refine nr_lald0 S hK hO2 dL_law_337 ?_
    refine lv_iload hx hb dL_law_338 (lv_at hl 0 rfl) ?_
    refine lv_i2l (v := r.toInt64) hx hb dL_law_340 rfl ?_
    refine W.lcmp hx hb dL_law_341 ?_
    refine lv_if_eq (tgt := 347) hx hb dL_law_342 (by decide) (fun _ => ?_) (fun z => absurd (lg_cmp_self _) z)
    refine lv_goto (tgt := 1554) hx hb dL_law_347 (by decide) ?_
    exact hN d0 ju2 mi2 lo2 rs2 H2 locs ls hd0 ⟨hC2, ⟨_, hB2⟩, ⟨_, hO2⟩, hFr2⟩ hS (lv_sub hl [2, 3, 4, 5, 6] rfl)
set_option maxHeartbeats 4000000 in
set_option maxRecDepth 100000 in
theorem lc_move {p : Program} {l : Launch} {e : Env} {s : State} {m : MethodId} {below : List Frame} {meth : Method} {c : Code} {b L : Nat} {xs : Nat → Int32} {D : va_G} {Y : Nat → ClassId} {F : Nat → Prop} {t0 la x na o : Nat} {A : Nat → Nat} (hEn : LEn l p s m meth c b L xs D Y F t0 o A) {i cells slots : Nat} (hi : i + 7 ≤ L) (hc : cells + 40 ≤ 601024) (hs : slots + 120 ≤ 7293034) (hN : LNx p l e s m below meth c b D Y F t0 la x na o A i (cells + 40) (slots + 120)) {d0 : Drawn} (hd0 : s.drawn.sameBut d0 lw_cs) {ju mi lo : Int32} {rs : List RV} {H : Heap} {locs : List Loc} {ls : Array Slot} (hLS : LwS D Y F t0 la x na o A ju mi lo rs H) (hS : va_S (bigA s) s.heap H locs) (hl : lv_has ls 9 (lwL b x (A 0) o i)) : lwW p l e s m below meth c b d0 H locs cells slots (F0 m 350 ls []) := by
  obtain ⟨C0, hK0, hE0, hFx, hlt, hL⟩ := hEn
  obtain ⟨hx, hb, hr, hml, hown, hts0, hXs, hbl, hlocks, hgv⟩ := id C0
  have hts : ∀ w ∈ wsL_law, w.before #[Value.ref b] (s.setDrawn d0) = true := dr_words (fun w h => hts0 w (wsL_law_in w h)) d0
  have S : CallFix p m c cL_law 9 (s.setDrawn d0) #[Value.ref b] wsL_law RL := ⟨hx, hb, hml, hown, hts⟩
  have hK := hK0.drawn d0
  have hXd : va_X b L xs (s.setDrawn d0) s.heap := va_X.moved (u := s) (U := s.setDrawn d0) (Vm.Alike.refl s.vm) hXs
  have hbA : ¬ bigA s b := Nat.not_le.mpr hbl
  obtain ⟨hC, ⟨th, hmd⟩, ⟨w0, hO⟩, hFr⟩ := hLS
  have hFA : ∀ q, F q → bigA s q := hFx.2.2.2.1
  have hFA2 : ∀ q, (F q ∨ q = o) → bigA s q := fun q h => h.elim (hFA q) (fun z => by rw [z]; exact hFx.2.2.2.2)
  obtain ⟨k, r, w, rs2, ju2, mi2, lo2, dd, mc, ms, dm, hbd, hU, hM, hw⟩ := sp_move l hlt (D := D) (Y := Y) (F := F) (t0 := t0) (la := la) (x := x) (na := na) (o := o) (A := A) (xs (i + 1)) (xs (i + 2)) ju mi lo rs H w0 hC hFr hFx.1 hO
  have hl : lv_has ls 9 [(0, .ref b), (1, .ref x), (2, .ref (A 0)), (3, .ref o), (4, .int (nI i))] := hl
  refine lv_aload_n hx hb dL_law_350 rfl (lv_at hl 1 rfl) ?_
  refine lv_aload_n hx hb dL_law_351 rfl (lv_at hl 0 rfl) ?_
  refine lv_iload hx hb dL_law_352 (lv_at hl 4 rfl) ?_
  refine lv_iconst (v := nI 1) hx hb dL_law_354 (by decide +kernel) ?_
  refine nr_iadd hx hb dL_law_355 ?_
  refine nr_sld (j := i + 1) hx hb hXd hbl hbA hS (by omega) (by omega) dL_law_356 ?_
  refine lv_aload_n hx hb dL_law_357 rfl (lv_at hl 0 rfl) ?_
  refine lv_iload hx hb dL_law_358 (lv_at hl 4 rfl) ?_
  refine lv_iconst (v := nI 2) hx hb dL_law_360 (by decide +kernel) ?_
  refine nr_iadd hx hb dL_law_361 ?_
  refine nr_sld (j := i + 2) hx hb hXd hbl hbA hS (by omega) (by omega) dL_law_362 ?_
  refine lv_aload_n hx hb dL_law_363 rfl (lv_at hl 3 rfl) ?_
  refine UC.callSW (As := .ref x :: ([.int (xs (i + 1)), .int (xs (i + 2))] ++ [.ref o])) S hU (vx_cwSW 4 hts gL_law_L_move rfl rfl rfl (by decide +kernel) ⟨(by show dd + 1 ≤ 2048; omega), (by show 8 + (5 + 11) + 40 * dd ≤ 84000; omega)⟩) hK eL_bl (fun U hW hU9 => eL.use hE0 hS hW hU9 hFA hFA2) hS hFA2 rfl hl.1 rfl (Nat.le_of_ble_eq_true rfl) dL_law_364 ⟨(by show cells + mc ≤ 601024; omega), (by show slots + ms ≤ 7293034; omega)⟩ (fun v H1 locs hB hS hsz hkp => ?_)
  obtain ⟨rfl, hC1, w1, hO1, hw1⟩ := hB
  have hmd : mdB D Y A th mi ju lo rs H1 := hmd.kept (fun j hj hq => hkp (A j) hq (fun z => z.elim (hFx.2.1 j hj).1 (hFx.2.1 j hj).2.1))
  refine W.widen (k := cells + 40) (n := slots + 120) (by omega) (by omega) ?_
  refine lv_istore (lv' := [(5, .int (nI k)), (0, .ref b), (1, .ref x), (2, .ref (A 0)), (3, .ref o), (4, .int (nI i))]) hx hb dL_law_367 hl (by decide) rfl (fun ls hl => ?_)
  refine lv_aload_n hx hb dL_law_369 rfl (lv_at hl 3 rfl) ?_
  refine lv_aload_n hx hb dL_law_370 rfl (lv_at hl 1 rfl) ?_
  refine lv_iload hx hb dL_law_371 (lv_at hl 5 rfl) ?_
  refine lv_iconst (v := nI 1) hx hb dL_law_373 (by decide +kernel) ?_
  refine nr_iadd hx hb dL_law_374 ?_
  refine nr_sld (j := i + 1) hx hb hXd hbl hbA hS (by omega) (by omega) dL_law_375 ?_
  refine lv_aload_n hx hb dL_law_376 rfl (lv_at hl 1 rfl) ?_
  refine lv_iload hx hb dL_law_377 (lv_at hl 5 rfl) ?_
  refine lv_iconst (v := nI 2) hx hb dL_law_379 (by decide +kernel) ?_
  refine nr_iadd hx hb dL_law_380 ?_
  refine nr_sld (j := i + 2) hx hb hXd hbl hbA hS (by omega) (by omega) dL_law_381 ?_
  obtain ⟨f, bf, ca, bg, sz, hf, hPm⟩ := hmd
  refine MuI.callV (r := r) (As := [.int (xs (i + 1)), .int (xs (i + 2))]) S (hM th f bf ca bg sz hf) (cwV 2 hts gL_law_X3_move rfl rfl rfl (by decide +kernel) ⟨(by show dm + 1 ≤ 2048; omega), (by show 8 + (3 + 11) + 40 * dm ≤ 84000; omega)⟩) hK hPm (wM_D hFx th _ mi ju lo f bf ca bg sz) hS (va_recv hK.1 hPm (ci := 3) (q0 := 0) rfl rfl) rfl hl.1 rfl (Nat.le_of_ble_eq_true rfl) dL_law_382 ⟨(by show _ ≤ 601024; omega), (by show _ ≤ 7293034; omega)⟩ (fun H2 locs hB2 hS hsz2 hkp2 => ?_)
  have hC2 := hC1.kept (fun q hq hFq => hkp2 q hq (fun z => by obtain ⟨i9, h9, e9⟩ := wM_adr z; exact (hFx.2.1 i9 h9).1 (e9 ▸ hFq)))
  have hO2 := hO1.kept (hkp2 o hO1.lt (fun z => by obtain ⟨i9, h9, e9⟩ := wM_adr z; exact (hFx.2.1 i9 h9).2.1 e9.symm))
  have hFr2 : ∀ q, H2.size ≤ q → F q := fun q hq => hFr q (by omega)
  refine lv_istore (lv' := [(6, .int r), (5, .int (nI k)), (0, .ref b), (1, .ref x), (2, .ref (A 0)), (3, .ref o), (4, .int (nI i))]) hx hb dL_law_385 hl (by decide) rfl (fun ls hl => ?_)
  refine lv_aload_n hx hb dL_law_387 rfl (lv_at hl 4 rfl) ?_
  obtain ⟨f2, bf2, ca2, bg2, sz2, hf2, hP2⟩ := id hB2
  refine Rd.callV (r := nI k) (As := []) S (k_X3_thrown l hP2) (cwV 0 hts gL_law_X3_thrown rfl rfl rfl (by decide +kernel) ⟨Nat.le_of_ble_eq_true rfl, Nat.le_of_ble_eq_true rfl⟩) hK (va_recv hK.1 hP2 (ci := 3) (q0 := 0) rfl rfl) rfl hl.1 rfl (Nat.le_of_ble_eq_true rfl) dL_law_388 ⟨(by show _ ≤ 601024; omega), (by show _ ≤ 7293034; omega)⟩ ?_
  refine lv_iload hx hb dL_law_391 (lv_at hl 1 rfl) ?_
  refine lv_icmp_eq (tgt := 398) hx hb dL_law_393 (by decide) (fun _ => ?_) (fun z => absurd rfl z)
  refine lv_iload hx hb dL_law_398 (lv_at hl 1 rfl) ?_
  refine nr_if_ne (a := k) (tgt := 415) hx hb (by omega) dL_law_400 (by decide) (fun ck => ?_) (fun ck => ?_)
  · refine lv_goto (tgt := 1554) hx hb dL_law_415 (by decide) ?_
    exact hN d0 ju2 mi2 lo2 rs2 H2 locs ls hd0 ⟨hC2, ⟨_, hB2⟩, ⟨_, hO2⟩, hFr2⟩ hS (lv_sub hl [2, 3, 4, 5, 6] rfl)
  · subst ck
    have hw2 := hw rfl
    rw [hw1 rfl, hw2] at hO2
    refine lv_aload_n hx hb dL_law_403 rfl (lv_at hl 5 rfl) ?_
    refine lv_iconst (v := nI 0) hx hb dL_law_404 (by decide +kernel) ?_
    refine nr_lald0 S hK hO2 dL_law_405 ?_
    refine lv_iload hx hb dL_law_406 (lv_at hl 0 rfl) ?_
    refine lv_i2l (v := r.toInt64) hx hb dL_law_408 rfl ?_
    refine W.lcmp hx hb dL_law_409 ?_
    refine lv_if_eq (tgt := 415) hx hb dL_law_410 (by decide) (fun _ => ?_) (fun z => absurd (lg_cmp_self _) z)
    refine lv_goto (tgt := 1554) hx hb dL_law_415 (by decide) ?_
    exact hN d0 ju2 mi2 lo2 rs2 H2 locs ls hd0 ⟨hC2, ⟨_, hB2⟩, ⟨_, hO2⟩, hFr2⟩ hS (lv_sub hl [2, 3, 4, 5, 6] rfl)
set_option maxHeartbeats 4000000 in
set_option maxRecDepth 100000 in
theorem lc_sources {p : Program} {l : Launch} {e : Env} {s : State} {m : MethodId} {below : List Frame} {meth : Method} {c : Code} {b L : Nat} {xs : Nat → Int32} {D : va_G} {Y : Nat → ClassId} {F : Nat → Prop} {t0 la x na o : Nat} {A : Nat → Nat} (hEn : LEn l p s m meth c b L xs D Y F t0 o A) {i cells slots : Nat} (hi : i + 7 ≤ L) (hc : cells + 40 ≤ 601024) (hs : slots + 120 ≤ 7293034) (hN : LNx p l e s m below meth c b D Y F t0 la x na o A i (cells + 40) (slots + 120)) {d0 : Drawn} (hd0 : s.drawn.sameBut d0 lw_cs) {ju mi lo : Int32} {rs : List RV} {H : Heap} {locs : List Loc} {ls : Array Slot} (hLS : LwS D Y F t0 la x na o A ju mi lo rs H) (hS : va_S (bigA s) s.heap H locs) (hl : lv_has ls 9 (lwL b x (A 0) o i)) : lwW p l e s m below meth c b d0 H locs cells slots (F0 m 431 ls []) := by
  obtain ⟨C0, hK0, hE0, hFx, hlt, hL⟩ := hEn
  obtain ⟨hx, hb, hr, hml, hown, hts0, hXs, hbl, hlocks, hgv⟩ := id C0
  have hts : ∀ w ∈ wsL_law, w.before #[Value.ref b] (s.setDrawn d0) = true := dr_words (fun w h => hts0 w (wsL_law_in w h)) d0
  have S : CallFix p m c cL_law 9 (s.setDrawn d0) #[Value.ref b] wsL_law RL := ⟨hx, hb, hml, hown, hts⟩
  have hK := hK0.drawn d0
  have hXd : va_X b L xs (s.setDrawn d0) s.heap := va_X.moved (u := s) (U := s.setDrawn d0) (Vm.Alike.refl s.vm) hXs
  have hbA : ¬ bigA s b := Nat.not_le.mpr hbl
  obtain ⟨hC, ⟨th, hmd⟩, ⟨w0, hO⟩, hFr⟩ := hLS
  have hFA : ∀ q, F q → bigA s q := hFx.2.2.2.1
  have hFA2 : ∀ q, (F q ∨ q = o) → bigA s q := fun q h => h.elim (hFA q) (fun z => by rw [z]; exact hFx.2.2.2.2)
  obtain ⟨k, r, w, rs2, ju2, mi2, lo2, dd, mc, ms, dm, hbd, hU, hM, hw⟩ := sp_sources l hlt (D := D) (Y := Y) (F := F) (t0 := t0) (la := la) (x := x) (na := na) (o := o) (A := A) (xs (i + 1)) ju mi lo rs H w0 hC hFr hFx.1 hO
  have hl : lv_has ls 9 [(0, .ref b), (1, .ref x), (2, .ref (A 0)), (3, .ref o), (4, .int (nI i))] := hl
  refine lv_aload_n hx hb dL_law_431 rfl (lv_at hl 1 rfl) ?_
  refine lv_aload_n hx hb dL_law_432 rfl (lv_at hl 0 rfl) ?_
  refine lv_iload hx hb dL_law_433 (lv_at hl 4 rfl) ?_
  refine lv_iconst (v := nI 1) hx hb dL_law_435 (by decide +kernel) ?_
  refine nr_iadd hx hb dL_law_436 ?_
  refine nr_sld (j := i + 1) hx hb hXd hbl hbA hS (by omega) (by omega) dL_law_437 ?_
  refine lv_aload_n hx hb dL_law_438 rfl (lv_at hl 3 rfl) ?_
  refine UC.callSW (As := .ref x :: ([.int (xs (i + 1))] ++ [.ref o])) S hU (vx_cwSW 3 hts gL_law_L_sources rfl rfl rfl (by decide +kernel) ⟨(by show dd + 1 ≤ 2048; omega), (by show 8 + (4 + 11) + 40 * dd ≤ 84000; omega)⟩) hK eL_bl (fun U hW hU9 => eL.use hE0 hS hW hU9 hFA hFA2) hS hFA2 rfl hl.1 rfl (Nat.le_of_ble_eq_true rfl) dL_law_439 ⟨(by show cells + mc ≤ 601024; omega), (by show slots + ms ≤ 7293034; omega)⟩ (fun v H1 locs hB hS hsz hkp => ?_)
  obtain ⟨rfl, hC1, w1, hO1, hw1⟩ := hB
  have hmd : mdB D Y A th mi ju lo rs H1 := hmd.kept (fun j hj hq => hkp (A j) hq (fun z => z.elim (hFx.2.1 j hj).1 (hFx.2.1 j hj).2.1))
  refine W.widen (k := cells + 40) (n := slots + 120) (by omega) (by omega) ?_
  refine lv_istore (lv' := [(5, .int (nI k)), (0, .ref b), (1, .ref x), (2, .ref (A 0)), (3, .ref o), (4, .int (nI i))]) hx hb dL_law_442 hl (by decide) rfl (fun ls hl => ?_)
  refine lv_aload_n hx hb dL_law_444 rfl (lv_at hl 3 rfl) ?_
  refine lv_aload_n hx hb dL_law_445 rfl (lv_at hl 1 rfl) ?_
  refine lv_iload hx hb dL_law_446 (lv_at hl 5 rfl) ?_
  refine lv_iconst (v := nI 1) hx hb dL_law_448 (by decide +kernel) ?_
  refine nr_iadd hx hb dL_law_449 ?_
  refine nr_sld (j := i + 1) hx hb hXd hbl hbA hS (by omega) (by omega) dL_law_450 ?_
  obtain ⟨f, bf, ca, bg, sz, hf, hPm⟩ := hmd
  refine MuI.callV (r := r) (As := [.int (xs (i + 1))]) S (hM th f bf ca bg sz hf) (cwV 1 hts gL_law_X3_sources rfl rfl rfl (by decide +kernel) ⟨(by show dm + 1 ≤ 2048; omega), (by show 8 + (2 + 11) + 40 * dm ≤ 84000; omega)⟩) hK hPm (wM_D hFx th _ mi ju lo f bf ca bg sz) hS (va_recv hK.1 hPm (ci := 3) (q0 := 0) rfl rfl) rfl hl.1 rfl (Nat.le_of_ble_eq_true rfl) dL_law_451 ⟨(by show _ ≤ 601024; omega), (by show _ ≤ 7293034; omega)⟩ (fun H2 locs hB2 hS hsz2 hkp2 => ?_)
  have hC2 := hC1.kept (fun q hq hFq => hkp2 q hq (fun z => by obtain ⟨i9, h9, e9⟩ := wM_adr z; exact (hFx.2.1 i9 h9).1 (e9 ▸ hFq)))
  have hO2 := hO1.kept (hkp2 o hO1.lt (fun z => by obtain ⟨i9, h9, e9⟩ := wM_adr z; exact (hFx.2.1 i9 h9).2.1 e9.symm))
  have hFr2 : ∀ q, H2.size ≤ q → F q := fun q hq => hFr q (by omega)
  refine lv_istore (lv' := [(6, .int r), (5, .int (nI k)), (0, .ref b), (1, .ref x), (2, .ref (A 0)), (3, .ref o), (4, .int (nI i))]) hx hb dL_law_454 hl (by decide) rfl (fun ls hl => ?_)
  refine lv_aload_n hx hb dL_law_456 rfl (lv_at hl 4 rfl) ?_
  obtain ⟨f2, bf2, ca2, bg2, sz2, hf2, hP2⟩ := id hB2
  refine Rd.callV (r := nI k) (As := []) S (k_X3_thrown l hP2) (cwV 0 hts gL_law_X3_thrown rfl rfl rfl (by decide +kernel) ⟨Nat.le_of_ble_eq_true rfl, Nat.le_of_ble_eq_true rfl⟩) hK (va_recv hK.1 hP2 (ci := 3) (q0 := 0) rfl rfl) rfl hl.1 rfl (Nat.le_of_ble_eq_true rfl) dL_law_457 ⟨(by show _ ≤ 601024; omega), (by show _ ≤ 7293034; omega)⟩ ?_
  refine lv_iload hx hb dL_law_460 (lv_at hl 1 rfl) ?_
  refine lv_icmp_eq (tgt := 467) hx hb dL_law_462 (by decide) (fun _ => ?_) (fun z => absurd rfl z)
  refine lv_iload hx hb dL_law_467 (lv_at hl 1 rfl) ?_
  refine nr_if_ne (a := k) (tgt := 484) hx hb (by omega) dL_law_469 (by decide) (fun ck => ?_) (fun ck => ?_)
  · refine lv_goto (tgt := 1554) hx hb dL_law_484 (by decide) ?_
    exact hN d0 ju2 mi2 lo2 rs2 H2 locs ls hd0 ⟨hC2, ⟨_, hB2⟩, ⟨_, hO2⟩, hFr2⟩ hS (lv_sub hl [2, 3, 4, 5, 6] rfl)
  · subst ck
    have hw2 := hw rfl
    rw [hw1 rfl, hw2] at hO2
    refine lv_aload_n hx hb dL_law_472 rfl (lv_at hl 5 rfl) ?_
    refine lv_iconst (v := nI 0) hx hb dL_law_473 (by decide +kernel) ?_
    refine nr_lald0 S hK hO2 dL_law_474 ?_
    refine lv_iload hx hb dL_law_475 (lv_at hl 0 rfl) ?_
    refine lv_i2l (v := r.toInt64) hx hb dL_law_477 rfl ?_
    refine W.lcmp hx hb dL_law_478 ?_
    refine lv_if_eq (tgt := 484) hx hb dL_law_479 (by decide) (fun _ => ?_) (fun z => absurd (lg_cmp_self _) z)
    refine lv_goto (tgt := 1554) hx hb dL_law_484 (by decide) ?_
    exact hN d0 ju2 mi2 lo2 rs2 H2 locs ls hd0 ⟨hC2, ⟨_, hB2⟩, ⟨_, hO2⟩, hFr2⟩ hS (lv_sub hl [2, 3, 4, 5, 6] rfl)
set_option maxHeartbeats 4000000 in
set_option maxRecDepth 100000 in
theorem lc_destinations {p : Program} {l : Launch} {e : Env} {s : State} {m : MethodId} {below : List Frame} {meth : Method} {c : Code} {b L : Nat} {xs : Nat → Int32} {D : va_G} {Y : Nat → ClassId} {F : Nat → Prop} {t0 la x na o : Nat} {A : Nat → Nat} (hEn : LEn l p s m meth c b L xs D Y F t0 o A) {i cells slots : Nat} (hi : i + 7 ≤ L) (hc : cells + 40 ≤ 601024) (hs : slots + 120 ≤ 7293034) (hN : LNx p l e s m below meth c b D Y F t0 la x na o A i (cells + 40) (slots + 120)) {d0 : Drawn} (hd0 : s.drawn.sameBut d0 lw_cs) {ju mi lo : Int32} {rs : List RV} {H : Heap} {locs : List Loc} {ls : Array Slot} (hLS : LwS D Y F t0 la x na o A ju mi lo rs H) (hS : va_S (bigA s) s.heap H locs) (hl : lv_has ls 9 (lwL b x (A 0) o i)) : lwW p l e s m below meth c b d0 H locs cells slots (F0 m 487 ls []) := by
  obtain ⟨C0, hK0, hE0, hFx, hlt, hL⟩ := hEn
  obtain ⟨hx, hb, hr, hml, hown, hts0, hXs, hbl, hlocks, hgv⟩ := id C0
  have hts : ∀ w ∈ wsL_law, w.before #[Value.ref b] (s.setDrawn d0) = true := dr_words (fun w h => hts0 w (wsL_law_in w h)) d0
  have S : CallFix p m c cL_law 9 (s.setDrawn d0) #[Value.ref b] wsL_law RL := ⟨hx, hb, hml, hown, hts⟩
  have hK := hK0.drawn d0
  have hXd : va_X b L xs (s.setDrawn d0) s.heap := va_X.moved (u := s) (U := s.setDrawn d0) (Vm.Alike.refl s.vm) hXs
  have hbA : ¬ bigA s b := Nat.not_le.mpr hbl
  obtain ⟨hC, ⟨th, hmd⟩, ⟨w0, hO⟩, hFr⟩ := hLS
  have hFA : ∀ q, F q → bigA s q := hFx.2.2.2.1
  have hFA2 : ∀ q, (F q ∨ q = o) → bigA s q := fun q h => h.elim (hFA q) (fun z => by rw [z]; exact hFx.2.2.2.2)
  obtain ⟨k, r, w, rs2, ju2, mi2, lo2, dd, mc, ms, dm, hbd, hU, hM, hw⟩ := sp_destinations l hlt (D := D) (Y := Y) (F := F) (t0 := t0) (la := la) (x := x) (na := na) (o := o) (A := A) (xs (i + 1)) ju mi lo rs H w0 hC hFr hFx.1 hO
  have hl : lv_has ls 9 [(0, .ref b), (1, .ref x), (2, .ref (A 0)), (3, .ref o), (4, .int (nI i))] := hl
  refine lv_aload_n hx hb dL_law_487 rfl (lv_at hl 1 rfl) ?_
  refine lv_aload_n hx hb dL_law_488 rfl (lv_at hl 0 rfl) ?_
  refine lv_iload hx hb dL_law_489 (lv_at hl 4 rfl) ?_
  refine lv_iconst (v := nI 1) hx hb dL_law_491 (by decide +kernel) ?_
  refine nr_iadd hx hb dL_law_492 ?_
  refine nr_sld (j := i + 1) hx hb hXd hbl hbA hS (by omega) (by omega) dL_law_493 ?_
  refine lv_aload_n hx hb dL_law_494 rfl (lv_at hl 3 rfl) ?_
  refine UC.callSW (As := .ref x :: ([.int (xs (i + 1))] ++ [.ref o])) S hU (vx_cwSW 3 hts gL_law_L_destinations rfl rfl rfl (by decide +kernel) ⟨(by show dd + 1 ≤ 2048; omega), (by show 8 + (4 + 11) + 40 * dd ≤ 84000; omega)⟩) hK eL_bl (fun U hW hU9 => eL.use hE0 hS hW hU9 hFA hFA2) hS hFA2 rfl hl.1 rfl (Nat.le_of_ble_eq_true rfl) dL_law_495 ⟨(by show cells + mc ≤ 601024; omega), (by show slots + ms ≤ 7293034; omega)⟩ (fun v H1 locs hB hS hsz hkp => ?_)
  obtain ⟨rfl, hC1, w1, hO1, hw1⟩ := hB
  have hmd : mdB D Y A th mi ju lo rs H1 := hmd.kept (fun j hj hq => hkp (A j) hq (fun z => z.elim (hFx.2.1 j hj).1 (hFx.2.1 j hj).2.1))
  refine W.widen (k := cells + 40) (n := slots + 120) (by omega) (by omega) ?_
  refine lv_istore (lv' := [(5, .int (nI k)), (0, .ref b), (1, .ref x), (2, .ref (A 0)), (3, .ref o), (4, .int (nI i))]) hx hb dL_law_498 hl (by decide) rfl (fun ls hl => ?_)
  refine lv_aload_n hx hb dL_law_500 rfl (lv_at hl 3 rfl) ?_
  refine lv_aload_n hx hb dL_law_501 rfl (lv_at hl 1 rfl) ?_
  refine lv_iload hx hb dL_law_502 (lv_at hl 5 rfl) ?_
  refine lv_iconst (v := nI 1) hx hb dL_law_504 (by decide +kernel) ?_
  refine nr_iadd hx hb dL_law_505 ?_
  refine nr_sld (j := i + 1) hx hb hXd hbl hbA hS (by omega) (by omega) dL_law_506 ?_
  obtain ⟨f, bf, ca, bg, sz, hf, hPm⟩ := hmd
  refine MuI.callV (r := r) (As := [.int (xs (i + 1))]) S (hM th f bf ca bg sz hf) (cwV 1 hts gL_law_X3_destinations rfl rfl rfl (by decide +kernel) ⟨(by show dm + 1 ≤ 2048; omega), (by show 8 + (2 + 11) + 40 * dm ≤ 84000; omega)⟩) hK hPm (wM_D hFx th _ mi ju lo f bf ca bg sz) hS (va_recv hK.1 hPm (ci := 3) (q0 := 0) rfl rfl) rfl hl.1 rfl (Nat.le_of_ble_eq_true rfl) dL_law_507 ⟨(by show _ ≤ 601024; omega), (by show _ ≤ 7293034; omega)⟩ (fun H2 locs hB2 hS hsz2 hkp2 => ?_)
  have hC2 := hC1.kept (fun q hq hFq => hkp2 q hq (fun z => by obtain ⟨i9, h9, e9⟩ := wM_adr z; exact (hFx.2.1 i9 h9).1 (e9 ▸ hFq)))
  have hO2 := hO1.kept (hkp2 o hO1.lt (fun z => by obtain ⟨i9, h9, e9⟩ := wM_adr z; exact (hFx.2.1 i9 h9).2.1 e9.symm))
  have hFr2 : ∀ q, H2.size ≤ q → F q := fun q hq => hFr q (by omega)
  refine lv_istore (lv' := [(6, .int r), (5, .int (nI k)), (0, .ref b), (1, .ref x), (2, .ref (A 0)), (3, .ref o), (4, .int (nI i))]) hx hb dL_law_510 hl (by decide) rfl (fun ls hl => ?_)
  refine lv_aload_n hx hb dL_law_512 rfl (lv_at hl 4 rfl) ?_
  obtain ⟨f2, bf2, ca2, bg2, sz2, hf2, hP2⟩ := id hB2
  refine Rd.callV (r := nI k) (As := []) S (k_X3_thrown l hP2) (cwV 0 hts gL_law_X3_thrown rfl rfl rfl (by decide +kernel) ⟨Nat.le_of_ble_eq_true rfl, Nat.le_of_ble_eq_true rfl⟩) hK (va_recv hK.1 hP2 (ci := 3) (q0 := 0) rfl rfl) rfl hl.1 rfl (Nat.le_of_ble_eq_true rfl) dL_law_513 ⟨(by show _ ≤ 601024; omega), (by show _ ≤ 7293034; omega)⟩ ?_
  refine lv_iload hx hb dL_law_516 (lv_at hl 1 rfl) ?_
  refine lv_icmp_eq (tgt := 523) hx hb dL_law_518 (by decide) (fun _ => ?_) (fun z => absurd rfl z)
  refine lv_iload hx hb dL_law_523 (lv_at hl 1 rfl) ?_
  refine nr_if_ne (a := k) (tgt := 540) hx hb (by omega) dL_law_525 (by decide) (fun ck => ?_) (fun ck => ?_)
  · refine lv_goto (tgt := 1554) hx hb dL_law_540 (by decide) ?_
    exact hN d0 ju2 mi2 lo2 rs2 H2 locs ls hd0 ⟨hC2, ⟨_, hB2⟩, ⟨_, hO2⟩, hFr2⟩ hS (lv_sub hl [2, 3, 4, 5, 6] rfl)
  · subst ck
    have hw2 := hw rfl
    rw [hw1 rfl, hw2] at hO2
    refine lv_aload_n hx hb dL_law_528 rfl (lv_at hl 5 rfl) ?_
    refine lv_iconst (v := nI 0) hx hb dL_law_529 (by decide +kernel) ?_
    refine nr_lald0 S hK hO2 dL_law_530 ?_
    refine lv_iload hx hb dL_law_531 (lv_at hl 0 rfl) ?_
    refine lv_i2l (v := r.toInt64) hx hb dL_law_533 rfl ?_
    refine W.lcmp hx hb dL_law_534 ?_
    refine lv_if_eq (tgt := 540) hx hb dL_law_535 (by decide) (fun _ => ?_) (fun z => absurd (lg_cmp_self _) z)
    refine lv_goto (tgt := 1554) hx hb dL_law_540 (by decide) ?_
    exact hN d0 ju2 mi2 lo2 rs2 H2 locs ls hd0 ⟨hC2, ⟨_, hB2⟩, ⟨_, hO2⟩, hFr2⟩ hS (lv_sub hl [2, 3, 4, 5, 6] rfl)
set_option maxHeartbeats 4000000 in
set_option maxRecDepth 100000 in
theorem lc_protocols {p : Program} {l : Launch} {e : Env} {s : State} {m : MethodId} {below : List Frame} {meth : Method} {c : Code} {b L : Nat} {xs : Nat → Int32} {D : va_G} {Y : Nat → ClassId} {F : Nat → Prop} {t0 la x na o : Nat} {A : Nat → Nat} (hEn : LEn l p s m meth c b L xs D Y F t0 o A) {i cells slots : Nat} (hi : i + 7 ≤ L) (hc : cells + 40 ≤ 601024) (hs : slots + 120 ≤ 7293034) (hN : LNx p l e s m below meth c b D Y F t0 la x na o A i (cells + 40) (slots + 120)) {d0 : Drawn} (hd0 : s.drawn.sameBut d0 lw_cs) {ju mi lo : Int32} {rs : List RV} {H : Heap} {locs : List Loc} {ls : Array Slot} (hLS : LwS D Y F t0 la x na o A ju mi lo rs H) (hS : va_S (bigA s) s.heap H locs) (hl : lv_has ls 9 (lwL b x (A 0) o i)) : lwW p l e s m below meth c b d0 H locs cells slots (F0 m 543 ls []) := by
  obtain ⟨C0, hK0, hE0, hFx, hlt, hL⟩ := hEn
  obtain ⟨hx, hb, hr, hml, hown, hts0, hXs, hbl, hlocks, hgv⟩ := id C0
  have hts : ∀ w ∈ wsL_law, w.before #[Value.ref b] (s.setDrawn d0) = true := dr_words (fun w h => hts0 w (wsL_law_in w h)) d0
  have S : CallFix p m c cL_law 9 (s.setDrawn d0) #[Value.ref b] wsL_law RL := ⟨hx, hb, hml, hown, hts⟩
  have hK := hK0.drawn d0
  have hXd : va_X b L xs (s.setDrawn d0) s.heap := va_X.moved (u := s) (U := s.setDrawn d0) (Vm.Alike.refl s.vm) hXs
  have hbA : ¬ bigA s b := Nat.not_le.mpr hbl
  obtain ⟨hC, ⟨th, hmd⟩, ⟨w0, hO⟩, hFr⟩ := hLS
  have hFA : ∀ q, F q → bigA s q := hFx.2.2.2.1
  have hFA2 : ∀ q, (F q ∨ q = o) → bigA s q := fun q h => h.elim (hFA q) (fun z => by rw [z]; exact hFx.2.2.2.2)
  obtain ⟨k, r, w, rs2, ju2, mi2, lo2, dd, mc, ms, dm, hbd, hU, hM, hw⟩ := sp_protocols l hlt (D := D) (Y := Y) (F := F) (t0 := t0) (la := la) (x := x) (na := na) (o := o) (A := A) (xs (i + 1)) ju mi lo rs H w0 hC hFr hFx.1 hO
  have hl : lv_has ls 9 [(0, .ref b), (1, .ref x), (2, .ref (A 0)), (3, .ref o), (4, .int (nI i))] := hl
  refine lv_aload_n hx hb dL_law_543 rfl (lv_at hl 1 rfl) ?_
  refine lv_aload_n hx hb dL_law_544 rfl (lv_at hl 0 rfl) ?_
  refine lv_iload hx hb dL_law_545 (lv_at hl 4 rfl) ?_
  refine lv_iconst (v := nI 1) hx hb dL_law_547 (by decide +kernel) ?_
  refine nr_iadd hx hb dL_law_548 ?_
  refine nr_sld (j := i + 1) hx hb hXd hbl hbA hS (by omega) (by omega) dL_law_549 ?_
  refine lv_aload_n hx hb dL_law_550 rfl (lv_at hl 3 rfl) ?_
  refine UC.callSW (As := .ref x :: ([.int (xs (i + 1))] ++ [.ref o])) S hU (vx_cwSW 3 hts gL_law_L_protocols rfl rfl rfl (by decide +kernel) ⟨(by show dd + 1 ≤ 2048; omega), (by show 8 + (4 + 11) + 40 * dd ≤ 84000; omega)⟩) hK eL_bl (fun U hW hU9 => eL.use hE0 hS hW hU9 hFA hFA2) hS hFA2 rfl hl.1 rfl (Nat.le_of_ble_eq_true rfl) dL_law_551 ⟨(by show cells + mc ≤ 601024; omega), (by show slots + ms ≤ 7293034; omega)⟩ (fun v H1 locs hB hS hsz hkp => ?_)
  obtain ⟨rfl, hC1, w1, hO1, hw1⟩ := hB
  have hmd : mdB D Y A th mi ju lo rs H1 := hmd.kept (fun j hj hq => hkp (A j) hq (fun z => z.elim (hFx.2.1 j hj).1 (hFx.2.1 j hj).2.1))
  refine W.widen (k := cells + 40) (n := slots + 120) (by omega) (by omega) ?_
  refine lv_istore (lv' := [(5, .int (nI k)), (0, .ref b), (1, .ref x), (2, .ref (A 0)), (3, .ref o), (4, .int (nI i))]) hx hb dL_law_554 hl (by decide) rfl (fun ls hl => ?_)
  refine lv_aload_n hx hb dL_law_556 rfl (lv_at hl 3 rfl) ?_
  refine lv_aload_n hx hb dL_law_557 rfl (lv_at hl 1 rfl) ?_
  refine lv_iload hx hb dL_law_558 (lv_at hl 5 rfl) ?_
  refine lv_iconst (v := nI 1) hx hb dL_law_560 (by decide +kernel) ?_
  refine nr_iadd hx hb dL_law_561 ?_
  refine nr_sld (j := i + 1) hx hb hXd hbl hbA hS (by omega) (by omega) dL_law_562 ?_
  obtain ⟨f, bf, ca, bg, sz, hf, hPm⟩ := hmd
  refine MuI.callV (r := r) (As := [.int (xs (i + 1))]) S (hM th f bf ca bg sz hf) (cwV 1 hts gL_law_X3_protocols rfl rfl rfl (by decide +kernel) ⟨(by show dm + 1 ≤ 2048; omega), (by show 8 + (2 + 11) + 40 * dm ≤ 84000; omega)⟩) hK hPm (wM_D hFx th _ mi ju lo f bf ca bg sz) hS (va_recv hK.1 hPm (ci := 3) (q0 := 0) rfl rfl) rfl hl.1 rfl (Nat.le_of_ble_eq_true rfl) dL_law_563 ⟨(by show _ ≤ 601024; omega), (by show _ ≤ 7293034; omega)⟩ (fun H2 locs hB2 hS hsz2 hkp2 => ?_)
  have hC2 := hC1.kept (fun q hq hFq => hkp2 q hq (fun z => by obtain ⟨i9, h9, e9⟩ := wM_adr z; exact (hFx.2.1 i9 h9).1 (e9 ▸ hFq)))
  have hO2 := hO1.kept (hkp2 o hO1.lt (fun z => by obtain ⟨i9, h9, e9⟩ := wM_adr z; exact (hFx.2.1 i9 h9).2.1 e9.symm))
  have hFr2 : ∀ q, H2.size ≤ q → F q := fun q hq => hFr q (by omega)
  refine lv_istore (lv' := [(6, .int r), (5, .int (nI k)), (0, .ref b), (1, .ref x), (2, .ref (A 0)), (3, .ref o), (4, .int (nI i))]) hx hb dL_law_566 hl (by decide) rfl (fun ls hl => ?_)
  refine lv_aload_n hx hb dL_law_568 rfl (lv_at hl 4 rfl) ?_
  obtain ⟨f2, bf2, ca2, bg2, sz2, hf2, hP2⟩ := id hB2
  refine Rd.callV (r := nI k) (As := []) S (k_X3_thrown l hP2) (cwV 0 hts gL_law_X3_thrown rfl rfl rfl (by decide +kernel) ⟨Nat.le_of_ble_eq_true rfl, Nat.le_of_ble_eq_true rfl⟩) hK (va_recv hK.1 hP2 (ci := 3) (q0 := 0) rfl rfl) rfl hl.1 rfl (Nat.le_of_ble_eq_true rfl) dL_law_569 ⟨(by show _ ≤ 601024; omega), (by show _ ≤ 7293034; omega)⟩ ?_
  refine lv_iload hx hb dL_law_572 (lv_at hl 1 rfl) ?_
  refine lv_icmp_eq (tgt := 579) hx hb dL_law_574 (by decide) (fun _ => ?_) (fun z => absurd rfl z)
  refine lv_iload hx hb dL_law_579 (lv_at hl 1 rfl) ?_
  refine nr_if_ne (a := k) (tgt := 596) hx hb (by omega) dL_law_581 (by decide) (fun ck => ?_) (fun ck => ?_)
  · refine lv_goto (tgt := 1554) hx hb dL_law_596 (by decide) ?_
    exact hN d0 ju2 mi2 lo2 rs2 H2 locs ls hd0 ⟨hC2, ⟨_, hB2⟩, ⟨_, hO2⟩, hFr2⟩ hS (lv_sub hl [2, 3, 4, 5, 6] rfl)
  · subst ck
    have hw2 := hw rfl
    rw [hw1 rfl, hw2] at hO2
    refine lv_aload_n hx hb dL_law_584 rfl (lv_at hl 5 rfl) ?_
    refine lv_iconst (v := nI 0) hx hb dL_law_585 (by decide +kernel) ?_
    refine nr_lald0 S hK hO2 dL_law_586 ?_
    refine lv_iload hx hb dL_law_587 (lv_at hl 0 rfl) ?_
    refine lv_i2l (v := r.toInt64) hx hb dL_law_589 rfl ?_
    refine W.lcmp hx hb dL_law_590 ?_
    refine lv_if_eq (tgt := 596) hx hb dL_law_591 (by decide) (fun _ => ?_) (fun z => absurd (lg_cmp_self _) z)
    refine lv_goto (tgt := 1554) hx hb dL_law_596 (by decide) ?_
    exact hN d0 ju2 mi2 lo2 rs2 H2 locs ls hd0 ⟨hC2, ⟨_, hB2⟩, ⟨_, hO2⟩, hFr2⟩ hS (lv_sub hl [2, 3, 4, 5, 6] rfl)
set_option maxHeartbeats 4000000 in
set_option maxRecDepth 100000 in
theorem lc_permits {p : Program} {l : Launch} {e : Env} {s : State} {m : MethodId} {below : List Frame} {meth : Method} {c : Code} {b L : Nat} {xs : Nat → Int32} {D : va_G} {Y : Nat → ClassId} {F : Nat → Prop} {t0 la x na o : Nat} {A : Nat → Nat} (hEn : LEn l p s m meth c b L xs D Y F t0 o A) {i cells slots : Nat} (hi : i + 7 ≤ L) (hc : cells + 40 ≤ 601024) (hs : slots + 120 ≤ 7293034) (hN : LNx p l e s m below meth c b D Y F t0 la x na o A i (cells + 40) (slots + 120)) {d0 : Drawn} (hd0 : s.drawn.sameBut d0 lw_cs) {ju mi lo : Int32} {rs : List RV} {H : Heap} {locs : List Loc} {ls : Array Slot} (hLS : LwS D Y F t0 la x na o A ju mi lo rs H) (hS : va_S (bigA s) s.heap H locs) (hl : lv_has ls 9 (lwL b x (A 0) o i)) : lwW p l e s m below meth c b d0 H locs cells slots (F0 m 599 ls []) := by
  obtain ⟨C0, hK0, hE0, hFx, hlt, hL⟩ := hEn
  obtain ⟨hx, hb, hr, hml, hown, hts0, hXs, hbl, hlocks, hgv⟩ := id C0
  have hts : ∀ w ∈ wsL_law, w.before #[Value.ref b] (s.setDrawn d0) = true := dr_words (fun w h => hts0 w (wsL_law_in w h)) d0
  have S : CallFix p m c cL_law 9 (s.setDrawn d0) #[Value.ref b] wsL_law RL := ⟨hx, hb, hml, hown, hts⟩
  have hK := hK0.drawn d0
  have hXd : va_X b L xs (s.setDrawn d0) s.heap := va_X.moved (u := s) (U := s.setDrawn d0) (Vm.Alike.refl s.vm) hXs
  have hbA : ¬ bigA s b := Nat.not_le.mpr hbl
  obtain ⟨hC, ⟨th, hmd⟩, ⟨w0, hO⟩, hFr⟩ := hLS
  have hFA : ∀ q, F q → bigA s q := hFx.2.2.2.1
  have hFA2 : ∀ q, (F q ∨ q = o) → bigA s q := fun q h => h.elim (hFA q) (fun z => by rw [z]; exact hFx.2.2.2.2)
  obtain ⟨k, r, w, rs2, ju2, mi2, lo2, dd, mc, ms, dm, hbd, hU, hM, hw⟩ := sp_permits l hlt (D := D) (Y := Y) (F := F) (t0 := t0) (la := la) (x := x) (na := na) (o := o) (A := A) (xs (i + 1)) ju mi lo rs H w0 hC hFr hFx.1 hO
  have hl : lv_has ls 9 [(0, .ref b), (1, .ref x), (2, .ref (A 0)), (3, .ref o), (4, .int (nI i))] := hl
  refine lv_aload_n hx hb dL_law_599 rfl (lv_at hl 1 rfl) ?_
  refine lv_aload_n hx hb dL_law_600 rfl (lv_at hl 0 rfl) ?_
  refine lv_iload hx hb dL_law_601 (lv_at hl 4 rfl) ?_
  refine lv_iconst (v := nI 1) hx hb dL_law_603 (by decide +kernel) ?_
  refine nr_iadd hx hb dL_law_604 ?_
  refine nr_sld (j := i + 1) hx hb hXd hbl hbA hS (by omega) (by omega) dL_law_605 ?_
  refine lv_aload_n hx hb dL_law_606 rfl (lv_at hl 3 rfl) ?_
  refine UC.callSW (As := .ref x :: ([.int (xs (i + 1))] ++ [.ref o])) S hU (vx_cwSW 3 hts gL_law_L_permits rfl rfl rfl (by decide +kernel) ⟨(by show dd + 1 ≤ 2048; omega), (by show 8 + (4 + 11) + 40 * dd ≤ 84000; omega)⟩) hK eL_bl (fun U hW hU9 => eL.use hE0 hS hW hU9 hFA hFA2) hS hFA2 rfl hl.1 rfl (Nat.le_of_ble_eq_true rfl) dL_law_607 ⟨(by show cells + mc ≤ 601024; omega), (by show slots + ms ≤ 7293034; omega)⟩ (fun v H1 locs hB hS hsz hkp => ?_)
  obtain ⟨rfl, hC1, w1, hO1, hw1⟩ := hB
  have hmd : mdB D Y A th mi ju lo rs H1 := hmd.kept (fun j hj hq => hkp (A j) hq (fun z => z.elim (hFx.2.1 j hj).1 (hFx.2.1 j hj).2.1))
  refine W.widen (k := cells + 40) (n := slots + 120) (by omega) (by omega) ?_
  refine lv_istore (lv' := [(5, .int (nI k)), (0, .ref b), (1, .ref x), (2, .ref (A 0)), (3, .ref o), (4, .int (nI i))]) hx hb dL_law_610 hl (by decide) rfl (fun ls hl => ?_)
  refine lv_aload_n hx hb dL_law_612 rfl (lv_at hl 3 rfl) ?_
  refine lv_aload_n hx hb dL_law_613 rfl (lv_at hl 1 rfl) ?_
  refine lv_iload hx hb dL_law_614 (lv_at hl 5 rfl) ?_
  refine lv_iconst (v := nI 1) hx hb dL_law_616 (by decide +kernel) ?_
  refine nr_iadd hx hb dL_law_617 ?_
  refine nr_sld (j := i + 1) hx hb hXd hbl hbA hS (by omega) (by omega) dL_law_618 ?_
  obtain ⟨f, bf, ca, bg, sz, hf, hPm⟩ := hmd
  refine MuI.callV (r := r) (As := [.int (xs (i + 1))]) S (hM th f bf ca bg sz hf) (cwV 1 hts gL_law_X3_permits rfl rfl rfl (by decide +kernel) ⟨(by show dm + 1 ≤ 2048; omega), (by show 8 + (2 + 11) + 40 * dm ≤ 84000; omega)⟩) hK hPm (wM_D hFx th _ mi ju lo f bf ca bg sz) hS (va_recv hK.1 hPm (ci := 3) (q0 := 0) rfl rfl) rfl hl.1 rfl (Nat.le_of_ble_eq_true rfl) dL_law_619 ⟨(by show _ ≤ 601024; omega), (by show _ ≤ 7293034; omega)⟩ (fun H2 locs hB2 hS hsz2 hkp2 => ?_)
  have hC2 := hC1.kept (fun q hq hFq => hkp2 q hq (fun z => by obtain ⟨i9, h9, e9⟩ := wM_adr z; exact (hFx.2.1 i9 h9).1 (e9 ▸ hFq)))
  have hO2 := hO1.kept (hkp2 o hO1.lt (fun z => by obtain ⟨i9, h9, e9⟩ := wM_adr z; exact (hFx.2.1 i9 h9).2.1 e9.symm))
  have hFr2 : ∀ q, H2.size ≤ q → F q := fun q hq => hFr q (by omega)
  refine lv_istore (lv' := [(6, .int r), (5, .int (nI k)), (0, .ref b), (1, .ref x), (2, .ref (A 0)), (3, .ref o), (4, .int (nI i))]) hx hb dL_law_622 hl (by decide) rfl (fun ls hl => ?_)
  refine lv_aload_n hx hb dL_law_624 rfl (lv_at hl 4 rfl) ?_
  obtain ⟨f2, bf2, ca2, bg2, sz2, hf2, hP2⟩ := id hB2
  refine Rd.callV (r := nI k) (As := []) S (k_X3_thrown l hP2) (cwV 0 hts gL_law_X3_thrown rfl rfl rfl (by decide +kernel) ⟨Nat.le_of_ble_eq_true rfl, Nat.le_of_ble_eq_true rfl⟩) hK (va_recv hK.1 hP2 (ci := 3) (q0 := 0) rfl rfl) rfl hl.1 rfl (Nat.le_of_ble_eq_true rfl) dL_law_625 ⟨(by show _ ≤ 601024; omega), (by show _ ≤ 7293034; omega)⟩ ?_
  refine lv_iload hx hb dL_law_628 (lv_at hl 1 rfl) ?_
  refine lv_icmp_eq (tgt := 635) hx hb dL_law_630 (by decide) (fun _ => ?_) (fun z => absurd rfl z)
  refine lv_iload hx hb dL_law_635 (lv_at hl 1 rfl) ?_
  refine nr_if_ne (a := k) (tgt := 659) hx hb (by omega) dL_law_637 (by decide) (fun ck => ?_) (fun ck => ?_)
  · refine lv_goto (tgt := 1554) hx hb dL_law_659 (by decide) ?_
    exact hN d0 ju2 mi2 lo2 rs2 H2 locs ls hd0 ⟨hC2, ⟨_, hB2⟩, ⟨_, hO2⟩, hFr2⟩ hS (lv_sub hl [2, 3, 4, 5, 6] rfl)
  · subst ck
    have hw2 := hw rfl
    rw [hw1 rfl, hw2] at hO2
    refine lv_aload_n hx hb dL_law_640 rfl (lv_at hl 5 rfl) ?_
    refine lv_iconst (v := nI 0) hx hb dL_law_641 (by decide +kernel) ?_
    refine nr_lald0 S hK hO2 dL_law_642 ?_
    refine lv_iload hx hb dL_law_643 (lv_at hl 0 rfl) ?_
    refine lv_if_eq (tgt := 652) hx hb dL_law_645 (by decide) (fun cz => ?_) (fun cz => ?_)
    · refine lv_lconst (v := 0) hx hb dL_law_652 (by decide +kernel) ?_
      refine W.lcmp hx hb dL_law_653 ?_
      refine lv_if_eq (tgt := 659) hx hb dL_law_654 (by decide) (fun _ => ?_) (fun z => absurd (by rw [if_pos rfl, if_pos cz]; exact lg_cmp_self _) z)
      refine lv_goto (tgt := 1554) hx hb dL_law_659 (by decide) ?_
      exact hN d0 ju2 mi2 lo2 rs2 H2 locs ls hd0 ⟨hC2, ⟨_, hB2⟩, ⟨_, hO2⟩, hFr2⟩ hS (lv_sub hl [2, 3, 4, 5, 6] rfl)
    · refine lv_lconst (v := 1) hx hb dL_law_648 (by decide +kernel) ?_
      refine lv_goto (tgt := 653) hx hb dL_law_649 (by decide) ?_
      refine W.lcmp hx hb dL_law_653 ?_
      refine lv_if_eq (tgt := 659) hx hb dL_law_654 (by decide) (fun _ => ?_) (fun z => absurd (by rw [if_pos rfl, if_neg cz]; exact lg_cmp_self _) z)
      refine lv_goto (tgt := 1554) hx hb dL_law_659 (by decide) ?_
      exact hN d0 ju2 mi2 lo2 rs2 H2 locs ls hd0 ⟨hC2, ⟨_, hB2⟩, ⟨_, hO2⟩, hFr2⟩ hS (lv_sub hl [2, 3, 4, 5, 6] rfl)
set_option maxHeartbeats 4000000 in
set_option maxRecDepth 100000 in
theorem lc_judge {p : Program} {l : Launch} {e : Env} {s : State} {m : MethodId} {below : List Frame} {meth : Method} {c : Code} {b L : Nat} {xs : Nat → Int32} {D : va_G} {Y : Nat → ClassId} {F : Nat → Prop} {t0 la x na o : Nat} {A : Nat → Nat} (hEn : LEn l p s m meth c b L xs D Y F t0 o A) {i cells slots : Nat} (hi : i + 7 ≤ L) (hc : cells + 40 ≤ 601024) (hs : slots + 120 ≤ 7293034) (hN : LNx p l e s m below meth c b D Y F t0 la x na o A i (cells + 40) (slots + 120)) {d0 : Drawn} (hd0 : s.drawn.sameBut d0 lw_cs) {ju mi lo : Int32} {rs : List RV} {H : Heap} {locs : List Loc} {ls : Array Slot} (hLS : LwS D Y F t0 la x na o A ju mi lo rs H) (hS : va_S (bigA s) s.heap H locs) (hl : lv_has ls 9 (lwL b x (A 0) o i)) : lwW p l e s m below meth c b d0 H locs cells slots (F0 m 662 ls []) := by
  obtain ⟨C0, hK0, hE0, hFx, hlt, hL⟩ := hEn
  obtain ⟨hx, hb, hr, hml, hown, hts0, hXs, hbl, hlocks, hgv⟩ := id C0
  have hts : ∀ w ∈ wsL_law, w.before #[Value.ref b] (s.setDrawn d0) = true := dr_words (fun w h => hts0 w (wsL_law_in w h)) d0
  have S : CallFix p m c cL_law 9 (s.setDrawn d0) #[Value.ref b] wsL_law RL := ⟨hx, hb, hml, hown, hts⟩
  have hK := hK0.drawn d0
  have hXd : va_X b L xs (s.setDrawn d0) s.heap := va_X.moved (u := s) (U := s.setDrawn d0) (Vm.Alike.refl s.vm) hXs
  have hbA : ¬ bigA s b := Nat.not_le.mpr hbl
  obtain ⟨hC, ⟨th, hmd⟩, ⟨w0, hO⟩, hFr⟩ := hLS
  have hFA : ∀ q, F q → bigA s q := hFx.2.2.2.1
  have hFA2 : ∀ q, (F q ∨ q = o) → bigA s q := fun q h => h.elim (hFA q) (fun z => by rw [z]; exact hFx.2.2.2.2)
  obtain ⟨k, r, w, rs2, ju2, mi2, lo2, dd, mc, ms, dm, hbd, hU, hM, hw⟩ := sp_judge l hlt (D := D) (Y := Y) (F := F) (t0 := t0) (la := la) (x := x) (na := na) (o := o) (A := A) (xs (i + 1)) (xs (i + 2)) (xs (i + 3)) ju mi lo rs H w0 hC hFr hFx.1 hO
  have hl : lv_has ls 9 [(0, .ref b), (1, .ref x), (2, .ref (A 0)), (3, .ref o), (4, .int (nI i))] := hl
  refine lv_aload_n hx hb dL_law_662 rfl (lv_at hl 1 rfl) ?_
  refine lv_aload_n hx hb dL_law_663 rfl (lv_at hl 0 rfl) ?_
  refine lv_iload hx hb dL_law_664 (lv_at hl 4 rfl) ?_
  refine lv_iconst (v := nI 1) hx hb dL_law_666 (by decide +kernel) ?_
  refine nr_iadd hx hb dL_law_667 ?_
  refine nr_sld (j := i + 1) hx hb hXd hbl hbA hS (by omega) (by omega) dL_law_668 ?_
  refine lv_aload_n hx hb dL_law_669 rfl (lv_at hl 0 rfl) ?_
  refine lv_iload hx hb dL_law_670 (lv_at hl 4 rfl) ?_
  refine lv_iconst (v := nI 2) hx hb dL_law_672 (by decide +kernel) ?_
  refine nr_iadd hx hb dL_law_673 ?_
  refine nr_sld (j := i + 2) hx hb hXd hbl hbA hS (by omega) (by omega) dL_law_674 ?_
  refine lv_aload_n hx hb dL_law_675 rfl (lv_at hl 0 rfl) ?_
  refine lv_iload hx hb dL_law_676 (lv_at hl 4 rfl) ?_
  refine lv_iconst (v := nI 3) hx hb dL_law_678 (by decide +kernel) ?_
  refine nr_iadd hx hb dL_law_679 ?_
  refine nr_sld (j := i + 3) hx hb hXd hbl hbA hS (by omega) (by omega) dL_law_680 ?_
  refine lv_aload_n hx hb dL_law_681 rfl (lv_at hl 3 rfl) ?_
  refine UC.callSW (As := .ref x :: ([.int (xs (i + 1)), .int (xs (i + 2)), .int (xs (i + 3))] ++ [.ref o])) S hU (vx_cwSW 5 hts gL_law_L_judge rfl rfl rfl (by decide +kernel) ⟨(by show dd + 1 ≤ 2048; omega), (by show 8 + (6 + 11) + 40 * dd ≤ 84000; omega)⟩) hK eL_bl (fun U hW hU9 => eL.use hE0 hS hW hU9 hFA hFA2) hS hFA2 rfl hl.1 rfl (Nat.le_of_ble_eq_true rfl) dL_law_682 ⟨(by show cells + mc ≤ 601024; omega), (by show slots + ms ≤ 7293034; omega)⟩ (fun v H1 locs hB hS hsz hkp => ?_)
  obtain ⟨rfl, hC1, w1, hO1, hw1⟩ := hB
  have hmd : mdB D Y A th mi ju lo rs H1 := hmd.kept (fun j hj hq => hkp (A j) hq (fun z => z.elim (hFx.2.1 j hj).1 (hFx.2.1 j hj).2.1))
  refine W.widen (k := cells + 40) (n := slots + 120) (by omega) (by omega) ?_
  refine lv_istore (lv' := [(5, .int (nI k)), (0, .ref b), (1, .ref x), (2, .ref (A 0)), (3, .ref o), (4, .int (nI i))]) hx hb dL_law_685 hl (by decide) rfl (fun ls hl => ?_)
  refine lv_aload_n hx hb dL_law_687 rfl (lv_at hl 3 rfl) ?_
  refine lv_aload_n hx hb dL_law_688 rfl (lv_at hl 1 rfl) ?_
  refine lv_iload hx hb dL_law_689 (lv_at hl 5 rfl) ?_
  refine lv_iconst (v := nI 1) hx hb dL_law_691 (by decide +kernel) ?_
  refine nr_iadd hx hb dL_law_692 ?_
  refine nr_sld (j := i + 1) hx hb hXd hbl hbA hS (by omega) (by omega) dL_law_693 ?_
  refine lv_aload_n hx hb dL_law_694 rfl (lv_at hl 1 rfl) ?_
  refine lv_iload hx hb dL_law_695 (lv_at hl 5 rfl) ?_
  refine lv_iconst (v := nI 2) hx hb dL_law_697 (by decide +kernel) ?_
  refine nr_iadd hx hb dL_law_698 ?_
  refine nr_sld (j := i + 2) hx hb hXd hbl hbA hS (by omega) (by omega) dL_law_699 ?_
  refine lv_aload_n hx hb dL_law_700 rfl (lv_at hl 1 rfl) ?_
  refine lv_iload hx hb dL_law_701 (lv_at hl 5 rfl) ?_
  refine lv_iconst (v := nI 3) hx hb dL_law_703 (by decide +kernel) ?_
  refine nr_iadd hx hb dL_law_704 ?_
  refine nr_sld (j := i + 3) hx hb hXd hbl hbA hS (by omega) (by omega) dL_law_705 ?_
  obtain ⟨f, bf, ca, bg, sz, hf, hPm⟩ := hmd
  refine MuI.callV (r := r) (As := [.int (xs (i + 1)), .int (xs (i + 2)), .int (xs (i + 3))]) S (hM th f bf ca bg sz hf) (cwV 3 hts gL_law_X3_judge rfl rfl rfl (by decide +kernel) ⟨(by show dm + 1 ≤ 2048; omega), (by show 8 + (5 + 11) + 40 * dm ≤ 84000; omega)⟩) hK hPm (wM_D hFx th _ mi ju lo f bf ca bg sz) hS (va_recv hK.1 hPm (ci := 3) (q0 := 0) rfl rfl) rfl hl.1 rfl (Nat.le_of_ble_eq_true rfl) dL_law_706 ⟨(by show _ ≤ 601024; omega), (by show _ ≤ 7293034; omega)⟩ (fun H2 locs hB2 hS hsz2 hkp2 => ?_)
  have hC2 := hC1.kept (fun q hq hFq => hkp2 q hq (fun z => by obtain ⟨i9, h9, e9⟩ := wM_adr z; exact (hFx.2.1 i9 h9).1 (e9 ▸ hFq)))
  have hO2 := hO1.kept (hkp2 o hO1.lt (fun z => by obtain ⟨i9, h9, e9⟩ := wM_adr z; exact (hFx.2.1 i9 h9).2.1 e9.symm))
  have hFr2 : ∀ q, H2.size ≤ q → F q := fun q hq => hFr q (by omega)
  refine lv_istore (lv' := [(6, .int r), (5, .int (nI k)), (0, .ref b), (1, .ref x), (2, .ref (A 0)), (3, .ref o), (4, .int (nI i))]) hx hb dL_law_709 hl (by decide) rfl (fun ls hl => ?_)
  refine lv_aload_n hx hb dL_law_711 rfl (lv_at hl 4 rfl) ?_
  obtain ⟨f2, bf2, ca2, bg2, sz2, hf2, hP2⟩ := id hB2
  refine Rd.callV (r := nI k) (As := []) S (k_X3_thrown l hP2) (cwV 0 hts gL_law_X3_thrown rfl rfl rfl (by decide +kernel) ⟨Nat.le_of_ble_eq_true rfl, Nat.le_of_ble_eq_true rfl⟩) hK (va_recv hK.1 hP2 (ci := 3) (q0 := 0) rfl rfl) rfl hl.1 rfl (Nat.le_of_ble_eq_true rfl) dL_law_712 ⟨(by show _ ≤ 601024; omega), (by show _ ≤ 7293034; omega)⟩ ?_
  refine lv_iload hx hb dL_law_715 (lv_at hl 1 rfl) ?_
  refine lv_icmp_eq (tgt := 722) hx hb dL_law_717 (by decide) (fun _ => ?_) (fun z => absurd rfl z)
  refine lv_iload hx hb dL_law_722 (lv_at hl 1 rfl) ?_
  refine nr_if_ne (a := k) (tgt := 746) hx hb (by omega) dL_law_724 (by decide) (fun ck => ?_) (fun ck => ?_)
  · refine lv_goto (tgt := 1554) hx hb dL_law_746 (by decide) ?_
    exact hN d0 ju2 mi2 lo2 rs2 H2 locs ls hd0 ⟨hC2, ⟨_, hB2⟩, ⟨_, hO2⟩, hFr2⟩ hS (lv_sub hl [2, 3, 4, 5, 6] rfl)
  · subst ck
    have hw2 := hw rfl
    rw [hw1 rfl, hw2] at hO2
    refine lv_aload_n hx hb dL_law_727 rfl (lv_at hl 5 rfl) ?_
    refine lv_iconst (v := nI 0) hx hb dL_law_728 (by decide +kernel) ?_
    refine nr_lald0 S hK hO2 dL_law_729 ?_
    refine lv_iload hx hb dL_law_730 (lv_at hl 0 rfl) ?_
    refine lv_if_eq (tgt := 739) hx hb dL_law_732 (by decide) (fun cz => ?_) (fun cz => ?_)
    · refine lv_lconst (v := 0) hx hb dL_law_739 (by decide +kernel) ?_
      refine W.lcmp hx hb dL_law_740 ?_
      refine lv_if_eq (tgt := 746) hx hb dL_law_741 (by decide) (fun _ => ?_) (fun z => absurd (by rw [if_pos rfl, if_pos cz]; exact lg_cmp_self _) z)
      refine lv_goto (tgt := 1554) hx hb dL_law_746 (by decide) ?_
      exact hN d0 ju2 mi2 lo2 rs2 H2 locs ls hd0 ⟨hC2, ⟨_, hB2⟩, ⟨_, hO2⟩, hFr2⟩ hS (lv_sub hl [2, 3, 4, 5, 6] rfl)
    · refine lv_lconst (v := 1) hx hb dL_law_735 (by decide +kernel) ?_
      refine lv_goto (tgt := 740) hx hb dL_law_736 (by decide) ?_
      refine W.lcmp hx hb dL_law_740 ?_
      refine lv_if_eq (tgt := 746) hx hb dL_law_741 (by decide) (fun _ => ?_) (fun z => absurd (by rw [if_pos rfl, if_neg cz]; exact lg_cmp_self _) z)
      refine lv_goto (tgt := 1554) hx hb dL_law_746 (by decide) ?_
      exact hN d0 ju2 mi2 lo2 rs2 H2 locs ls hd0 ⟨hC2, ⟨_, hB2⟩, ⟨_, hO2⟩, hFr2⟩ hS (lv_sub hl [2, 3, 4, 5, 6] rfl)
set_option maxHeartbeats 4000000 in
set_option maxRecDepth 100000 in
theorem lc_decider {p : Program} {l : Launch} {e : Env} {s : State} {m : MethodId} {below : List Frame} {meth : Method} {c : Code} {b L : Nat} {xs : Nat → Int32} {D : va_G} {Y : Nat → ClassId} {F : Nat → Prop} {t0 la x na o : Nat} {A : Nat → Nat} (hEn : LEn l p s m meth c b L xs D Y F t0 o A) {i cells slots : Nat} (hi : i + 7 ≤ L) (hc : cells + 40 ≤ 601024) (hs : slots + 120 ≤ 7293034) (hN : LNx p l e s m below meth c b D Y F t0 la x na o A i (cells + 40) (slots + 120)) {d0 : Drawn} (hd0 : s.drawn.sameBut d0 lw_cs) {ju mi lo : Int32} {rs : List RV} {H : Heap} {locs : List Loc} {ls : Array Slot} (hLS : LwS D Y F t0 la x na o A ju mi lo rs H) (hS : va_S (bigA s) s.heap H locs) (hl : lv_has ls 9 (lwL b x (A 0) o i)) : lwW p l e s m below meth c b d0 H locs cells slots (F0 m 749 ls []) := by
  obtain ⟨C0, hK0, hE0, hFx, hlt, hL⟩ := hEn
  obtain ⟨hx, hb, hr, hml, hown, hts0, hXs, hbl, hlocks, hgv⟩ := id C0
  have hts : ∀ w ∈ wsL_law, w.before #[Value.ref b] (s.setDrawn d0) = true := dr_words (fun w h => hts0 w (wsL_law_in w h)) d0
  have S : CallFix p m c cL_law 9 (s.setDrawn d0) #[Value.ref b] wsL_law RL := ⟨hx, hb, hml, hown, hts⟩
  have hK := hK0.drawn d0
  have hXd : va_X b L xs (s.setDrawn d0) s.heap := va_X.moved (u := s) (U := s.setDrawn d0) (Vm.Alike.refl s.vm) hXs
  have hbA : ¬ bigA s b := Nat.not_le.mpr hbl
  obtain ⟨hC, ⟨th, hmd⟩, ⟨w0, hO⟩, hFr⟩ := hLS
  have hFA : ∀ q, F q → bigA s q := hFx.2.2.2.1
  have hFA2 : ∀ q, (F q ∨ q = o) → bigA s q := fun q h => h.elim (hFA q) (fun z => by rw [z]; exact hFx.2.2.2.2)
  obtain ⟨k, r, w, rs2, ju2, mi2, lo2, dd, mc, ms, dm, hbd, hU, hM, hw⟩ := sp_decider l hlt (D := D) (Y := Y) (F := F) (t0 := t0) (la := la) (x := x) (na := na) (o := o) (A := A) (xs (i + 1)) (xs (i + 2)) (xs (i + 3)) ju mi lo rs H w0 hC hFr hFx.1 hO
  have hl : lv_has ls 9 [(0, .ref b), (1, .ref x), (2, .ref (A 0)), (3, .ref o), (4, .int (nI i))] := hl
  refine lv_aload_n hx hb dL_law_749 rfl (lv_at hl 1 rfl) ?_
  refine lv_aload_n hx hb dL_law_750 rfl (lv_at hl 0 rfl) ?_
  refine lv_iload hx hb dL_law_751 (lv_at hl 4 rfl) ?_
  refine lv_iconst (v := nI 1) hx hb dL_law_753 (by decide +kernel) ?_
  refine nr_iadd hx hb dL_law_754 ?_
  refine nr_sld (j := i + 1) hx hb hXd hbl hbA hS (by omega) (by omega) dL_law_755 ?_
  refine lv_aload_n hx hb dL_law_756 rfl (lv_at hl 0 rfl) ?_
  refine lv_iload hx hb dL_law_757 (lv_at hl 4 rfl) ?_
  refine lv_iconst (v := nI 2) hx hb dL_law_759 (by decide +kernel) ?_
  refine nr_iadd hx hb dL_law_760 ?_
  refine nr_sld (j := i + 2) hx hb hXd hbl hbA hS (by omega) (by omega) dL_law_761 ?_
  refine lv_aload_n hx hb dL_law_762 rfl (lv_at hl 0 rfl) ?_
  refine lv_iload hx hb dL_law_763 (lv_at hl 4 rfl) ?_
  refine lv_iconst (v := nI 3) hx hb dL_law_765 (by decide +kernel) ?_
  refine nr_iadd hx hb dL_law_766 ?_
  refine nr_sld (j := i + 3) hx hb hXd hbl hbA hS (by omega) (by omega) dL_law_767 ?_
  refine lv_aload_n hx hb dL_law_768 rfl (lv_at hl 3 rfl) ?_
  refine UC.callSW (As := .ref x :: ([.int (xs (i + 1)), .int (xs (i + 2)), .int (xs (i + 3))] ++ [.ref o])) S hU (vx_cwSW 5 hts gL_law_L_decider rfl rfl rfl (by decide +kernel) ⟨(by show dd + 1 ≤ 2048; omega), (by show 8 + (6 + 11) + 40 * dd ≤ 84000; omega)⟩) hK eL_bl (fun U hW hU9 => eL.use hE0 hS hW hU9 hFA hFA2) hS hFA2 rfl hl.1 rfl (Nat.le_of_ble_eq_true rfl) dL_law_769 ⟨(by show cells + mc ≤ 601024; omega), (by show slots + ms ≤ 7293034; omega)⟩ (fun v H1 locs hB hS hsz hkp => ?_)
  obtain ⟨rfl, hC1, w1, hO1, hw1⟩ := hB
  have hmd : mdB D Y A th mi ju lo rs H1 := hmd.kept (fun j hj hq => hkp (A j) hq (fun z => z.elim (hFx.2.1 j hj).1 (hFx.2.1 j hj).2.1))
  refine W.widen (k := cells + 40) (n := slots + 120) (by omega) (by omega) ?_
  refine lv_istore (lv' := [(5, .int (nI k)), (0, .ref b), (1, .ref x), (2, .ref (A 0)), (3, .ref o), (4, .int (nI i))]) hx hb dL_law_772 hl (by decide) rfl (fun ls hl => ?_)
  refine lv_aload_n hx hb dL_law_774 rfl (lv_at hl 3 rfl) ?_
  refine lv_aload_n hx hb dL_law_775 rfl (lv_at hl 1 rfl) ?_
  refine lv_iload hx hb dL_law_776 (lv_at hl 5 rfl) ?_
  refine lv_iconst (v := nI 1) hx hb dL_law_778 (by decide +kernel) ?_
  refine nr_iadd hx hb dL_law_779 ?_
  refine nr_sld (j := i + 1) hx hb hXd hbl hbA hS (by omega) (by omega) dL_law_780 ?_
  refine lv_aload_n hx hb dL_law_781 rfl (lv_at hl 1 rfl) ?_
  refine lv_iload hx hb dL_law_782 (lv_at hl 5 rfl) ?_
  refine lv_iconst (v := nI 2) hx hb dL_law_784 (by decide +kernel) ?_
  refine nr_iadd hx hb dL_law_785 ?_
  refine nr_sld (j := i + 2) hx hb hXd hbl hbA hS (by omega) (by omega) dL_law_786 ?_
  refine lv_aload_n hx hb dL_law_787 rfl (lv_at hl 1 rfl) ?_
  refine lv_iload hx hb dL_law_788 (lv_at hl 5 rfl) ?_
  refine lv_iconst (v := nI 3) hx hb dL_law_790 (by decide +kernel) ?_
  refine nr_iadd hx hb dL_law_791 ?_
  refine nr_sld (j := i + 3) hx hb hXd hbl hbA hS (by omega) (by omega) dL_law_792 ?_
  obtain ⟨f, bf, ca, bg, sz, hf, hPm⟩ := hmd
  refine MuI.callV (r := r) (As := [.int (xs (i + 1)), .int (xs (i + 2)), .int (xs (i + 3))]) S (hM th f bf ca bg sz hf) (cwV 3 hts gL_law_X3_decider rfl rfl rfl (by decide +kernel) ⟨(by show dm + 1 ≤ 2048; omega), (by show 8 + (6 + 11) + 40 * dm ≤ 84000; omega)⟩) hK hPm (wM_D hFx th _ mi ju lo f bf ca bg sz) hS (va_recv hK.1 hPm (ci := 3) (q0 := 0) rfl rfl) rfl hl.1 rfl (Nat.le_of_ble_eq_true rfl) dL_law_793 ⟨(by show _ ≤ 601024; omega), (by show _ ≤ 7293034; omega)⟩ (fun H2 locs hB2 hS hsz2 hkp2 => ?_)
  have hC2 := hC1.kept (fun q hq hFq => hkp2 q hq (fun z => by obtain ⟨i9, h9, e9⟩ := wM_adr z; exact (hFx.2.1 i9 h9).1 (e9 ▸ hFq)))
  have hO2 := hO1.kept (hkp2 o hO1.lt (fun z => by obtain ⟨i9, h9, e9⟩ := wM_adr z; exact (hFx.2.1 i9 h9).2.1 e9.symm))
  have hFr2 : ∀ q, H2.size ≤ q → F q := fun q hq => hFr q (by omega)
  refine lv_istore (lv' := [(6, .int r), (5, .int (nI k)), (0, .ref b), (1, .ref x), (2, .ref (A 0)), (3, .ref o), (4, .int (nI i))]) hx hb dL_law_796 hl (by decide) rfl (fun ls hl => ?_)
  refine lv_aload_n hx hb dL_law_798 rfl (lv_at hl 4 rfl) ?_
  obtain ⟨f2, bf2, ca2, bg2, sz2, hf2, hP2⟩ := id hB2
  refine Rd.callV (r := nI k) (As := []) S (k_X3_thrown l hP2) (cwV 0 hts gL_law_X3_thrown rfl rfl rfl (by decide +kernel) ⟨Nat.le_of_ble_eq_true rfl, Nat.le_of_ble_eq_true rfl⟩) hK (va_recv hK.1 hP2 (ci := 3) (q0 := 0) rfl rfl) rfl hl.1 rfl (Nat.le_of_ble_eq_true rfl) dL_law_799 ⟨(by show _ ≤ 601024; omega), (by show _ ≤ 7293034; omega)⟩ ?_
  refine lv_iload hx hb dL_law_802 (lv_at hl 1 rfl) ?_
  refine lv_icmp_eq (tgt := 809) hx hb dL_law_804 (by decide) (fun _ => ?_) (fun z => absurd rfl z)
  refine lv_iload hx hb dL_law_809 (lv_at hl 1 rfl) ?_
  refine nr_if_ne (a := k) (tgt := 826) hx hb (by omega) dL_law_811 (by decide) (fun ck => ?_) (fun ck => ?_)
  · refine lv_goto (tgt := 1554) hx hb dL_law_826 (by decide) ?_
    exact hN d0 ju2 mi2 lo2 rs2 H2 locs ls hd0 ⟨hC2, ⟨_, hB2⟩, ⟨_, hO2⟩, hFr2⟩ hS (lv_sub hl [2, 3, 4, 5, 6] rfl)
  · subst ck
    have hw2 := hw rfl
    rw [hw1 rfl, hw2] at hO2
    refine lv_aload_n hx hb dL_law_814 rfl (lv_at hl 5 rfl) ?_
    refine lv_iconst (v := nI 0) hx hb dL_law_815 (by decide +kernel) ?_
    refine nr_lald0 S hK hO2 dL_law_816 ?_
    refine lv_iload hx hb dL_law_817 (lv_at hl 0 rfl) ?_
    refine lv_i2l (v := r.toInt64) hx hb dL_law_819 rfl ?_
    refine W.lcmp hx hb dL_law_820 ?_
    refine lv_if_eq (tgt := 826) hx hb dL_law_821 (by decide) (fun _ => ?_) (fun z => absurd (lg_cmp_self _) z)
    refine lv_goto (tgt := 1554) hx hb dL_law_826 (by decide) ?_
    exact hN d0 ju2 mi2 lo2 rs2 H2 locs ls hd0 ⟨hC2, ⟨_, hB2⟩, ⟨_, hO2⟩, hFr2⟩ hS (lv_sub hl [2, 3, 4, 5, 6] rfl)
set_option maxHeartbeats 4000000 in
set_option maxRecDepth 100000 in
theorem lc_hits {p : Program} {l : Launch} {e : Env} {s : State} {m : MethodId} {below : List Frame} {meth : Method} {c : Code} {b L : Nat} {xs : Nat → Int32} {D : va_G} {Y : Nat → ClassId} {F : Nat → Prop} {t0 la x na o : Nat} {A : Nat → Nat} (hEn : LEn l p s m meth c b L xs D Y F t0 o A) {i cells slots : Nat} (hi : i + 7 ≤ L) (hc : cells + 40 ≤ 601024) (hs : slots + 120 ≤ 7293034) (hN : LNx p l e s m below meth c b D Y F t0 la x na o A i (cells + 40) (slots + 120)) {d0 : Drawn} (hd0 : s.drawn.sameBut d0 lw_cs) {ju mi lo : Int32} {rs : List RV} {H : Heap} {locs : List Loc} {ls : Array Slot} (hLS : LwS D Y F t0 la x na o A ju mi lo rs H) (hS : va_S (bigA s) s.heap H locs) (hl : lv_has ls 9 (lwL b x (A 0) o i)) : lwW p l e s m below meth c b d0 H locs cells slots (F0 m 829 ls []) := by
  obtain ⟨C0, hK0, hE0, hFx, hlt, hL⟩ := hEn
  obtain ⟨hx, hb, hr, hml, hown, hts0, hXs, hbl, hlocks, hgv⟩ := id C0
  have hts : ∀ w ∈ wsL_law, w.before #[Value.ref b] (s.setDrawn d0) = true := dr_words (fun w h => hts0 w (wsL_law_in w h)) d0
  have S : CallFix p m c cL_law 9 (s.setDrawn d0) #[Value.ref b] wsL_law RL := ⟨hx, hb, hml, hown, hts⟩
  have hK := hK0.drawn d0
  have hXd : va_X b L xs (s.setDrawn d0) s.heap := va_X.moved (u := s) (U := s.setDrawn d0) (Vm.Alike.refl s.vm) hXs
  have hbA : ¬ bigA s b := Nat.not_le.mpr hbl
  obtain ⟨hC, ⟨th, hmd⟩, ⟨w0, hO⟩, hFr⟩ := hLS
  have hFA : ∀ q, F q → bigA s q := hFx.2.2.2.1
  have hFA2 : ∀ q, (F q ∨ q = o) → bigA s q := fun q h => h.elim (hFA q) (fun z => by rw [z]; exact hFx.2.2.2.2)
  obtain ⟨k, r, w, rs2, ju2, mi2, lo2, dd, mc, ms, dm, hbd, hU, hM, hw⟩ := sp_hits l hlt (D := D) (Y := Y) (F := F) (t0 := t0) (la := la) (x := x) (na := na) (o := o) (A := A) (xs (i + 1)) ju mi lo rs H w0 hC hFr hFx.1 hO
  have hl : lv_has ls 9 [(0, .ref b), (1, .ref x), (2, .ref (A 0)), (3, .ref o), (4, .int (nI i))] := hl
  refine lv_aload_n hx hb dL_law_829 rfl (lv_at hl 1 rfl) ?_
  refine lv_aload_n hx hb dL_law_830 rfl (lv_at hl 0 rfl) ?_
  refine lv_iload hx hb dL_law_831 (lv_at hl 4 rfl) ?_
  refine lv_iconst (v := nI 1) hx hb dL_law_833 (by decide +kernel) ?_
  refine nr_iadd hx hb dL_law_834 ?_
  refine nr_sld (j := i + 1) hx hb hXd hbl hbA hS (by omega) (by omega) dL_law_835 ?_
  refine lv_aload_n hx hb dL_law_836 rfl (lv_at hl 3 rfl) ?_
  refine UC.callSW (As := .ref x :: ([.int (xs (i + 1))] ++ [.ref o])) S hU (vx_cwSW 3 hts gL_law_L_hits rfl rfl rfl (by decide +kernel) ⟨(by show dd + 1 ≤ 2048; omega), (by show 8 + (4 + 11) + 40 * dd ≤ 84000; omega)⟩) hK eL_bl (fun U hW hU9 => eL.use hE0 hS hW hU9 hFA hFA2) hS hFA2 rfl hl.1 rfl (Nat.le_of_ble_eq_true rfl) dL_law_837 ⟨(by show cells + mc ≤ 601024; omega), (by show slots + ms ≤ 7293034; omega)⟩ (fun v H1 locs hB hS hsz hkp => ?_)
  obtain ⟨rfl, hC1, w1, hO1, hw1⟩ := hB
  have hmd : mdB D Y A th mi ju lo rs H1 := hmd.kept (fun j hj hq => hkp (A j) hq (fun z => z.elim (hFx.2.1 j hj).1 (hFx.2.1 j hj).2.1))
  refine W.widen (k := cells + 40) (n := slots + 120) (by omega) (by omega) ?_
  refine lv_istore (lv' := [(5, .int (nI k)), (0, .ref b), (1, .ref x), (2, .ref (A 0)), (3, .ref o), (4, .int (nI i))]) hx hb dL_law_840 hl (by decide) rfl (fun ls hl => ?_)
  refine lv_aload_n hx hb dL_law_842 rfl (lv_at hl 3 rfl) ?_
  refine lv_aload_n hx hb dL_law_843 rfl (lv_at hl 1 rfl) ?_
  refine lv_iload hx hb dL_law_844 (lv_at hl 5 rfl) ?_
  refine lv_iconst (v := nI 1) hx hb dL_law_846 (by decide +kernel) ?_
  refine nr_iadd hx hb dL_law_847 ?_
  refine nr_sld (j := i + 1) hx hb hXd hbl hbA hS (by omega) (by omega) dL_law_848 ?_
  obtain ⟨f, bf, ca, bg, sz, hf, hPm⟩ := hmd
  refine MuI.callV (r := r) (As := [.int (xs (i + 1))]) S (hM th f bf ca bg sz hf) (cwV 1 hts gL_law_X3_hits rfl rfl rfl (by decide +kernel) ⟨(by show dm + 1 ≤ 2048; omega), (by show 8 + (2 + 11) + 40 * dm ≤ 84000; omega)⟩) hK hPm (wM_D hFx th _ mi ju lo f bf ca bg sz) hS (va_recv hK.1 hPm (ci := 3) (q0 := 0) rfl rfl) rfl hl.1 rfl (Nat.le_of_ble_eq_true rfl) dL_law_849 ⟨(by show _ ≤ 601024; omega), (by show _ ≤ 7293034; omega)⟩ (fun H2 locs hB2 hS hsz2 hkp2 => ?_)
  have hC2 := hC1.kept (fun q hq hFq => hkp2 q hq (fun z => by obtain ⟨i9, h9, e9⟩ := wM_adr z; exact (hFx.2.1 i9 h9).1 (e9 ▸ hFq)))
  have hO2 := hO1.kept (hkp2 o hO1.lt (fun z => by obtain ⟨i9, h9, e9⟩ := wM_adr z; exact (hFx.2.1 i9 h9).2.1 e9.symm))
  have hFr2 : ∀ q, H2.size ≤ q → F q := fun q hq => hFr q (by omega)
  refine lv_istore (lv' := [(6, .int r), (5, .int (nI k)), (0, .ref b), (1, .ref x), (2, .ref (A 0)), (3, .ref o), (4, .int (nI i))]) hx hb dL_law_852 hl (by decide) rfl (fun ls hl => ?_)
  refine lv_aload_n hx hb dL_law_854 rfl (lv_at hl 4 rfl) ?_
  obtain ⟨f2, bf2, ca2, bg2, sz2, hf2, hP2⟩ := id hB2
  refine Rd.callV (r := nI k) (As := []) S (k_X3_thrown l hP2) (cwV 0 hts gL_law_X3_thrown rfl rfl rfl (by decide +kernel) ⟨Nat.le_of_ble_eq_true rfl, Nat.le_of_ble_eq_true rfl⟩) hK (va_recv hK.1 hP2 (ci := 3) (q0 := 0) rfl rfl) rfl hl.1 rfl (Nat.le_of_ble_eq_true rfl) dL_law_855 ⟨(by show _ ≤ 601024; omega), (by show _ ≤ 7293034; omega)⟩ ?_
  refine lv_iload hx hb dL_law_858 (lv_at hl 1 rfl) ?_
  refine lv_icmp_eq (tgt := 865) hx hb dL_law_860 (by decide) (fun _ => ?_) (fun z => absurd rfl z)
  refine lv_iload hx hb dL_law_865 (lv_at hl 1 rfl) ?_
  refine nr_if_ne (a := k) (tgt := 882) hx hb (by omega) dL_law_867 (by decide) (fun ck => ?_) (fun ck => ?_)
  · refine lv_goto (tgt := 1554) hx hb dL_law_882 (by decide) ?_
    exact hN d0 ju2 mi2 lo2 rs2 H2 locs ls hd0 ⟨hC2, ⟨_, hB2⟩, ⟨_, hO2⟩, hFr2⟩ hS (lv_sub hl [2, 3, 4, 5, 6] rfl)
  · subst ck
    have hw2 := hw rfl
    rw [hw1 rfl, hw2] at hO2
    refine lv_aload_n hx hb dL_law_870 rfl (lv_at hl 5 rfl) ?_
    refine lv_iconst (v := nI 0) hx hb dL_law_871 (by decide +kernel) ?_
    refine nr_lald0 S hK hO2 dL_law_872 ?_
    refine lv_iload hx hb dL_law_873 (lv_at hl 0 rfl) ?_
    refine lv_i2l (v := r.toInt64) hx hb dL_law_875 rfl ?_
    refine W.lcmp hx hb dL_law_876 ?_
    refine lv_if_eq (tgt := 882) hx hb dL_law_877 (by decide) (fun _ => ?_) (fun z => absurd (lg_cmp_self _) z)
    refine lv_goto (tgt := 1554) hx hb dL_law_882 (by decide) ?_
    exact hN d0 ju2 mi2 lo2 rs2 H2 locs ls hd0 ⟨hC2, ⟨_, hB2⟩, ⟨_, hO2⟩, hFr2⟩ hS (lv_sub hl [2, 3, 4, 5, 6] rfl)
set_option maxHeartbeats 4000000 in
set_option maxRecDepth 100000 in
theorem lc_decides {p : Program} {l : Launch} {e : Env} {s : State} {m : MethodId} {below : List Frame} {meth : Method} {c : Code} {b L : Nat} {xs : Nat → Int32} {D : va_G} {Y : Nat → ClassId} {F : Nat → Prop} {t0 la x na o : Nat} {A : Nat → Nat} (hEn : LEn l p s m meth c b L xs D Y F t0 o A) {i cells slots : Nat} (hi : i + 7 ≤ L) (hc : cells + 40 ≤ 601024) (hs : slots + 120 ≤ 7293034) (hN : LNx p l e s m below meth c b D Y F t0 la x na o A i (cells + 40) (slots + 120)) {d0 : Drawn} (hd0 : s.drawn.sameBut d0 lw_cs) {ju mi lo : Int32} {rs : List RV} {H : Heap} {locs : List Loc} {ls : Array Slot} (hLS : LwS D Y F t0 la x na o A ju mi lo rs H) (hS : va_S (bigA s) s.heap H locs) (hl : lv_has ls 9 (lwL b x (A 0) o i)) : lwW p l e s m below meth c b d0 H locs cells slots (F0 m 941 ls []) := by
  obtain ⟨C0, hK0, hE0, hFx, hlt, hL⟩ := hEn
  obtain ⟨hx, hb, hr, hml, hown, hts0, hXs, hbl, hlocks, hgv⟩ := id C0
  have hts : ∀ w ∈ wsL_law, w.before #[Value.ref b] (s.setDrawn d0) = true := dr_words (fun w h => hts0 w (wsL_law_in w h)) d0
  have S : CallFix p m c cL_law 9 (s.setDrawn d0) #[Value.ref b] wsL_law RL := ⟨hx, hb, hml, hown, hts⟩
  have hK := hK0.drawn d0
  have hXd : va_X b L xs (s.setDrawn d0) s.heap := va_X.moved (u := s) (U := s.setDrawn d0) (Vm.Alike.refl s.vm) hXs
  have hbA : ¬ bigA s b := Nat.not_le.mpr hbl
  obtain ⟨hC, ⟨th, hmd⟩, ⟨w0, hO⟩, hFr⟩ := hLS
  have hFA : ∀ q, F q → bigA s q := hFx.2.2.2.1
  have hFA2 : ∀ q, (F q ∨ q = o) → bigA s q := fun q h => h.elim (hFA q) (fun z => by rw [z]; exact hFx.2.2.2.2)
  obtain ⟨k, r, w, rs2, ju2, mi2, lo2, dd, mc, ms, dm, hbd, hU, hM, hw⟩ := sp_decides l hlt (D := D) (Y := Y) (F := F) (t0 := t0) (la := la) (x := x) (na := na) (o := o) (A := A) (xs (i + 1)) ju mi lo rs H w0 hC hFr hFx.1 hO
  have hl : lv_has ls 9 [(0, .ref b), (1, .ref x), (2, .ref (A 0)), (3, .ref o), (4, .int (nI i))] := hl
  refine lv_aload_n hx hb dL_law_941 rfl (lv_at hl 1 rfl) ?_
  refine lv_aload_n hx hb dL_law_942 rfl (lv_at hl 0 rfl) ?_
  refine lv_iload hx hb dL_law_943 (lv_at hl 4 rfl) ?_
  refine lv_iconst (v := nI 1) hx hb dL_law_945 (by decide +kernel) ?_
  refine nr_iadd hx hb dL_law_946 ?_
  refine nr_sld (j := i + 1) hx hb hXd hbl hbA hS (by omega) (by omega) dL_law_947 ?_
  refine lv_aload_n hx hb dL_law_948 rfl (lv_at hl 3 rfl) ?_
  refine UC.callSW (As := .ref x :: ([.int (xs (i + 1))] ++ [.ref o])) S hU (vx_cwSW 3 hts gL_law_L_decides rfl rfl rfl (by decide +kernel) ⟨(by show dd + 1 ≤ 2048; omega), (by show 8 + (4 + 11) + 40 * dd ≤ 84000; omega)⟩) hK eL_bl (fun U hW hU9 => eL.use hE0 hS hW hU9 hFA hFA2) hS hFA2 rfl hl.1 rfl (Nat.le_of_ble_eq_true rfl) dL_law_949 ⟨(by show cells + mc ≤ 601024; omega), (by show slots + ms ≤ 7293034; omega)⟩ (fun v H1 locs hB hS hsz hkp => ?_)
  obtain ⟨rfl, hC1, w1, hO1, hw1⟩ := hB
  have hmd : mdB D Y A th mi ju lo rs H1 := hmd.kept (fun j hj hq => hkp (A j) hq (fun z => z.elim (hFx.2.1 j hj).1 (hFx.2.1 j hj).2.1))
  refine W.widen (k := cells + 40) (n := slots + 120) (by omega) (by omega) ?_
  refine lv_istore (lv' := [(5, .int (nI k)), (0, .ref b), (1, .ref x), (2, .ref (A 0)), (3, .ref o), (4, .int (nI i))]) hx hb dL_law_952 hl (by decide) rfl (fun ls hl => ?_)
  refine lv_aload_n hx hb dL_law_954 rfl (lv_at hl 3 rfl) ?_
  refine lv_aload_n hx hb dL_law_955 rfl (lv_at hl 1 rfl) ?_
  refine lv_iload hx hb dL_law_956 (lv_at hl 5 rfl) ?_
  refine lv_iconst (v := nI 1) hx hb dL_law_958 (by decide +kernel) ?_
  refine nr_iadd hx hb dL_law_959 ?_
  refine nr_sld (j := i + 1) hx hb hXd hbl hbA hS (by omega) (by omega) dL_law_960 ?_
  obtain ⟨f, bf, ca, bg, sz, hf, hPm⟩ := hmd
  refine MuI.callV (r := r) (As := [.int (xs (i + 1))]) S (hM th f bf ca bg sz hf) (cwV 1 hts gL_law_X3_decides rfl rfl rfl (by decide +kernel) ⟨(by show dm + 1 ≤ 2048; omega), (by show 8 + (2 + 11) + 40 * dm ≤ 84000; omega)⟩) hK hPm (wM_D hFx th _ mi ju lo f bf ca bg sz) hS (va_recv hK.1 hPm (ci := 3) (q0 := 0) rfl rfl) rfl hl.1 rfl (Nat.le_of_ble_eq_true rfl) dL_law_961 ⟨(by show _ ≤ 601024; omega), (by show _ ≤ 7293034; omega)⟩ (fun H2 locs hB2 hS hsz2 hkp2 => ?_)
  have hC2 := hC1.kept (fun q hq hFq => hkp2 q hq (fun z => by obtain ⟨i9, h9, e9⟩ := wM_adr z; exact (hFx.2.1 i9 h9).1 (e9 ▸ hFq)))
  have hO2 := hO1.kept (hkp2 o hO1.lt (fun z => by obtain ⟨i9, h9, e9⟩ := wM_adr z; exact (hFx.2.1 i9 h9).2.1 e9.symm))
  have hFr2 : ∀ q, H2.size ≤ q → F q := fun q hq => hFr q (by omega)
  refine lv_istore (lv' := [(6, .int r), (5, .int (nI k)), (0, .ref b), (1, .ref x), (2, .ref (A 0)), (3, .ref o), (4, .int (nI i))]) hx hb dL_law_964 hl (by decide) rfl (fun ls hl => ?_)
  refine lv_aload_n hx hb dL_law_966 rfl (lv_at hl 4 rfl) ?_
  obtain ⟨f2, bf2, ca2, bg2, sz2, hf2, hP2⟩ := id hB2
  refine Rd.callV (r := nI k) (As := []) S (k_X3_thrown l hP2) (cwV 0 hts gL_law_X3_thrown rfl rfl rfl (by decide +kernel) ⟨Nat.le_of_ble_eq_true rfl, Nat.le_of_ble_eq_true rfl⟩) hK (va_recv hK.1 hP2 (ci := 3) (q0 := 0) rfl rfl) rfl hl.1 rfl (Nat.le_of_ble_eq_true rfl) dL_law_967 ⟨(by show _ ≤ 601024; omega), (by show _ ≤ 7293034; omega)⟩ ?_
  refine lv_iload hx hb dL_law_970 (lv_at hl 1 rfl) ?_
  refine lv_icmp_eq (tgt := 977) hx hb dL_law_972 (by decide) (fun _ => ?_) (fun z => absurd rfl z)
  refine lv_iload hx hb dL_law_977 (lv_at hl 1 rfl) ?_
  refine nr_if_ne (a := k) (tgt := 994) hx hb (by omega) dL_law_979 (by decide) (fun ck => ?_) (fun ck => ?_)
  · refine lv_goto (tgt := 1554) hx hb dL_law_994 (by decide) ?_
    exact hN d0 ju2 mi2 lo2 rs2 H2 locs ls hd0 ⟨hC2, ⟨_, hB2⟩, ⟨_, hO2⟩, hFr2⟩ hS (lv_sub hl [2, 3, 4, 5, 6] rfl)
  · subst ck
    have hw2 := hw rfl
    rw [hw1 rfl, hw2] at hO2
    refine lv_aload_n hx hb dL_law_982 rfl (lv_at hl 5 rfl) ?_
    refine lv_iconst (v := nI 0) hx hb dL_law_983 (by decide +kernel) ?_
    refine nr_lald0 S hK hO2 dL_law_984 ?_
    refine lv_iload hx hb dL_law_985 (lv_at hl 0 rfl) ?_
    refine lv_i2l (v := r.toInt64) hx hb dL_law_987 rfl ?_
    refine W.lcmp hx hb dL_law_988 ?_
    refine lv_if_eq (tgt := 994) hx hb dL_law_989 (by decide) (fun _ => ?_) (fun z => absurd (lg_cmp_self _) z)
    refine lv_goto (tgt := 1554) hx hb dL_law_994 (by decide) ?_
    exact hN d0 ju2 mi2 lo2 rs2 H2 locs ls hd0 ⟨hC2, ⟨_, hB2⟩, ⟨_, hO2⟩, hFr2⟩ hS (lv_sub hl [2, 3, 4, 5, 6] rfl)
set_option maxHeartbeats 4000000 in
set_option maxRecDepth 100000 in
theorem lc_overlap {p : Program} {l : Launch} {e : Env} {s : State} {m : MethodId} {below : List Frame} {meth : Method} {c : Code} {b L : Nat} {xs : Nat → Int32} {D : va_G} {Y : Nat → ClassId} {F : Nat → Prop} {t0 la x na o : Nat} {A : Nat → Nat} (hEn : LEn l p s m meth c b L xs D Y F t0 o A) {i cells slots : Nat} (hi : i + 7 ≤ L) (hc : cells + 40 ≤ 601024) (hs : slots + 120 ≤ 7293034) (hN : LNx p l e s m below meth c b D Y F t0 la x na o A i (cells + 40) (slots + 120)) {d0 : Drawn} (hd0 : s.drawn.sameBut d0 lw_cs) {ju mi lo : Int32} {rs : List RV} {H : Heap} {locs : List Loc} {ls : Array Slot} (hLS : LwS D Y F t0 la x na o A ju mi lo rs H) (hS : va_S (bigA s) s.heap H locs) (hl : lv_has ls 9 (lwL b x (A 0) o i)) : lwW p l e s m below meth c b d0 H locs cells slots (F0 m 997 ls []) := by
  obtain ⟨C0, hK0, hE0, hFx, hlt, hL⟩ := hEn
  obtain ⟨hx, hb, hr, hml, hown, hts0, hXs, hbl, hlocks, hgv⟩ := id C0
  have hts : ∀ w ∈ wsL_law, w.before #[Value.ref b] (s.setDrawn d0) = true := dr_words (fun w h => hts0 w (wsL_law_in w h)) d0
  have S : CallFix p m c cL_law 9 (s.setDrawn d0) #[Value.ref b] wsL_law RL := ⟨hx, hb, hml, hown, hts⟩
  have hK := hK0.drawn d0
  have hXd : va_X b L xs (s.setDrawn d0) s.heap := va_X.moved (u := s) (U := s.setDrawn d0) (Vm.Alike.refl s.vm) hXs
  have hbA : ¬ bigA s b := Nat.not_le.mpr hbl
  obtain ⟨hC, ⟨th, hmd⟩, ⟨w0, hO⟩, hFr⟩ := hLS
  have hFA : ∀ q, F q → bigA s q := hFx.2.2.2.1
  have hFA2 : ∀ q, (F q ∨ q = o) → bigA s q := fun q h => h.elim (hFA q) (fun z => by rw [z]; exact hFx.2.2.2.2)
  obtain ⟨k, r, w, rs2, ju2, mi2, lo2, dd, mc, ms, dm, hbd, hU, hM, hw⟩ := sp_overlap l hlt (D := D) (Y := Y) (F := F) (t0 := t0) (la := la) (x := x) (na := na) (o := o) (A := A) (xs (i + 1)) (xs (i + 2)) ju mi lo rs H w0 hC hFr hFx.1 hO
  have hl : lv_has ls 9 [(0, .ref b), (1, .ref x), (2, .ref (A 0)), (3, .ref o), (4, .int (nI i))] := hl
  refine lv_aload_n hx hb dL_law_997 rfl (lv_at hl 1 rfl) ?_
  refine lv_aload_n hx hb dL_law_998 rfl (lv_at hl 0 rfl) ?_
  refine lv_iload hx hb dL_law_999 (lv_at hl 4 rfl) ?_
  refine lv_iconst (v := nI 1) hx hb dL_law_1001 (by decide +kernel) ?_
  refine nr_iadd hx hb dL_law_1002 ?_
  refine nr_sld (j := i + 1) hx hb hXd hbl hbA hS (by omega) (by omega) dL_law_1003 ?_
  refine lv_aload_n hx hb dL_law_1004 rfl (lv_at hl 0 rfl) ?_
  refine lv_iload hx hb dL_law_1005 (lv_at hl 4 rfl) ?_
  refine lv_iconst (v := nI 2) hx hb dL_law_1007 (by decide +kernel) ?_
  refine nr_iadd hx hb dL_law_1008 ?_
  refine nr_sld (j := i + 2) hx hb hXd hbl hbA hS (by omega) (by omega) dL_law_1009 ?_
  refine lv_aload_n hx hb dL_law_1010 rfl (lv_at hl 3 rfl) ?_
  refine UC.callSW (As := .ref x :: ([.int (xs (i + 1)), .int (xs (i + 2))] ++ [.ref o])) S hU (vx_cwSW 4 hts gL_law_L_overlap rfl rfl rfl (by decide +kernel) ⟨(by show dd + 1 ≤ 2048; omega), (by show 8 + (5 + 11) + 40 * dd ≤ 84000; omega)⟩) hK eL_bl (fun U hW hU9 => eL.use hE0 hS hW hU9 hFA hFA2) hS hFA2 rfl hl.1 rfl (Nat.le_of_ble_eq_true rfl) dL_law_1011 ⟨(by show cells + mc ≤ 601024; omega), (by show slots + ms ≤ 7293034; omega)⟩ (fun v H1 locs hB hS hsz hkp => ?_)
  obtain ⟨rfl, hC1, w1, hO1, hw1⟩ := hB
  have hmd : mdB D Y A th mi ju lo rs H1 := hmd.kept (fun j hj hq => hkp (A j) hq (fun z => z.elim (hFx.2.1 j hj).1 (hFx.2.1 j hj).2.1))
  refine W.widen (k := cells + 40) (n := slots + 120) (by omega) (by omega) ?_
  refine lv_istore (lv' := [(5, .int (nI k)), (0, .ref b), (1, .ref x), (2, .ref (A 0)), (3, .ref o), (4, .int (nI i))]) hx hb dL_law_1014 hl (by decide) rfl (fun ls hl => ?_)
  refine lv_aload_n hx hb dL_law_1016 rfl (lv_at hl 3 rfl) ?_
  refine lv_aload_n hx hb dL_law_1017 rfl (lv_at hl 1 rfl) ?_
  refine lv_iload hx hb dL_law_1018 (lv_at hl 5 rfl) ?_
  refine lv_iconst (v := nI 1) hx hb dL_law_1020 (by decide +kernel) ?_
  refine nr_iadd hx hb dL_law_1021 ?_
  refine nr_sld (j := i + 1) hx hb hXd hbl hbA hS (by omega) (by omega) dL_law_1022 ?_
  refine lv_aload_n hx hb dL_law_1023 rfl (lv_at hl 1 rfl) ?_
  refine lv_iload hx hb dL_law_1024 (lv_at hl 5 rfl) ?_
  refine lv_iconst (v := nI 2) hx hb dL_law_1026 (by decide +kernel) ?_
  refine nr_iadd hx hb dL_law_1027 ?_
  refine nr_sld (j := i + 2) hx hb hXd hbl hbA hS (by omega) (by omega) dL_law_1028 ?_
  obtain ⟨f, bf, ca, bg, sz, hf, hPm⟩ := hmd
  refine MuI.callV (r := r) (As := [.int (xs (i + 1)), .int (xs (i + 2))]) S (hM th f bf ca bg sz hf) (cwV 2 hts gL_law_X3_overlap rfl rfl rfl (by decide +kernel) ⟨(by show dm + 1 ≤ 2048; omega), (by show 8 + (3 + 11) + 40 * dm ≤ 84000; omega)⟩) hK hPm (wM_D hFx th _ mi ju lo f bf ca bg sz) hS (va_recv hK.1 hPm (ci := 3) (q0 := 0) rfl rfl) rfl hl.1 rfl (Nat.le_of_ble_eq_true rfl) dL_law_1029 ⟨(by show _ ≤ 601024; omega), (by show _ ≤ 7293034; omega)⟩ (fun H2 locs hB2 hS hsz2 hkp2 => ?_)
  have hC2 := hC1.kept (fun q hq hFq => hkp2 q hq (fun z => by obtain ⟨i9, h9, e9⟩ := wM_adr z; exact (hFx.2.1 i9 h9).1 (e9 ▸ hFq)))
  have hO2 := hO1.kept (hkp2 o hO1.lt (fun z => by obtain ⟨i9, h9, e9⟩ := wM_adr z; exact (hFx.2.1 i9 h9).2.1 e9.symm))
  have hFr2 : ∀ q, H2.size ≤ q → F q := fun q hq => hFr q (by omega)
  refine lv_istore (lv' := [(6, .int r), (5, .int (nI k)), (0, .ref b), (1, .ref x), (2, .ref (A 0)), (3, .ref o), (4, .int (nI i))]) hx hb dL_law_1032 hl (by decide) rfl (fun ls hl => ?_)
  refine lv_aload_n hx hb dL_law_1034 rfl (lv_at hl 4 rfl) ?_
  obtain ⟨f2, bf2, ca2, bg2, sz2, hf2, hP2⟩ := id hB2
  refine Rd.callV (r := nI k) (As := []) S (k_X3_thrown l hP2) (cwV 0 hts gL_law_X3_thrown rfl rfl rfl (by decide +kernel) ⟨Nat.le_of_ble_eq_true rfl, Nat.le_of_ble_eq_true rfl⟩) hK (va_recv hK.1 hP2 (ci := 3) (q0 := 0) rfl rfl) rfl hl.1 rfl (Nat.le_of_ble_eq_true rfl) dL_law_1035 ⟨(by show _ ≤ 601024; omega), (by show _ ≤ 7293034; omega)⟩ ?_
  refine lv_iload hx hb dL_law_1038 (lv_at hl 1 rfl) ?_
  refine lv_icmp_eq (tgt := 1045) hx hb dL_law_1040 (by decide) (fun _ => ?_) (fun z => absurd rfl z)
  refine lv_iload hx hb dL_law_1045 (lv_at hl 1 rfl) ?_
  refine nr_if_ne (a := k) (tgt := 1062) hx hb (by omega) dL_law_1047 (by decide) (fun ck => ?_) (fun ck => ?_)
  · refine lv_goto (tgt := 1554) hx hb dL_law_1062 (by decide) ?_
    exact hN d0 ju2 mi2 lo2 rs2 H2 locs ls hd0 ⟨hC2, ⟨_, hB2⟩, ⟨_, hO2⟩, hFr2⟩ hS (lv_sub hl [2, 3, 4, 5, 6] rfl)
  · subst ck
    have hw2 := hw rfl
    rw [hw1 rfl, hw2] at hO2
    refine lv_aload_n hx hb dL_law_1050 rfl (lv_at hl 5 rfl) ?_
    refine lv_iconst (v := nI 0) hx hb dL_law_1051 (by decide +kernel) ?_
    refine nr_lald0 S hK hO2 dL_law_1052 ?_
    refine lv_iload hx hb dL_law_1053 (lv_at hl 0 rfl) ?_
    refine lv_i2l (v := r.toInt64) hx hb dL_law_1055 rfl ?_
    refine W.lcmp hx hb dL_law_1056 ?_
    refine lv_if_eq (tgt := 1062) hx hb dL_law_1057 (by decide) (fun _ => ?_) (fun z => absurd (lg_cmp_self _) z)
    refine lv_goto (tgt := 1554) hx hb dL_law_1062 (by decide) ?_
    exact hN d0 ju2 mi2 lo2 rs2 H2 locs ls hd0 ⟨hC2, ⟨_, hB2⟩, ⟨_, hO2⟩, hFr2⟩ hS (lv_sub hl [2, 3, 4, 5, 6] rfl)
set_option maxHeartbeats 4000000 in
set_option maxRecDepth 100000 in
theorem lc_isShadowed {p : Program} {l : Launch} {e : Env} {s : State} {m : MethodId} {below : List Frame} {meth : Method} {c : Code} {b L : Nat} {xs : Nat → Int32} {D : va_G} {Y : Nat → ClassId} {F : Nat → Prop} {t0 la x na o : Nat} {A : Nat → Nat} (hEn : LEn l p s m meth c b L xs D Y F t0 o A) {i cells slots : Nat} (hi : i + 7 ≤ L) (hc : cells + 40 ≤ 601024) (hs : slots + 120 ≤ 7293034) (hN : LNx p l e s m below meth c b D Y F t0 la x na o A i (cells + 40) (slots + 120)) {d0 : Drawn} (hd0 : s.drawn.sameBut d0 lw_cs) {ju mi lo : Int32} {rs : List RV} {H : Heap} {locs : List Loc} {ls : Array Slot} (hLS : LwS D Y F t0 la x na o A ju mi lo rs H) (hS : va_S (bigA s) s.heap H locs) (hl : lv_has ls 9 (lwL b x (A 0) o i)) : lwW p l e s m below meth c b d0 H locs cells slots (F0 m 1065 ls []) := by
  obtain ⟨C0, hK0, hE0, hFx, hlt, hL⟩ := hEn
  obtain ⟨hx, hb, hr, hml, hown, hts0, hXs, hbl, hlocks, hgv⟩ := id C0
  have hts : ∀ w ∈ wsL_law, w.before #[Value.ref b] (s.setDrawn d0) = true := dr_words (fun w h => hts0 w (wsL_law_in w h)) d0
  have S : CallFix p m c cL_law 9 (s.setDrawn d0) #[Value.ref b] wsL_law RL := ⟨hx, hb, hml, hown, hts⟩
  have hK := hK0.drawn d0
  have hXd : va_X b L xs (s.setDrawn d0) s.heap := va_X.moved (u := s) (U := s.setDrawn d0) (Vm.Alike.refl s.vm) hXs
  have hbA : ¬ bigA s b := Nat.not_le.mpr hbl
  obtain ⟨hC, ⟨th, hmd⟩, ⟨w0, hO⟩, hFr⟩ := hLS
  have hFA : ∀ q, F q → bigA s q := hFx.2.2.2.1
  have hFA2 : ∀ q, (F q ∨ q = o) → bigA s q := fun q h => h.elim (hFA q) (fun z => by rw [z]; exact hFx.2.2.2.2)
  obtain ⟨k, r, w, rs2, ju2, mi2, lo2, dd, mc, ms, dm, hbd, hU, hM, hw⟩ := sp_isShadowed l hlt (D := D) (Y := Y) (F := F) (t0 := t0) (la := la) (x := x) (na := na) (o := o) (A := A) (xs (i + 1)) ju mi lo rs H w0 hC hFr hFx.1 hO
  have hl : lv_has ls 9 [(0, .ref b), (1, .ref x), (2, .ref (A 0)), (3, .ref o), (4, .int (nI i))] := hl
  refine lv_aload_n hx hb dL_law_1065 rfl (lv_at hl 1 rfl) ?_
  refine lv_aload_n hx hb dL_law_1066 rfl (lv_at hl 0 rfl) ?_
  refine lv_iload hx hb dL_law_1067 (lv_at hl 4 rfl) ?_
  refine lv_iconst (v := nI 1) hx hb dL_law_1069 (by decide +kernel) ?_
  refine nr_iadd hx hb dL_law_1070 ?_
  refine nr_sld (j := i + 1) hx hb hXd hbl hbA hS (by omega) (by omega) dL_law_1071 ?_
  refine lv_aload_n hx hb dL_law_1072 rfl (lv_at hl 3 rfl) ?_
  refine UC.callSW (As := .ref x :: ([.int (xs (i + 1))] ++ [.ref o])) S hU (vx_cwSW 3 hts gL_law_L_isShadowed rfl rfl rfl (by decide +kernel) ⟨(by show dd + 1 ≤ 2048; omega), (by show 8 + (4 + 11) + 40 * dd ≤ 84000; omega)⟩) hK eL_bl (fun U hW hU9 => eL.use hE0 hS hW hU9 hFA hFA2) hS hFA2 rfl hl.1 rfl (Nat.le_of_ble_eq_true rfl) dL_law_1073 ⟨(by show cells + mc ≤ 601024; omega), (by show slots + ms ≤ 7293034; omega)⟩ (fun v H1 locs hB hS hsz hkp => ?_)
  obtain ⟨rfl, hC1, w1, hO1, hw1⟩ := hB
  have hmd : mdB D Y A th mi ju lo rs H1 := hmd.kept (fun j hj hq => hkp (A j) hq (fun z => z.elim (hFx.2.1 j hj).1 (hFx.2.1 j hj).2.1))
  refine W.widen (k := cells + 40) (n := slots + 120) (by omega) (by omega) ?_
  refine lv_istore (lv' := [(5, .int (nI k)), (0, .ref b), (1, .ref x), (2, .ref (A 0)), (3, .ref o), (4, .int (nI i))]) hx hb dL_law_1076 hl (by decide) rfl (fun ls hl => ?_)
  refine lv_aload_n hx hb dL_law_1078 rfl (lv_at hl 3 rfl) ?_
  refine lv_aload_n hx hb dL_law_1079 rfl (lv_at hl 1 rfl) ?_
  refine lv_iload hx hb dL_law_1080 (lv_at hl 5 rfl) ?_
  refine lv_iconst (v := nI 1) hx hb dL_law_1082 (by decide +kernel) ?_
  refine nr_iadd hx hb dL_law_1083 ?_
  refine nr_sld (j := i + 1) hx hb hXd hbl hbA hS (by omega) (by omega) dL_law_1084 ?_
  obtain ⟨f, bf, ca, bg, sz, hf, hPm⟩ := hmd
  refine MuI.callV (r := r) (As := [.int (xs (i + 1))]) S (hM th f bf ca bg sz hf) (cwV 1 hts gL_law_X3_isShadowed rfl rfl rfl (by decide +kernel) ⟨(by show dm + 1 ≤ 2048; omega), (by show 8 + (2 + 11) + 40 * dm ≤ 84000; omega)⟩) hK hPm (wM_D hFx th _ mi ju lo f bf ca bg sz) hS (va_recv hK.1 hPm (ci := 3) (q0 := 0) rfl rfl) rfl hl.1 rfl (Nat.le_of_ble_eq_true rfl) dL_law_1085 ⟨(by show _ ≤ 601024; omega), (by show _ ≤ 7293034; omega)⟩ (fun H2 locs hB2 hS hsz2 hkp2 => ?_)
  have hC2 := hC1.kept (fun q hq hFq => hkp2 q hq (fun z => by obtain ⟨i9, h9, e9⟩ := wM_adr z; exact (hFx.2.1 i9 h9).1 (e9 ▸ hFq)))
  have hO2 := hO1.kept (hkp2 o hO1.lt (fun z => by obtain ⟨i9, h9, e9⟩ := wM_adr z; exact (hFx.2.1 i9 h9).2.1 e9.symm))
  have hFr2 : ∀ q, H2.size ≤ q → F q := fun q hq => hFr q (by omega)
  refine lv_istore (lv' := [(6, .int r), (5, .int (nI k)), (0, .ref b), (1, .ref x), (2, .ref (A 0)), (3, .ref o), (4, .int (nI i))]) hx hb dL_law_1088 hl (by decide) rfl (fun ls hl => ?_)
  refine lv_aload_n hx hb dL_law_1090 rfl (lv_at hl 4 rfl) ?_
  obtain ⟨f2, bf2, ca2, bg2, sz2, hf2, hP2⟩ := id hB2
  refine Rd.callV (r := nI k) (As := []) S (k_X3_thrown l hP2) (cwV 0 hts gL_law_X3_thrown rfl rfl rfl (by decide +kernel) ⟨Nat.le_of_ble_eq_true rfl, Nat.le_of_ble_eq_true rfl⟩) hK (va_recv hK.1 hP2 (ci := 3) (q0 := 0) rfl rfl) rfl hl.1 rfl (Nat.le_of_ble_eq_true rfl) dL_law_1091 ⟨(by show _ ≤ 601024; omega), (by show _ ≤ 7293034; omega)⟩ ?_
  refine lv_iload hx hb dL_law_1094 (lv_at hl 1 rfl) ?_
  refine lv_icmp_eq (tgt := 1101) hx hb dL_law_1096 (by decide) (fun _ => ?_) (fun z => absurd rfl z)
  refine lv_iload hx hb dL_law_1101 (lv_at hl 1 rfl) ?_
  refine nr_if_ne (a := k) (tgt := 1125) hx hb (by omega) dL_law_1103 (by decide) (fun ck => ?_) (fun ck => ?_)
  · refine lv_goto (tgt := 1554) hx hb dL_law_1125 (by decide) ?_
    exact hN d0 ju2 mi2 lo2 rs2 H2 locs ls hd0 ⟨hC2, ⟨_, hB2⟩, ⟨_, hO2⟩, hFr2⟩ hS (lv_sub hl [2, 3, 4, 5, 6] rfl)
  · subst ck
    have hw2 := hw rfl
    rw [hw1 rfl, hw2] at hO2
    refine lv_aload_n hx hb dL_law_1106 rfl (lv_at hl 5 rfl) ?_
    refine lv_iconst (v := nI 0) hx hb dL_law_1107 (by decide +kernel) ?_
    refine nr_lald0 S hK hO2 dL_law_1108 ?_
    refine lv_iload hx hb dL_law_1109 (lv_at hl 0 rfl) ?_
    refine lv_if_eq (tgt := 1118) hx hb dL_law_1111 (by decide) (fun cz => ?_) (fun cz => ?_)
    · refine lv_lconst (v := 0) hx hb dL_law_1118 (by decide +kernel) ?_
      refine W.lcmp hx hb dL_law_1119 ?_
      refine lv_if_eq (tgt := 1125) hx hb dL_law_1120 (by decide) (fun _ => ?_) (fun z => absurd (by rw [if_pos rfl, if_pos cz]; exact lg_cmp_self _) z)
      refine lv_goto (tgt := 1554) hx hb dL_law_1125 (by decide) ?_
      exact hN d0 ju2 mi2 lo2 rs2 H2 locs ls hd0 ⟨hC2, ⟨_, hB2⟩, ⟨_, hO2⟩, hFr2⟩ hS (lv_sub hl [2, 3, 4, 5, 6] rfl)
    · refine lv_lconst (v := 1) hx hb dL_law_1114 (by decide +kernel) ?_
      refine lv_goto (tgt := 1119) hx hb dL_law_1115 (by decide) ?_
      refine W.lcmp hx hb dL_law_1119 ?_
      refine lv_if_eq (tgt := 1125) hx hb dL_law_1120 (by decide) (fun _ => ?_) (fun z => absurd (by rw [if_pos rfl, if_neg cz]; exact lg_cmp_self _) z)
      refine lv_goto (tgt := 1554) hx hb dL_law_1125 (by decide) ?_
      exact hN d0 ju2 mi2 lo2 rs2 H2 locs ls hd0 ⟨hC2, ⟨_, hB2⟩, ⟨_, hO2⟩, hFr2⟩ hS (lv_sub hl [2, 3, 4, 5, 6] rfl)
set_option maxHeartbeats 4000000 in
set_option maxRecDepth 100000 in
theorem lc_shadowedBy {p : Program} {l : Launch} {e : Env} {s : State} {m : MethodId} {below : List Frame} {meth : Method} {c : Code} {b L : Nat} {xs : Nat → Int32} {D : va_G} {Y : Nat → ClassId} {F : Nat → Prop} {t0 la x na o : Nat} {A : Nat → Nat} (hEn : LEn l p s m meth c b L xs D Y F t0 o A) {i cells slots : Nat} (hi : i + 7 ≤ L) (hc : cells + 40 ≤ 601024) (hs : slots + 120 ≤ 7293034) (hN : LNx p l e s m below meth c b D Y F t0 la x na o A i (cells + 40) (slots + 120)) {d0 : Drawn} (hd0 : s.drawn.sameBut d0 lw_cs) {ju mi lo : Int32} {rs : List RV} {H : Heap} {locs : List Loc} {ls : Array Slot} (hLS : LwS D Y F t0 la x na o A ju mi lo rs H) (hS : va_S (bigA s) s.heap H locs) (hl : lv_has ls 9 (lwL b x (A 0) o i)) : lwW p l e s m below meth c b d0 H locs cells slots (F0 m 1128 ls []) := by
  obtain ⟨C0, hK0, hE0, hFx, hlt, hL⟩ := hEn
  obtain ⟨hx, hb, hr, hml, hown, hts0, hXs, hbl, hlocks, hgv⟩ := id C0
  have hts : ∀ w ∈ wsL_law, w.before #[Value.ref b] (s.setDrawn d0) = true := dr_words (fun w h => hts0 w (wsL_law_in w h)) d0
  have S : CallFix p m c cL_law 9 (s.setDrawn d0) #[Value.ref b] wsL_law RL := ⟨hx, hb, hml, hown, hts⟩
  have hK := hK0.drawn d0
  have hXd : va_X b L xs (s.setDrawn d0) s.heap := va_X.moved (u := s) (U := s.setDrawn d0) (Vm.Alike.refl s.vm) hXs
  have hbA : ¬ bigA s b := Nat.not_le.mpr hbl
  obtain ⟨hC, ⟨th, hmd⟩, ⟨w0, hO⟩, hFr⟩ := hLS
  have hFA : ∀ q, F q → bigA s q := hFx.2.2.2.1
  have hFA2 : ∀ q, (F q ∨ q = o) → bigA s q := fun q h => h.elim (hFA q) (fun z => by rw [z]; exact hFx.2.2.2.2)
  obtain ⟨k, r, w, rs2, ju2, mi2, lo2, dd, mc, ms, dm, hbd, hU, hM, hw⟩ := sp_shadowedBy l hlt (D := D) (Y := Y) (F := F) (t0 := t0) (la := la) (x := x) (na := na) (o := o) (A := A) (xs (i + 1)) ju mi lo rs H w0 hC hFr hFx.1 hO
  have hl : lv_has ls 9 [(0, .ref b), (1, .ref x), (2, .ref (A 0)), (3, .ref o), (4, .int (nI i))] := hl
  refine lv_aload_n hx hb dL_law_1128 rfl (lv_at hl 1 rfl) ?_
  refine lv_aload_n hx hb dL_law_1129 rfl (lv_at hl 0 rfl) ?_
  refine lv_iload hx hb dL_law_1130 (lv_at hl 4 rfl) ?_
  refine lv_iconst (v := nI 1) hx hb dL_law_1132 (by decide +kernel) ?_
  refine nr_iadd hx hb dL_law_1133 ?_
  refine nr_sld (j := i + 1) hx hb hXd hbl hbA hS (by omega) (by omega) dL_law_1134 ?_
  refine lv_aload_n hx hb dL_law_1135 rfl (lv_at hl 3 rfl) ?_
  refine UC.callSW (As := .ref x :: ([.int (xs (i + 1))] ++ [.ref o])) S hU (vx_cwSW 3 hts gL_law_L_shadowedBy rfl rfl rfl (by decide +kernel) ⟨(by show dd + 1 ≤ 2048; omega), (by show 8 + (4 + 11) + 40 * dd ≤ 84000; omega)⟩) hK eL_bl (fun U hW hU9 => eL.use hE0 hS hW hU9 hFA hFA2) hS hFA2 rfl hl.1 rfl (Nat.le_of_ble_eq_true rfl) dL_law_1136 ⟨(by show cells + mc ≤ 601024; omega), (by show slots + ms ≤ 7293034; omega)⟩ (fun v H1 locs hB hS hsz hkp => ?_)
  obtain ⟨rfl, hC1, w1, hO1, hw1⟩ := hB
  have hmd : mdB D Y A th mi ju lo rs H1 := hmd.kept (fun j hj hq => hkp (A j) hq (fun z => z.elim (hFx.2.1 j hj).1 (hFx.2.1 j hj).2.1))
  refine W.widen (k := cells + 40) (n := slots + 120) (by omega) (by omega) ?_
  refine lv_istore (lv' := [(5, .int (nI k)), (0, .ref b), (1, .ref x), (2, .ref (A 0)), (3, .ref o), (4, .int (nI i))]) hx hb dL_law_1139 hl (by decide) rfl (fun ls hl => ?_)
  refine lv_aload_n hx hb dL_law_1141 rfl (lv_at hl 3 rfl) ?_
  refine lv_aload_n hx hb dL_law_1142 rfl (lv_at hl 1 rfl) ?_
  refine lv_iload hx hb dL_law_1143 (lv_at hl 5 rfl) ?_
  refine lv_iconst (v := nI 1) hx hb dL_law_1145 (by decide +kernel) ?_
  refine nr_iadd hx hb dL_law_1146 ?_
  refine nr_sld (j := i + 1) hx hb hXd hbl hbA hS (by omega) (by omega) dL_law_1147 ?_
  obtain ⟨f, bf, ca, bg, sz, hf, hPm⟩ := hmd
  refine MuI.callV (r := r) (As := [.int (xs (i + 1))]) S (hM th f bf ca bg sz hf) (cwV 1 hts gL_law_X3_shadowedBy rfl rfl rfl (by decide +kernel) ⟨(by show dm + 1 ≤ 2048; omega), (by show 8 + (3 + 11) + 40 * dm ≤ 84000; omega)⟩) hK hPm (wM_D hFx th _ mi ju lo f bf ca bg sz) hS (va_recv hK.1 hPm (ci := 3) (q0 := 0) rfl rfl) rfl hl.1 rfl (Nat.le_of_ble_eq_true rfl) dL_law_1148 ⟨(by show _ ≤ 601024; omega), (by show _ ≤ 7293034; omega)⟩ (fun H2 locs hB2 hS hsz2 hkp2 => ?_)
  have hC2 := hC1.kept (fun q hq hFq => hkp2 q hq (fun z => by obtain ⟨i9, h9, e9⟩ := wM_adr z; exact (hFx.2.1 i9 h9).1 (e9 ▸ hFq)))
  have hO2 := hO1.kept (hkp2 o hO1.lt (fun z => by obtain ⟨i9, h9, e9⟩ := wM_adr z; exact (hFx.2.1 i9 h9).2.1 e9.symm))
  have hFr2 : ∀ q, H2.size ≤ q → F q := fun q hq => hFr q (by omega)
  refine lv_istore (lv' := [(6, .int r), (5, .int (nI k)), (0, .ref b), (1, .ref x), (2, .ref (A 0)), (3, .ref o), (4, .int (nI i))]) hx hb dL_law_1151 hl (by decide) rfl (fun ls hl => ?_)
  refine lv_aload_n hx hb dL_law_1153 rfl (lv_at hl 4 rfl) ?_
  obtain ⟨f2, bf2, ca2, bg2, sz2, hf2, hP2⟩ := id hB2
  refine Rd.callV (r := nI k) (As := []) S (k_X3_thrown l hP2) (cwV 0 hts gL_law_X3_thrown rfl rfl rfl (by decide +kernel) ⟨Nat.le_of_ble_eq_true rfl, Nat.le_of_ble_eq_true rfl⟩) hK (va_recv hK.1 hP2 (ci := 3) (q0 := 0) rfl rfl) rfl hl.1 rfl (Nat.le_of_ble_eq_true rfl) dL_law_1154 ⟨(by show _ ≤ 601024; omega), (by show _ ≤ 7293034; omega)⟩ ?_
  refine lv_iload hx hb dL_law_1157 (lv_at hl 1 rfl) ?_
  refine lv_icmp_eq (tgt := 1164) hx hb dL_law_1159 (by decide) (fun _ => ?_) (fun z => absurd rfl z)
  refine lv_iload hx hb dL_law_1164 (lv_at hl 1 rfl) ?_
  refine nr_if_ne (a := k) (tgt := 1181) hx hb (by omega) dL_law_1166 (by decide) (fun ck => ?_) (fun ck => ?_)
  · refine lv_goto (tgt := 1554) hx hb dL_law_1181 (by decide) ?_
    exact hN d0 ju2 mi2 lo2 rs2 H2 locs ls hd0 ⟨hC2, ⟨_, hB2⟩, ⟨_, hO2⟩, hFr2⟩ hS (lv_sub hl [2, 3, 4, 5, 6] rfl)
  · subst ck
    have hw2 := hw rfl
    rw [hw1 rfl, hw2] at hO2
    refine lv_aload_n hx hb dL_law_1169 rfl (lv_at hl 5 rfl) ?_
    refine lv_iconst (v := nI 0) hx hb dL_law_1170 (by decide +kernel) ?_
    refine nr_lald0 S hK hO2 dL_law_1171 ?_
    refine lv_iload hx hb dL_law_1172 (lv_at hl 0 rfl) ?_
    refine lv_i2l (v := r.toInt64) hx hb dL_law_1174 rfl ?_
    refine W.lcmp hx hb dL_law_1175 ?_
    refine lv_if_eq (tgt := 1181) hx hb dL_law_1176 (by decide) (fun _ => ?_) (fun z => absurd (lg_cmp_self _) z)
    refine lv_goto (tgt := 1554) hx hb dL_law_1181 (by decide) ?_
    exact hN d0 ju2 mi2 lo2 rs2 H2 locs ls hd0 ⟨hC2, ⟨_, hB2⟩, ⟨_, hO2⟩, hFr2⟩ hS (lv_sub hl [2, 3, 4, 5, 6] rfl)
set_option maxHeartbeats 4000000 in
set_option maxRecDepth 100000 in
theorem lc_isRedundant {p : Program} {l : Launch} {e : Env} {s : State} {m : MethodId} {below : List Frame} {meth : Method} {c : Code} {b L : Nat} {xs : Nat → Int32} {D : va_G} {Y : Nat → ClassId} {F : Nat → Prop} {t0 la x na o : Nat} {A : Nat → Nat} (hEn : LEn l p s m meth c b L xs D Y F t0 o A) {i cells slots : Nat} (hi : i + 7 ≤ L) (hc : cells + 40 ≤ 601024) (hs : slots + 120 ≤ 7293034) (hN : LNx p l e s m below meth c b D Y F t0 la x na o A i (cells + 40) (slots + 120)) {d0 : Drawn} (hd0 : s.drawn.sameBut d0 lw_cs) {ju mi lo : Int32} {rs : List RV} {H : Heap} {locs : List Loc} {ls : Array Slot} (hLS : LwS D Y F t0 la x na o A ju mi lo rs H) (hS : va_S (bigA s) s.heap H locs) (hl : lv_has ls 9 (lwL b x (A 0) o i)) : lwW p l e s m below meth c b d0 H locs cells slots (F0 m 1184 ls []) := by
  obtain ⟨C0, hK0, hE0, hFx, hlt, hL⟩ := hEn
  obtain ⟨hx, hb, hr, hml, hown, hts0, hXs, hbl, hlocks, hgv⟩ := id C0
  have hts : ∀ w ∈ wsL_law, w.before #[Value.ref b] (s.setDrawn d0) = true := dr_words (fun w h => hts0 w (wsL_law_in w h)) d0
  have S : CallFix p m c cL_law 9 (s.setDrawn d0) #[Value.ref b] wsL_law RL := ⟨hx, hb, hml, hown, hts⟩
  have hK := hK0.drawn d0
  have hXd : va_X b L xs (s.setDrawn d0) s.heap := va_X.moved (u := s) (U := s.setDrawn d0) (Vm.Alike.refl s.vm) hXs
  have hbA : ¬ bigA s b := Nat.not_le.mpr hbl
  obtain ⟨hC, ⟨th, hmd⟩, ⟨w0, hO⟩, hFr⟩ := hLS
  have hFA : ∀ q, F q → bigA s q := hFx.2.2.2.1
  have hFA2 : ∀ q, (F q ∨ q = o) → bigA s q := fun q h => h.elim (hFA q) (fun z => by rw [z]; exact hFx.2.2.2.2)
  obtain ⟨k, r, w, rs2, ju2, mi2, lo2, dd, mc, ms, dm, hbd, hU, hM, hw⟩ := sp_isRedundant l hlt (D := D) (Y := Y) (F := F) (t0 := t0) (la := la) (x := x) (na := na) (o := o) (A := A) (xs (i + 1)) ju mi lo rs H w0 hC hFr hFx.1 hO
  have hl : lv_has ls 9 [(0, .ref b), (1, .ref x), (2, .ref (A 0)), (3, .ref o), (4, .int (nI i))] := hl
  refine lv_aload_n hx hb dL_law_1184 rfl (lv_at hl 1 rfl) ?_
  refine lv_aload_n hx hb dL_law_1185 rfl (lv_at hl 0 rfl) ?_
  refine lv_iload hx hb dL_law_1186 (lv_at hl 4 rfl) ?_
  refine lv_iconst (v := nI 1) hx hb dL_law_1188 (by decide +kernel) ?_
  refine nr_iadd hx hb dL_law_1189 ?_
  refine nr_sld (j := i + 1) hx hb hXd hbl hbA hS (by omega) (by omega) dL_law_1190 ?_
  refine lv_aload_n hx hb dL_law_1191 rfl (lv_at hl 3 rfl) ?_
  refine UC.callSW (As := .ref x :: ([.int (xs (i + 1))] ++ [.ref o])) S hU (vx_cwSW 3 hts gL_law_L_isRedundant rfl rfl rfl (by decide +kernel) ⟨(by show dd + 1 ≤ 2048; omega), (by show 8 + (4 + 11) + 40 * dd ≤ 84000; omega)⟩) hK eL_bl (fun U hW hU9 => eL.use hE0 hS hW hU9 hFA hFA2) hS hFA2 rfl hl.1 rfl (Nat.le_of_ble_eq_true rfl) dL_law_1192 ⟨(by show cells + mc ≤ 601024; omega), (by show slots + ms ≤ 7293034; omega)⟩ (fun v H1 locs hB hS hsz hkp => ?_)
  obtain ⟨rfl, hC1, w1, hO1, hw1⟩ := hB
  have hmd : mdB D Y A th mi ju lo rs H1 := hmd.kept (fun j hj hq => hkp (A j) hq (fun z => z.elim (hFx.2.1 j hj).1 (hFx.2.1 j hj).2.1))
  refine W.widen (k := cells + 40) (n := slots + 120) (by omega) (by omega) ?_
  refine lv_istore (lv' := [(5, .int (nI k)), (0, .ref b), (1, .ref x), (2, .ref (A 0)), (3, .ref o), (4, .int (nI i))]) hx hb dL_law_1195 hl (by decide) rfl (fun ls hl => ?_)
  refine lv_aload_n hx hb dL_law_1197 rfl (lv_at hl 3 rfl) ?_
  refine lv_aload_n hx hb dL_law_1198 rfl (lv_at hl 1 rfl) ?_
  refine lv_iload hx hb dL_law_1199 (lv_at hl 5 rfl) ?_
  refine lv_iconst (v := nI 1) hx hb dL_law_1201 (by decide +kernel) ?_
  refine nr_iadd hx hb dL_law_1202 ?_
  refine nr_sld (j := i + 1) hx hb hXd hbl hbA hS (by omega) (by omega) dL_law_1203 ?_
  obtain ⟨f, bf, ca, bg, sz, hf, hPm⟩ := hmd
  refine MuI.callV (r := r) (As := [.int (xs (i + 1))]) S (hM th f bf ca bg sz hf) (cwV 1 hts gL_law_X3_isRedundant rfl rfl rfl (by decide +kernel) ⟨(by show dm + 1 ≤ 2048; omega), (by show 8 + (2 + 11) + 40 * dm ≤ 84000; omega)⟩) hK hPm (wM_D hFx th _ mi ju lo f bf ca bg sz) hS (va_recv hK.1 hPm (ci := 3) (q0 := 0) rfl rfl) rfl hl.1 rfl (Nat.le_of_ble_eq_true rfl) dL_law_1204 ⟨(by show _ ≤ 601024; omega), (by show _ ≤ 7293034; omega)⟩ (fun H2 locs hB2 hS hsz2 hkp2 => ?_)
  have hC2 := hC1.kept (fun q hq hFq => hkp2 q hq (fun z => by obtain ⟨i9, h9, e9⟩ := wM_adr z; exact (hFx.2.1 i9 h9).1 (e9 ▸ hFq)))
  have hO2 := hO1.kept (hkp2 o hO1.lt (fun z => by obtain ⟨i9, h9, e9⟩ := wM_adr z; exact (hFx.2.1 i9 h9).2.1 e9.symm))
  have hFr2 : ∀ q, H2.size ≤ q → F q := fun q hq => hFr q (by omega)
  refine lv_istore (lv' := [(6, .int r), (5, .int (nI k)), (0, .ref b), (1, .ref x), (2, .ref (A 0)), (3, .ref o), (4, .int (nI i))]) hx hb dL_law_1207 hl (by decide) rfl (fun ls hl => ?_)
  refine lv_aload_n hx hb dL_law_1209 rfl (lv_at hl 4 rfl) ?_
  obtain ⟨f2, bf2, ca2, bg2, sz2, hf2, hP2⟩ := id hB2
  refine Rd.callV (r := nI k) (As := []) S (k_X3_thrown l hP2) (cwV 0 hts gL_law_X3_thrown rfl rfl rfl (by decide +kernel) ⟨Nat.le_of_ble_eq_true rfl, Nat.le_of_ble_eq_true rfl⟩) hK (va_recv hK.1 hP2 (ci := 3) (q0 := 0) rfl rfl) rfl hl.1 rfl (Nat.le_of_ble_eq_true rfl) dL_law_1210 ⟨(by show _ ≤ 601024; omega), (by show _ ≤ 7293034; omega)⟩ ?_
  refine lv_iload hx hb dL_law_1213 (lv_at hl 1 rfl) ?_
  refine lv_icmp_eq (tgt := 1220) hx hb dL_law_1215 (by decide) (fun _ => ?_) (fun z => absurd rfl z)
  refine lv_iload hx hb dL_law_1220 (lv_at hl 1 rfl) ?_
  refine nr_if_ne (a := k) (tgt := 1244) hx hb (by omega) dL_law_1222 (by decide) (fun ck => ?_) (fun ck => ?_)
  · refine lv_goto (tgt := 1554) hx hb dL_law_1244 (by decide) ?_
    exact hN d0 ju2 mi2 lo2 rs2 H2 locs ls hd0 ⟨hC2, ⟨_, hB2⟩, ⟨_, hO2⟩, hFr2⟩ hS (lv_sub hl [2, 3, 4, 5, 6] rfl)
  · subst ck
    have hw2 := hw rfl
    rw [hw1 rfl, hw2] at hO2
    refine lv_aload_n hx hb dL_law_1225 rfl (lv_at hl 5 rfl) ?_
    refine lv_iconst (v := nI 0) hx hb dL_law_1226 (by decide +kernel) ?_
    refine nr_lald0 S hK hO2 dL_law_1227 ?_
    refine lv_iload hx hb dL_law_1228 (lv_at hl 0 rfl) ?_
    refine lv_if_eq (tgt := 1237) hx hb dL_law_1230 (by decide) (fun cz => ?_) (fun cz => ?_)
    · refine lv_lconst (v := 0) hx hb dL_law_1237 (by decide +kernel) ?_
      refine W.lcmp hx hb dL_law_1238 ?_
      refine lv_if_eq (tgt := 1244) hx hb dL_law_1239 (by decide) (fun _ => ?_) (fun z => absurd (by rw [if_pos rfl, if_pos cz]; exact lg_cmp_self _) z)
      refine lv_goto (tgt := 1554) hx hb dL_law_1244 (by decide) ?_
      exact hN d0 ju2 mi2 lo2 rs2 H2 locs ls hd0 ⟨hC2, ⟨_, hB2⟩, ⟨_, hO2⟩, hFr2⟩ hS (lv_sub hl [2, 3, 4, 5, 6] rfl)
    · refine lv_lconst (v := 1) hx hb dL_law_1233 (by decide +kernel) ?_
      refine lv_goto (tgt := 1238) hx hb dL_law_1234 (by decide) ?_
      refine W.lcmp hx hb dL_law_1238 ?_
      refine lv_if_eq (tgt := 1244) hx hb dL_law_1239 (by decide) (fun _ => ?_) (fun z => absurd (by rw [if_pos rfl, if_neg cz]; exact lg_cmp_self _) z)
      refine lv_goto (tgt := 1554) hx hb dL_law_1244 (by decide) ?_
      exact hN d0 ju2 mi2 lo2 rs2 H2 locs ls hd0 ⟨hC2, ⟨_, hB2⟩, ⟨_, hO2⟩, hFr2⟩ hS (lv_sub hl [2, 3, 4, 5, 6] rfl)
set_option maxHeartbeats 4000000 in
set_option maxRecDepth 100000 in
theorem lc_canMerge {p : Program} {l : Launch} {e : Env} {s : State} {m : MethodId} {below : List Frame} {meth : Method} {c : Code} {b L : Nat} {xs : Nat → Int32} {D : va_G} {Y : Nat → ClassId} {F : Nat → Prop} {t0 la x na o : Nat} {A : Nat → Nat} (hEn : LEn l p s m meth c b L xs D Y F t0 o A) {i cells slots : Nat} (hi : i + 7 ≤ L) (hc : cells + 40 ≤ 601024) (hs : slots + 120 ≤ 7293034) (hN : LNx p l e s m below meth c b D Y F t0 la x na o A i (cells + 40) (slots + 120)) {d0 : Drawn} (hd0 : s.drawn.sameBut d0 lw_cs) {ju mi lo : Int32} {rs : List RV} {H : Heap} {locs : List Loc} {ls : Array Slot} (hLS : LwS D Y F t0 la x na o A ju mi lo rs H) (hS : va_S (bigA s) s.heap H locs) (hl : lv_has ls 9 (lwL b x (A 0) o i)) : lwW p l e s m below meth c b d0 H locs cells slots (F0 m 1260 ls []) := by
  obtain ⟨C0, hK0, hE0, hFx, hlt, hL⟩ := hEn
  obtain ⟨hx, hb, hr, hml, hown, hts0, hXs, hbl, hlocks, hgv⟩ := id C0
  have hts : ∀ w ∈ wsL_law, w.before #[Value.ref b] (s.setDrawn d0) = true := dr_words (fun w h => hts0 w (wsL_law_in w h)) d0
  have S : CallFix p m c cL_law 9 (s.setDrawn d0) #[Value.ref b] wsL_law RL := ⟨hx, hb, hml, hown, hts⟩
  have hK := hK0.drawn d0
  have hXd : va_X b L xs (s.setDrawn d0) s.heap := va_X.moved (u := s) (U := s.setDrawn d0) (Vm.Alike.refl s.vm) hXs
  have hbA : ¬ bigA s b := Nat.not_le.mpr hbl
  obtain ⟨hC, ⟨th, hmd⟩, ⟨w0, hO⟩, hFr⟩ := hLS
  have hFA : ∀ q, F q → bigA s q := hFx.2.2.2.1
  have hFA2 : ∀ q, (F q ∨ q = o) → bigA s q := fun q h => h.elim (hFA q) (fun z => by rw [z]; exact hFx.2.2.2.2)
  obtain ⟨k, r, w, rs2, ju2, mi2, lo2, dd, mc, ms, dm, hbd, hU, hM, hw⟩ := sp_canMerge l hlt (D := D) (Y := Y) (F := F) (t0 := t0) (la := la) (x := x) (na := na) (o := o) (A := A) (xs (i + 1)) ju mi lo rs H w0 hC hFr hFx.1 hO
  have hl : lv_has ls 9 [(0, .ref b), (1, .ref x), (2, .ref (A 0)), (3, .ref o), (4, .int (nI i))] := hl
  refine lv_aload_n hx hb dL_law_1260 rfl (lv_at hl 1 rfl) ?_
  refine lv_aload_n hx hb dL_law_1261 rfl (lv_at hl 0 rfl) ?_
  refine lv_iload hx hb dL_law_1262 (lv_at hl 4 rfl) ?_
  refine lv_iconst (v := nI 1) hx hb dL_law_1264 (by decide +kernel) ?_
  refine nr_iadd hx hb dL_law_1265 ?_
  refine nr_sld (j := i + 1) hx hb hXd hbl hbA hS (by omega) (by omega) dL_law_1266 ?_
  refine lv_aload_n hx hb dL_law_1267 rfl (lv_at hl 3 rfl) ?_
  refine UC.callSW (As := .ref x :: ([.int (xs (i + 1))] ++ [.ref o])) S hU (vx_cwSW 3 hts gL_law_L_canMerge rfl rfl rfl (by decide +kernel) ⟨(by show dd + 1 ≤ 2048; omega), (by show 8 + (4 + 11) + 40 * dd ≤ 84000; omega)⟩) hK eL_bl (fun U hW hU9 => eL.use hE0 hS hW hU9 hFA hFA2) hS hFA2 rfl hl.1 rfl (Nat.le_of_ble_eq_true rfl) dL_law_1268 ⟨(by show cells + mc ≤ 601024; omega), (by show slots + ms ≤ 7293034; omega)⟩ (fun v H1 locs hB hS hsz hkp => ?_)
  obtain ⟨rfl, hC1, w1, hO1, hw1⟩ := hB
  have hmd : mdB D Y A th mi ju lo rs H1 := hmd.kept (fun j hj hq => hkp (A j) hq (fun z => z.elim (hFx.2.1 j hj).1 (hFx.2.1 j hj).2.1))
  refine W.widen (k := cells + 40) (n := slots + 120) (by omega) (by omega) ?_
  refine lv_istore (lv' := [(5, .int (nI k)), (0, .ref b), (1, .ref x), (2, .ref (A 0)), (3, .ref o), (4, .int (nI i))]) hx hb dL_law_1271 hl (by decide) rfl (fun ls hl => ?_)
  refine lv_aload_n hx hb dL_law_1273 rfl (lv_at hl 3 rfl) ?_
  refine lv_aload_n hx hb dL_law_1274 rfl (lv_at hl 1 rfl) ?_
  refine lv_iload hx hb dL_law_1275 (lv_at hl 5 rfl) ?_
  refine lv_iconst (v := nI 1) hx hb dL_law_1277 (by decide +kernel) ?_
  refine nr_iadd hx hb dL_law_1278 ?_
  refine nr_sld (j := i + 1) hx hb hXd hbl hbA hS (by omega) (by omega) dL_law_1279 ?_
  obtain ⟨f, bf, ca, bg, sz, hf, hPm⟩ := hmd
  refine MuI.callV (r := r) (As := [.int (xs (i + 1))]) S (hM th f bf ca bg sz hf) (cwV 1 hts gL_law_X3_canMerge rfl rfl rfl (by decide +kernel) ⟨(by show dm + 1 ≤ 2048; omega), (by show 8 + (2 + 11) + 40 * dm ≤ 84000; omega)⟩) hK hPm (wM_D hFx th _ mi ju lo f bf ca bg sz) hS (va_recv hK.1 hPm (ci := 3) (q0 := 0) rfl rfl) rfl hl.1 rfl (Nat.le_of_ble_eq_true rfl) dL_law_1280 ⟨(by show _ ≤ 601024; omega), (by show _ ≤ 7293034; omega)⟩ (fun H2 locs hB2 hS hsz2 hkp2 => ?_)
  have hC2 := hC1.kept (fun q hq hFq => hkp2 q hq (fun z => by obtain ⟨i9, h9, e9⟩ := wM_adr z; exact (hFx.2.1 i9 h9).1 (e9 ▸ hFq)))
  have hO2 := hO1.kept (hkp2 o hO1.lt (fun z => by obtain ⟨i9, h9, e9⟩ := wM_adr z; exact (hFx.2.1 i9 h9).2.1 e9.symm))
  have hFr2 : ∀ q, H2.size ≤ q → F q := fun q hq => hFr q (by omega)
  refine lv_istore (lv' := [(6, .int r), (5, .int (nI k)), (0, .ref b), (1, .ref x), (2, .ref (A 0)), (3, .ref o), (4, .int (nI i))]) hx hb dL_law_1283 hl (by decide) rfl (fun ls hl => ?_)
  refine lv_aload_n hx hb dL_law_1285 rfl (lv_at hl 4 rfl) ?_
  obtain ⟨f2, bf2, ca2, bg2, sz2, hf2, hP2⟩ := id hB2
  refine Rd.callV (r := nI k) (As := []) S (k_X3_thrown l hP2) (cwV 0 hts gL_law_X3_thrown rfl rfl rfl (by decide +kernel) ⟨Nat.le_of_ble_eq_true rfl, Nat.le_of_ble_eq_true rfl⟩) hK (va_recv hK.1 hP2 (ci := 3) (q0 := 0) rfl rfl) rfl hl.1 rfl (Nat.le_of_ble_eq_true rfl) dL_law_1286 ⟨(by show _ ≤ 601024; omega), (by show _ ≤ 7293034; omega)⟩ ?_
  refine lv_iload hx hb dL_law_1289 (lv_at hl 1 rfl) ?_
  refine lv_icmp_eq (tgt := 1296) hx hb dL_law_1291 (by decide) (fun _ => ?_) (fun z => absurd rfl z)
  refine lv_iload hx hb dL_law_1296 (lv_at hl 1 rfl) ?_
  refine nr_if_ne (a := k) (tgt := 1320) hx hb (by omega) dL_law_1298 (by decide) (fun ck => ?_) (fun ck => ?_)
  · refine lv_goto (tgt := 1554) hx hb dL_law_1320 (by decide) ?_
    exact hN d0 ju2 mi2 lo2 rs2 H2 locs ls hd0 ⟨hC2, ⟨_, hB2⟩, ⟨_, hO2⟩, hFr2⟩ hS (lv_sub hl [2, 3, 4, 5, 6] rfl)
  · subst ck
    have hw2 := hw rfl
    rw [hw1 rfl, hw2] at hO2
    refine lv_aload_n hx hb dL_law_1301 rfl (lv_at hl 5 rfl) ?_
    refine lv_iconst (v := nI 0) hx hb dL_law_1302 (by decide +kernel) ?_
    refine nr_lald0 S hK hO2 dL_law_1303 ?_
    refine lv_iload hx hb dL_law_1304 (lv_at hl 0 rfl) ?_
    refine lv_if_eq (tgt := 1313) hx hb dL_law_1306 (by decide) (fun cz => ?_) (fun cz => ?_)
    · refine lv_lconst (v := 0) hx hb dL_law_1313 (by decide +kernel) ?_
      refine W.lcmp hx hb dL_law_1314 ?_
      refine lv_if_eq (tgt := 1320) hx hb dL_law_1315 (by decide) (fun _ => ?_) (fun z => absurd (by rw [if_pos rfl, if_pos cz]; exact lg_cmp_self _) z)
      refine lv_goto (tgt := 1554) hx hb dL_law_1320 (by decide) ?_
      exact hN d0 ju2 mi2 lo2 rs2 H2 locs ls hd0 ⟨hC2, ⟨_, hB2⟩, ⟨_, hO2⟩, hFr2⟩ hS (lv_sub hl [2, 3, 4, 5, 6] rfl)
    · refine lv_lconst (v := 1) hx hb dL_law_1309 (by decide +kernel) ?_
      refine lv_goto (tgt := 1314) hx hb dL_law_1310 (by decide) ?_
      refine W.lcmp hx hb dL_law_1314 ?_
      refine lv_if_eq (tgt := 1320) hx hb dL_law_1315 (by decide) (fun _ => ?_) (fun z => absurd (by rw [if_pos rfl, if_neg cz]; exact lg_cmp_self _) z)
      refine lv_goto (tgt := 1554) hx hb dL_law_1320 (by decide) ?_
      exact hN d0 ju2 mi2 lo2 rs2 H2 locs ls hd0 ⟨hC2, ⟨_, hB2⟩, ⟨_, hO2⟩, hFr2⟩ hS (lv_sub hl [2, 3, 4, 5, 6] rfl)
set_option maxHeartbeats 4000000 in
set_option maxRecDepth 100000 in
theorem lc_entries {p : Program} {l : Launch} {e : Env} {s : State} {m : MethodId} {below : List Frame} {meth : Method} {c : Code} {b L : Nat} {xs : Nat → Int32} {D : va_G} {Y : Nat → ClassId} {F : Nat → Prop} {t0 la x na o : Nat} {A : Nat → Nat} (hEn : LEn l p s m meth c b L xs D Y F t0 o A) {i cells slots : Nat} (hi : i + 7 ≤ L) (hc : cells + 40 ≤ 601024) (hs : slots + 120 ≤ 7293034) (hN : LNx p l e s m below meth c b D Y F t0 la x na o A i (cells + 40) (slots + 120)) {d0 : Drawn} (hd0 : s.drawn.sameBut d0 lw_cs) {ju mi lo : Int32} {rs : List RV} {H : Heap} {locs : List Loc} {ls : Array Slot} (hLS : LwS D Y F t0 la x na o A ju mi lo rs H) (hS : va_S (bigA s) s.heap H locs) (hl : lv_has ls 9 (lwL b x (A 0) o i)) : lwW p l e s m below meth c b d0 H locs cells slots (F0 m 1349 ls []) := by
  obtain ⟨C0, hK0, hE0, hFx, hlt, hL⟩ := hEn
  obtain ⟨hx, hb, hr, hml, hown, hts0, hXs, hbl, hlocks, hgv⟩ := id C0
  have hts : ∀ w ∈ wsL_law, w.before #[Value.ref b] (s.setDrawn d0) = true := dr_words (fun w h => hts0 w (wsL_law_in w h)) d0
  have S : CallFix p m c cL_law 9 (s.setDrawn d0) #[Value.ref b] wsL_law RL := ⟨hx, hb, hml, hown, hts⟩
  have hK := hK0.drawn d0
  have hXd : va_X b L xs (s.setDrawn d0) s.heap := va_X.moved (u := s) (U := s.setDrawn d0) (Vm.Alike.refl s.vm) hXs
  have hbA : ¬ bigA s b := Nat.not_le.mpr hbl
  obtain ⟨hC, ⟨th, hmd⟩, ⟨w0, hO⟩, hFr⟩ := hLS
  have hFA : ∀ q, F q → bigA s q := hFx.2.2.2.1
  have hFA2 : ∀ q, (F q ∨ q = o) → bigA s q := fun q h => h.elim (hFA q) (fun z => by rw [z]; exact hFx.2.2.2.2)
  obtain ⟨k, r, w, rs2, ju2, mi2, lo2, dd, mc, ms, dm, hbd, hU, hM, hw⟩ := sp_entries l hlt (D := D) (Y := Y) (F := F) (t0 := t0) (la := la) (x := x) (na := na) (o := o) (A := A) (xs (i + 1)) ju mi lo rs H w0 hC hFr hFx.1 hO
  have hl : lv_has ls 9 [(0, .ref b), (1, .ref x), (2, .ref (A 0)), (3, .ref o), (4, .int (nI i))] := hl
  refine lv_aload_n hx hb dL_law_1349 rfl (lv_at hl 1 rfl) ?_
  refine lv_aload_n hx hb dL_law_1350 rfl (lv_at hl 0 rfl) ?_
  refine lv_iload hx hb dL_law_1351 (lv_at hl 4 rfl) ?_
  refine lv_iconst (v := nI 1) hx hb dL_law_1353 (by decide +kernel) ?_
  refine nr_iadd hx hb dL_law_1354 ?_
  refine nr_sld (j := i + 1) hx hb hXd hbl hbA hS (by omega) (by omega) dL_law_1355 ?_
  refine lv_aload_n hx hb dL_law_1356 rfl (lv_at hl 3 rfl) ?_
  refine UC.callSW (As := .ref x :: ([.int (xs (i + 1))] ++ [.ref o])) S hU (vx_cwSW 3 hts gL_law_L_entries rfl rfl rfl (by decide +kernel) ⟨(by show dd + 1 ≤ 2048; omega), (by show 8 + (4 + 11) + 40 * dd ≤ 84000; omega)⟩) hK eL_bl (fun U hW hU9 => eL.use hE0 hS hW hU9 hFA hFA2) hS hFA2 rfl hl.1 rfl (Nat.le_of_ble_eq_true rfl) dL_law_1357 ⟨(by show cells + mc ≤ 601024; omega), (by show slots + ms ≤ 7293034; omega)⟩ (fun v H1 locs hB hS hsz hkp => ?_)
  obtain ⟨rfl, hC1, w1, hO1, hw1⟩ := hB
  have hmd : mdB D Y A th mi ju lo rs H1 := hmd.kept (fun j hj hq => hkp (A j) hq (fun z => z.elim (hFx.2.1 j hj).1 (hFx.2.1 j hj).2.1))
  refine W.widen (k := cells + 40) (n := slots + 120) (by omega) (by omega) ?_
  refine lv_istore (lv' := [(5, .int (nI k)), (0, .ref b), (1, .ref x), (2, .ref (A 0)), (3, .ref o), (4, .int (nI i))]) hx hb dL_law_1360 hl (by decide) rfl (fun ls hl => ?_)
  refine lv_aload_n hx hb dL_law_1362 rfl (lv_at hl 3 rfl) ?_
  refine lv_aload_n hx hb dL_law_1363 rfl (lv_at hl 1 rfl) ?_
  refine lv_iload hx hb dL_law_1364 (lv_at hl 5 rfl) ?_
  refine lv_iconst (v := nI 1) hx hb dL_law_1366 (by decide +kernel) ?_
  refine nr_iadd hx hb dL_law_1367 ?_
  refine nr_sld (j := i + 1) hx hb hXd hbl hbA hS (by omega) (by omega) dL_law_1368 ?_
  obtain ⟨f, bf, ca, bg, sz, hf, hPm⟩ := hmd
  refine MuI.callV (r := r) (As := [.int (xs (i + 1))]) S (hM th f bf ca bg sz hf) (cwV 1 hts gL_law_X3_entries rfl rfl rfl (by decide +kernel) ⟨(by show dm + 1 ≤ 2048; omega), (by show 8 + (2 + 11) + 40 * dm ≤ 84000; omega)⟩) hK hPm (wM_D hFx th _ mi ju lo f bf ca bg sz) hS (va_recv hK.1 hPm (ci := 3) (q0 := 0) rfl rfl) rfl hl.1 rfl (Nat.le_of_ble_eq_true rfl) dL_law_1369 ⟨(by show _ ≤ 601024; omega), (by show _ ≤ 7293034; omega)⟩ (fun H2 locs hB2 hS hsz2 hkp2 => ?_)
  have hC2 := hC1.kept (fun q hq hFq => hkp2 q hq (fun z => by obtain ⟨i9, h9, e9⟩ := wM_adr z; exact (hFx.2.1 i9 h9).1 (e9 ▸ hFq)))
  have hO2 := hO1.kept (hkp2 o hO1.lt (fun z => by obtain ⟨i9, h9, e9⟩ := wM_adr z; exact (hFx.2.1 i9 h9).2.1 e9.symm))
  have hFr2 : ∀ q, H2.size ≤ q → F q := fun q hq => hFr q (by omega)
  refine lv_istore (lv' := [(6, .int r), (5, .int (nI k)), (0, .ref b), (1, .ref x), (2, .ref (A 0)), (3, .ref o), (4, .int (nI i))]) hx hb dL_law_1372 hl (by decide) rfl (fun ls hl => ?_)
  refine lv_aload_n hx hb dL_law_1374 rfl (lv_at hl 4 rfl) ?_
  obtain ⟨f2, bf2, ca2, bg2, sz2, hf2, hP2⟩ := id hB2
  refine Rd.callV (r := nI k) (As := []) S (k_X3_thrown l hP2) (cwV 0 hts gL_law_X3_thrown rfl rfl rfl (by decide +kernel) ⟨Nat.le_of_ble_eq_true rfl, Nat.le_of_ble_eq_true rfl⟩) hK (va_recv hK.1 hP2 (ci := 3) (q0 := 0) rfl rfl) rfl hl.1 rfl (Nat.le_of_ble_eq_true rfl) dL_law_1375 ⟨(by show _ ≤ 601024; omega), (by show _ ≤ 7293034; omega)⟩ ?_
  refine lv_iload hx hb dL_law_1378 (lv_at hl 1 rfl) ?_
  refine lv_icmp_eq (tgt := 1385) hx hb dL_law_1380 (by decide) (fun _ => ?_) (fun z => absurd rfl z)
  refine lv_iload hx hb dL_law_1385 (lv_at hl 1 rfl) ?_
  refine nr_if_ne (a := k) (tgt := 1402) hx hb (by omega) dL_law_1387 (by decide) (fun ck => ?_) (fun ck => ?_)
  · refine lv_goto (tgt := 1554) hx hb dL_law_1402 (by decide) ?_
    exact hN d0 ju2 mi2 lo2 rs2 H2 locs ls hd0 ⟨hC2, ⟨_, hB2⟩, ⟨_, hO2⟩, hFr2⟩ hS (lv_sub hl [2, 3, 4, 5, 6] rfl)
  · subst ck
    have hw2 := hw rfl
    rw [hw1 rfl, hw2] at hO2
    refine lv_aload_n hx hb dL_law_1390 rfl (lv_at hl 5 rfl) ?_
    refine lv_iconst (v := nI 0) hx hb dL_law_1391 (by decide +kernel) ?_
    refine nr_lald0 S hK hO2 dL_law_1392 ?_
    refine lv_iload hx hb dL_law_1393 (lv_at hl 0 rfl) ?_
    refine lv_i2l (v := r.toInt64) hx hb dL_law_1395 rfl ?_
    refine W.lcmp hx hb dL_law_1396 ?_
    refine lv_if_eq (tgt := 1402) hx hb dL_law_1397 (by decide) (fun _ => ?_) (fun z => absurd (lg_cmp_self _) z)
    refine lv_goto (tgt := 1554) hx hb dL_law_1402 (by decide) ?_
    exact hN d0 ju2 mi2 lo2 rs2 H2 locs ls hd0 ⟨hC2, ⟨_, hB2⟩, ⟨_, hO2⟩, hFr2⟩ hS (lv_sub hl [2, 3, 4, 5, 6] rfl)
set_option maxHeartbeats 4000000 in
set_option maxRecDepth 100000 in
theorem lc_entryValue {p : Program} {l : Launch} {e : Env} {s : State} {m : MethodId} {below : List Frame} {meth : Method} {c : Code} {b L : Nat} {xs : Nat → Int32} {D : va_G} {Y : Nat → ClassId} {F : Nat → Prop} {t0 la x na o : Nat} {A : Nat → Nat} (hEn : LEn l p s m meth c b L xs D Y F t0 o A) {i cells slots : Nat} (hi : i + 7 ≤ L) (hc : cells + 40 ≤ 601024) (hs : slots + 120 ≤ 7293034) (hN : LNx p l e s m below meth c b D Y F t0 la x na o A i (cells + 40) (slots + 120)) {d0 : Drawn} (hd0 : s.drawn.sameBut d0 lw_cs) {ju mi lo : Int32} {rs : List RV} {H : Heap} {locs : List Loc} {ls : Array Slot} (hLS : LwS D Y F t0 la x na o A ju mi lo rs H) (hS : va_S (bigA s) s.heap H locs) (hl : lv_has ls 9 (lwL b x (A 0) o i)) : lwW p l e s m below meth c b d0 H locs cells slots (F0 m 1405 ls []) := by
  obtain ⟨C0, hK0, hE0, hFx, hlt, hL⟩ := hEn
  obtain ⟨hx, hb, hr, hml, hown, hts0, hXs, hbl, hlocks, hgv⟩ := id C0
  have hts : ∀ w ∈ wsL_law, w.before #[Value.ref b] (s.setDrawn d0) = true := dr_words (fun w h => hts0 w (wsL_law_in w h)) d0
  have S : CallFix p m c cL_law 9 (s.setDrawn d0) #[Value.ref b] wsL_law RL := ⟨hx, hb, hml, hown, hts⟩
  have hK := hK0.drawn d0
  have hXd : va_X b L xs (s.setDrawn d0) s.heap := va_X.moved (u := s) (U := s.setDrawn d0) (Vm.Alike.refl s.vm) hXs
  have hbA : ¬ bigA s b := Nat.not_le.mpr hbl
  obtain ⟨hC, ⟨th, hmd⟩, ⟨w0, hO⟩, hFr⟩ := hLS
  have hFA : ∀ q, F q → bigA s q := hFx.2.2.2.1
  have hFA2 : ∀ q, (F q ∨ q = o) → bigA s q := fun q h => h.elim (hFA q) (fun z => by rw [z]; exact hFx.2.2.2.2)
  obtain ⟨k, r, w, rs2, ju2, mi2, lo2, dd, mc, ms, dm, hbd, hU, hM, hw⟩ := sp_entryValue l hlt (D := D) (Y := Y) (F := F) (t0 := t0) (la := la) (x := x) (na := na) (o := o) (A := A) (xs (i + 1)) (xs (i + 2)) ju mi lo rs H w0 hC hFr hFx.1 hO
  have hl : lv_has ls 9 [(0, .ref b), (1, .ref x), (2, .ref (A 0)), (3, .ref o), (4, .int (nI i))] := hl
  refine lv_aload_n hx hb dL_law_1405 rfl (lv_at hl 1 rfl) ?_
  refine lv_aload_n hx hb dL_law_1406 rfl (lv_at hl 0 rfl) ?_
  refine lv_iload hx hb dL_law_1407 (lv_at hl 4 rfl) ?_
  refine lv_iconst (v := nI 1) hx hb dL_law_1409 (by decide +kernel) ?_
  refine nr_iadd hx hb dL_law_1410 ?_
  refine nr_sld (j := i + 1) hx hb hXd hbl hbA hS (by omega) (by omega) dL_law_1411 ?_
  refine lv_aload_n hx hb dL_law_1412 rfl (lv_at hl 0 rfl) ?_
  refine lv_iload hx hb dL_law_1413 (lv_at hl 4 rfl) ?_
  refine lv_iconst (v := nI 2) hx hb dL_law_1415 (by decide +kernel) ?_
  refine nr_iadd hx hb dL_law_1416 ?_
  refine nr_sld (j := i + 2) hx hb hXd hbl hbA hS (by omega) (by omega) dL_law_1417 ?_
  refine lv_aload_n hx hb dL_law_1418 rfl (lv_at hl 3 rfl) ?_
  refine UC.callSW (As := .ref x :: ([.int (xs (i + 1)), .int (xs (i + 2))] ++ [.ref o])) S hU (vx_cwSW 4 hts gL_law_L_entryValue rfl rfl rfl (by decide +kernel) ⟨(by show dd + 1 ≤ 2048; omega), (by show 8 + (5 + 11) + 40 * dd ≤ 84000; omega)⟩) hK eL_bl (fun U hW hU9 => eL.use hE0 hS hW hU9 hFA hFA2) hS hFA2 rfl hl.1 rfl (Nat.le_of_ble_eq_true rfl) dL_law_1419 ⟨(by show cells + mc ≤ 601024; omega), (by show slots + ms ≤ 7293034; omega)⟩ (fun v H1 locs hB hS hsz hkp => ?_)
  obtain ⟨rfl, hC1, w1, hO1, hw1⟩ := hB
  have hmd : mdB D Y A th mi ju lo rs H1 := hmd.kept (fun j hj hq => hkp (A j) hq (fun z => z.elim (hFx.2.1 j hj).1 (hFx.2.1 j hj).2.1))
  refine W.widen (k := cells + 40) (n := slots + 120) (by omega) (by omega) ?_
  refine lv_istore (lv' := [(5, .int (nI k)), (0, .ref b), (1, .ref x), (2, .ref (A 0)), (3, .ref o), (4, .int (nI i))]) hx hb dL_law_1422 hl (by decide) rfl (fun ls hl => ?_)
  refine lv_aload_n hx hb dL_law_1424 rfl (lv_at hl 3 rfl) ?_
  refine lv_aload_n hx hb dL_law_1425 rfl (lv_at hl 1 rfl) ?_
  refine lv_iload hx hb dL_law_1426 (lv_at hl 5 rfl) ?_
  refine lv_iconst (v := nI 1) hx hb dL_law_1428 (by decide +kernel) ?_
  refine nr_iadd hx hb dL_law_1429 ?_
  refine nr_sld (j := i + 1) hx hb hXd hbl hbA hS (by omega) (by omega) dL_law_1430 ?_
  refine lv_aload_n hx hb dL_law_1431 rfl (lv_at hl 1 rfl) ?_
  refine lv_iload hx hb dL_law_1432 (lv_at hl 5 rfl) ?_
  refine lv_iconst (v := nI 2) hx hb dL_law_1434 (by decide +kernel) ?_
  refine nr_iadd hx hb dL_law_1435 ?_
  refine nr_sld (j := i + 2) hx hb hXd hbl hbA hS (by omega) (by omega) dL_law_1436 ?_
  obtain ⟨f, bf, ca, bg, sz, hf, hPm⟩ := hmd
  refine MuI.callV (r := r) (As := [.int (xs (i + 1)), .int (xs (i + 2))]) S (hM th f bf ca bg sz hf) (cwV 2 hts gL_law_X3_entryValue rfl rfl rfl (by decide +kernel) ⟨(by show dm + 1 ≤ 2048; omega), (by show 8 + (3 + 11) + 40 * dm ≤ 84000; omega)⟩) hK hPm (wM_D hFx th _ mi ju lo f bf ca bg sz) hS (va_recv hK.1 hPm (ci := 3) (q0 := 0) rfl rfl) rfl hl.1 rfl (Nat.le_of_ble_eq_true rfl) dL_law_1437 ⟨(by show _ ≤ 601024; omega), (by show _ ≤ 7293034; omega)⟩ (fun H2 locs hB2 hS hsz2 hkp2 => ?_)
  have hC2 := hC1.kept (fun q hq hFq => hkp2 q hq (fun z => by obtain ⟨i9, h9, e9⟩ := wM_adr z; exact (hFx.2.1 i9 h9).1 (e9 ▸ hFq)))
  have hO2 := hO1.kept (hkp2 o hO1.lt (fun z => by obtain ⟨i9, h9, e9⟩ := wM_adr z; exact (hFx.2.1 i9 h9).2.1 e9.symm))
  have hFr2 : ∀ q, H2.size ≤ q → F q := fun q hq => hFr q (by omega)
  refine lv_istore (lv' := [(6, .int r), (5, .int (nI k)), (0, .ref b), (1, .ref x), (2, .ref (A 0)), (3, .ref o), (4, .int (nI i))]) hx hb dL_law_1440 hl (by decide) rfl (fun ls hl => ?_)
  refine lv_aload_n hx hb dL_law_1442 rfl (lv_at hl 4 rfl) ?_
  obtain ⟨f2, bf2, ca2, bg2, sz2, hf2, hP2⟩ := id hB2
  refine Rd.callV (r := nI k) (As := []) S (k_X3_thrown l hP2) (cwV 0 hts gL_law_X3_thrown rfl rfl rfl (by decide +kernel) ⟨Nat.le_of_ble_eq_true rfl, Nat.le_of_ble_eq_true rfl⟩) hK (va_recv hK.1 hP2 (ci := 3) (q0 := 0) rfl rfl) rfl hl.1 rfl (Nat.le_of_ble_eq_true rfl) dL_law_1443 ⟨(by show _ ≤ 601024; omega), (by show _ ≤ 7293034; omega)⟩ ?_
  refine lv_iload hx hb dL_law_1446 (lv_at hl 1 rfl) ?_
  refine lv_icmp_eq (tgt := 1453) hx hb dL_law_1448 (by decide) (fun _ => ?_) (fun z => absurd rfl z)
  refine lv_iload hx hb dL_law_1453 (lv_at hl 1 rfl) ?_
  refine nr_if_ne (a := k) (tgt := 1470) hx hb (by omega) dL_law_1455 (by decide) (fun ck => ?_) (fun ck => ?_)
  · refine lv_goto (tgt := 1554) hx hb dL_law_1470 (by decide) ?_
    exact hN d0 ju2 mi2 lo2 rs2 H2 locs ls hd0 ⟨hC2, ⟨_, hB2⟩, ⟨_, hO2⟩, hFr2⟩ hS (lv_sub hl [2, 3, 4, 5, 6] rfl)
  · subst ck
    have hw2 := hw rfl
    rw [hw1 rfl, hw2] at hO2
    refine lv_aload_n hx hb dL_law_1458 rfl (lv_at hl 5 rfl) ?_
    refine lv_iconst (v := nI 0) hx hb dL_law_1459 (by decide +kernel) ?_
    refine nr_lald0 S hK hO2 dL_law_1460 ?_
    refine lv_iload hx hb dL_law_1461 (lv_at hl 0 rfl) ?_
    refine lv_i2l (v := r.toInt64) hx hb dL_law_1463 rfl ?_
    refine W.lcmp hx hb dL_law_1464 ?_
    refine lv_if_eq (tgt := 1470) hx hb dL_law_1465 (by decide) (fun _ => ?_) (fun z => absurd (lg_cmp_self _) z)
    refine lv_goto (tgt := 1554) hx hb dL_law_1470 (by decide) ?_
    exact hN d0 ju2 mi2 lo2 rs2 H2 locs ls hd0 ⟨hC2, ⟨_, hB2⟩, ⟨_, hO2⟩, hFr2⟩ hS (lv_sub hl [2, 3, 4, 5, 6] rfl)
set_option maxHeartbeats 4000000 in
set_option maxRecDepth 100000 in
theorem lc_entryMask {p : Program} {l : Launch} {e : Env} {s : State} {m : MethodId} {below : List Frame} {meth : Method} {c : Code} {b L : Nat} {xs : Nat → Int32} {D : va_G} {Y : Nat → ClassId} {F : Nat → Prop} {t0 la x na o : Nat} {A : Nat → Nat} (hEn : LEn l p s m meth c b L xs D Y F t0 o A) {i cells slots : Nat} (hi : i + 7 ≤ L) (hc : cells + 40 ≤ 601024) (hs : slots + 120 ≤ 7293034) (hN : LNx p l e s m below meth c b D Y F t0 la x na o A i (cells + 40) (slots + 120)) {d0 : Drawn} (hd0 : s.drawn.sameBut d0 lw_cs) {ju mi lo : Int32} {rs : List RV} {H : Heap} {locs : List Loc} {ls : Array Slot} (hLS : LwS D Y F t0 la x na o A ju mi lo rs H) (hS : va_S (bigA s) s.heap H locs) (hl : lv_has ls 9 (lwL b x (A 0) o i)) : lwW p l e s m below meth c b d0 H locs cells slots (F0 m 1473 ls []) := by
  obtain ⟨C0, hK0, hE0, hFx, hlt, hL⟩ := hEn
  obtain ⟨hx, hb, hr, hml, hown, hts0, hXs, hbl, hlocks, hgv⟩ := id C0
  have hts : ∀ w ∈ wsL_law, w.before #[Value.ref b] (s.setDrawn d0) = true := dr_words (fun w h => hts0 w (wsL_law_in w h)) d0
  have S : CallFix p m c cL_law 9 (s.setDrawn d0) #[Value.ref b] wsL_law RL := ⟨hx, hb, hml, hown, hts⟩
  have hK := hK0.drawn d0
  have hXd : va_X b L xs (s.setDrawn d0) s.heap := va_X.moved (u := s) (U := s.setDrawn d0) (Vm.Alike.refl s.vm) hXs
  have hbA : ¬ bigA s b := Nat.not_le.mpr hbl
  obtain ⟨hC, ⟨th, hmd⟩, ⟨w0, hO⟩, hFr⟩ := hLS
  have hFA : ∀ q, F q → bigA s q := hFx.2.2.2.1
  have hFA2 : ∀ q, (F q ∨ q = o) → bigA s q := fun q h => h.elim (hFA q) (fun z => by rw [z]; exact hFx.2.2.2.2)
  obtain ⟨k, r, w, rs2, ju2, mi2, lo2, dd, mc, ms, dm, hbd, hU, hM, hw⟩ := sp_entryMask l hlt (D := D) (Y := Y) (F := F) (t0 := t0) (la := la) (x := x) (na := na) (o := o) (A := A) (xs (i + 1)) (xs (i + 2)) ju mi lo rs H w0 hC hFr hFx.1 hO
  have hl : lv_has ls 9 [(0, .ref b), (1, .ref x), (2, .ref (A 0)), (3, .ref o), (4, .int (nI i))] := hl
  refine lv_aload_n hx hb dL_law_1473 rfl (lv_at hl 1 rfl) ?_
  refine lv_aload_n hx hb dL_law_1474 rfl (lv_at hl 0 rfl) ?_
  refine lv_iload hx hb dL_law_1475 (lv_at hl 4 rfl) ?_
  refine lv_iconst (v := nI 1) hx hb dL_law_1477 (by decide +kernel) ?_
  refine nr_iadd hx hb dL_law_1478 ?_
  refine nr_sld (j := i + 1) hx hb hXd hbl hbA hS (by omega) (by omega) dL_law_1479 ?_
  refine lv_aload_n hx hb dL_law_1480 rfl (lv_at hl 0 rfl) ?_
  refine lv_iload hx hb dL_law_1481 (lv_at hl 4 rfl) ?_
  refine lv_iconst (v := nI 2) hx hb dL_law_1483 (by decide +kernel) ?_
  refine nr_iadd hx hb dL_law_1484 ?_
  refine nr_sld (j := i + 2) hx hb hXd hbl hbA hS (by omega) (by omega) dL_law_1485 ?_
  refine lv_aload_n hx hb dL_law_1486 rfl (lv_at hl 3 rfl) ?_
  refine UC.callSW (As := .ref x :: ([.int (xs (i + 1)), .int (xs (i + 2))] ++ [.ref o])) S hU (vx_cwSW 4 hts gL_law_L_entryMask rfl rfl rfl (by decide +kernel) ⟨(by show dd + 1 ≤ 2048; omega), (by show 8 + (5 + 11) + 40 * dd ≤ 84000; omega)⟩) hK eL_bl (fun U hW hU9 => eL.use hE0 hS hW hU9 hFA hFA2) hS hFA2 rfl hl.1 rfl (Nat.le_of_ble_eq_true rfl) dL_law_1487 ⟨(by show cells + mc ≤ 601024; omega), (by show slots + ms ≤ 7293034; omega)⟩ (fun v H1 locs hB hS hsz hkp => ?_)
  obtain ⟨rfl, hC1, w1, hO1, hw1⟩ := hB
  have hmd : mdB D Y A th mi ju lo rs H1 := hmd.kept (fun j hj hq => hkp (A j) hq (fun z => z.elim (hFx.2.1 j hj).1 (hFx.2.1 j hj).2.1))
  refine W.widen (k := cells + 40) (n := slots + 120) (by omega) (by omega) ?_
  refine lv_istore (lv' := [(5, .int (nI k)), (0, .ref b), (1, .ref x), (2, .ref (A 0)), (3, .ref o), (4, .int (nI i))]) hx hb dL_law_1490 hl (by decide) rfl (fun ls hl => ?_)
  refine lv_aload_n hx hb dL_law_1492 rfl (lv_at hl 3 rfl) ?_
  refine lv_aload_n hx hb dL_law_1493 rfl (lv_at hl 1 rfl) ?_
  refine lv_iload hx hb dL_law_1494 (lv_at hl 5 rfl) ?_
  refine lv_iconst (v := nI 1) hx hb dL_law_1496 (by decide +kernel) ?_
  refine nr_iadd hx hb dL_law_1497 ?_
  refine nr_sld (j := i + 1) hx hb hXd hbl hbA hS (by omega) (by omega) dL_law_1498 ?_
  refine lv_aload_n hx hb dL_law_1499 rfl (lv_at hl 1 rfl) ?_
  refine lv_iload hx hb dL_law_1500 (lv_at hl 5 rfl) ?_
  refine lv_iconst (v := nI 2) hx hb dL_law_1502 (by decide +kernel) ?_
  refine nr_iadd hx hb dL_law_1503 ?_
  refine nr_sld (j := i + 2) hx hb hXd hbl hbA hS (by omega) (by omega) dL_law_1504 ?_
  obtain ⟨f, bf, ca, bg, sz, hf, hPm⟩ := hmd
  refine MuI.callV (r := r) (As := [.int (xs (i + 1)), .int (xs (i + 2))]) S (hM th f bf ca bg sz hf) (cwV 2 hts gL_law_X3_entryMask rfl rfl rfl (by decide +kernel) ⟨(by show dm + 1 ≤ 2048; omega), (by show 8 + (3 + 11) + 40 * dm ≤ 84000; omega)⟩) hK hPm (wM_D hFx th _ mi ju lo f bf ca bg sz) hS (va_recv hK.1 hPm (ci := 3) (q0 := 0) rfl rfl) rfl hl.1 rfl (Nat.le_of_ble_eq_true rfl) dL_law_1505 ⟨(by show _ ≤ 601024; omega), (by show _ ≤ 7293034; omega)⟩ (fun H2 locs hB2 hS hsz2 hkp2 => ?_)
  have hC2 := hC1.kept (fun q hq hFq => hkp2 q hq (fun z => by obtain ⟨i9, h9, e9⟩ := wM_adr z; exact (hFx.2.1 i9 h9).1 (e9 ▸ hFq)))
  have hO2 := hO1.kept (hkp2 o hO1.lt (fun z => by obtain ⟨i9, h9, e9⟩ := wM_adr z; exact (hFx.2.1 i9 h9).2.1 e9.symm))
  have hFr2 : ∀ q, H2.size ≤ q → F q := fun q hq => hFr q (by omega)
  refine lv_istore (lv' := [(6, .int r), (5, .int (nI k)), (0, .ref b), (1, .ref x), (2, .ref (A 0)), (3, .ref o), (4, .int (nI i))]) hx hb dL_law_1508 hl (by decide) rfl (fun ls hl => ?_)
  refine lv_aload_n hx hb dL_law_1510 rfl (lv_at hl 4 rfl) ?_
  obtain ⟨f2, bf2, ca2, bg2, sz2, hf2, hP2⟩ := id hB2
  refine Rd.callV (r := nI k) (As := []) S (k_X3_thrown l hP2) (cwV 0 hts gL_law_X3_thrown rfl rfl rfl (by decide +kernel) ⟨Nat.le_of_ble_eq_true rfl, Nat.le_of_ble_eq_true rfl⟩) hK (va_recv hK.1 hP2 (ci := 3) (q0 := 0) rfl rfl) rfl hl.1 rfl (Nat.le_of_ble_eq_true rfl) dL_law_1511 ⟨(by show _ ≤ 601024; omega), (by show _ ≤ 7293034; omega)⟩ ?_
  refine lv_iload hx hb dL_law_1514 (lv_at hl 1 rfl) ?_
  refine lv_icmp_eq (tgt := 1521) hx hb dL_law_1516 (by decide) (fun _ => ?_) (fun z => absurd rfl z)
  refine lv_iload hx hb dL_law_1521 (lv_at hl 1 rfl) ?_
  refine nr_if_ne (a := k) (tgt := 1538) hx hb (by omega) dL_law_1523 (by decide) (fun ck => ?_) (fun ck => ?_)
  · refine lv_goto (tgt := 1554) hx hb dL_law_1538 (by decide) ?_
    exact hN d0 ju2 mi2 lo2 rs2 H2 locs ls hd0 ⟨hC2, ⟨_, hB2⟩, ⟨_, hO2⟩, hFr2⟩ hS (lv_sub hl [2, 3, 4, 5, 6] rfl)
  · subst ck
    have hw2 := hw rfl
    rw [hw1 rfl, hw2] at hO2
    refine lv_aload_n hx hb dL_law_1526 rfl (lv_at hl 5 rfl) ?_
    refine lv_iconst (v := nI 0) hx hb dL_law_1527 (by decide +kernel) ?_
    refine nr_lald0 S hK hO2 dL_law_1528 ?_
    refine lv_iload hx hb dL_law_1529 (lv_at hl 0 rfl) ?_
    refine lv_i2l (v := r.toInt64) hx hb dL_law_1531 rfl ?_
    refine W.lcmp hx hb dL_law_1532 ?_
    refine lv_if_eq (tgt := 1538) hx hb dL_law_1533 (by decide) (fun _ => ?_) (fun z => absurd (lg_cmp_self _) z)
    refine lv_goto (tgt := 1554) hx hb dL_law_1538 (by decide) ?_
    exact hN d0 ju2 mi2 lo2 rs2 H2 locs ls hd0 ⟨hC2, ⟨_, hB2⟩, ⟨_, hO2⟩, hFr2⟩ hS (lv_sub hl [2, 3, 4, 5, 6] rfl)
