/-! the law, call by call: without a helper -/
set_option maxHeartbeats 4000000 in
set_option maxRecDepth 100000 in
theorem lc_rules {p : Program} {l : Launch} {e : Env} {s : State} {m : MethodId} {below : List Frame} {meth : Method} {c : Code} {b L : Nat} {xs : Nat → Int32} {D : va_G} {Y : Nat → ClassId} {F : Nat → Prop} {t0 la x na o : Nat} {A : Nat → Nat} (hEn : LEn l p s m meth c b L xs D Y F t0 o A) {i cells slots : Nat} (hi : i + 7 ≤ L) (hc : cells + 40 ≤ 601024) (hs : slots + 120 ≤ 7293034) (hN : LNx p l e s m below meth c b D Y F t0 la x na o A i (cells + 40) (slots + 120)) {d0 : Drawn} (hd0 : s.drawn.sameBut d0 lw_cs) {ju mi lo : Int32} {rs : List RV} {H : Heap} {locs : List Loc} {ls : Array Slot} (hLS : LwS D Y F t0 la x na o A ju mi lo rs H) (hS : va_S (bigA s) s.heap H locs) (hl : lv_has ls 9 (lwL b x (A 0) o i)) : lwW p l e s m below meth c b d0 H locs cells slots (F0 m 418 ls []) := by
  obtain ⟨C0, hK0, hE0, hFx, hlt, hL⟩ := hEn
  obtain ⟨hx, hb, hr, hml, hown, hts0, hXs, hbl, hlocks, hgv⟩ := id C0
  have hts : ∀ w ∈ wsL_law, w.before #[Value.ref b] (s.setDrawn d0) = true := dr_words (fun w h => hts0 w (wsL_law_in w h)) d0
  have S : CallFix p m c cL_law 9 (s.setDrawn d0) #[Value.ref b] wsL_law RL := ⟨hx, hb, hml, hown, hts⟩
  have hK := hK0.drawn d0
  have hXd : va_X b L xs (s.setDrawn d0) s.heap := va_X.moved (u := s) (U := s.setDrawn d0) (Vm.Alike.refl s.vm) hXs
  have hbA : ¬ bigA s b := Nat.not_le.mpr hbl
  obtain ⟨hC, ⟨th, hmd⟩, ⟨w0, hO⟩, hFr⟩ := hLS
  have hFA : ∀ q, F q → bigA s q := hFx.2.2.2.1
  have hFA2 : ∀ q, (F q ∨ q = o) → bigA s q := fun q h => h.elim (hFA q) (fun z => by rw [z]; exact hFx.2.2.2.2)
  obtain ⟨r, rs2, dd, mc, ms, dm, hbd, hU, hM⟩ := sp_rules l (D := D) (Y := Y) (F := F) (t0 := t0) (la := la) (x := x) (na := na) (A := A) ju mi lo rs H hC hFr
  obtain ⟨ea, cap, mod, es, nt, Lr, hA, -⟩ := hC.rd
  have hl : lv_has ls 9 [(0, .ref b), (1, .ref x), (2, .ref (A 0)), (3, .ref o), (4, .int (nI i))] := hl
  refine lv_aload_n hx hb dL_law_418 rfl (lv_at hl 1 rfl) ?_
  refine UC.callV (As := []) S hU (cwV 0 hts gL_law_X2_rules rfl rfl rfl (by decide +kernel) ⟨(by show dd + 1 ≤ 2048; omega), (by show 8 + (1 + 11) + 40 * dd ≤ 84000; omega)⟩) hK eT_bl (fun _ _ _ => trivial) hS hFA (va_recv hK.1 hA.1 (ci := 2) (q0 := 0) rfl rfl) rfl hl.1 rfl (Nat.le_of_ble_eq_true rfl) dL_law_419 ⟨(by show cells + mc ≤ 601024; omega), (by show slots + ms ≤ 7293034; omega)⟩ (fun v H1 locs hB hS hsz hkp => ?_)
  obtain ⟨rfl, hC1⟩ := hB
  have hmd : mdB D Y A th mi ju lo rs H1 := hmd.kept (fun j hj hq => hkp (A j) hq (hFx.2.1 j hj).1)
  have hO1 := hO.kept (hkp o hO.lt hFx.1)
  refine W.widen (k := cells + 40) (n := slots + 120) (by omega) (by omega) ?_
  refine lv_aload_n hx hb dL_law_422 rfl (lv_at hl 2 rfl) ?_
  obtain ⟨f, bf, ca, bg, sz, hf, hPm⟩ := hmd
  refine MuI.callV (r := r) (As := []) S (hM th f bf ca bg sz hf) (cwV 0 hts gL_law_X3_rules rfl rfl rfl (by decide +kernel) ⟨(by show dm + 1 ≤ 2048; omega), (by show 8 + (1 + 11) + 40 * dm ≤ 84000; omega)⟩) hK hPm (wM_D hFx th _ mi ju lo f bf ca bg sz) hS (va_recv hK.1 hPm (ci := 3) (q0 := 0) rfl rfl) rfl hl.1 rfl (Nat.le_of_ble_eq_true rfl) dL_law_423 ⟨(by show _ ≤ 601024; omega), (by show _ ≤ 7293034; omega)⟩ (fun H2 locs hB2 hS hsz2 hkp2 => ?_)
  have hC2 := hC1.kept (fun q hq hFq => hkp2 q hq (fun z => by obtain ⟨i9, h9, e9⟩ := wM_adr z; exact (hFx.2.1 i9 h9).1 (e9 ▸ hFq)))
  have hO2 := hO1.kept (hkp2 o hO1.lt (fun z => by obtain ⟨i9, h9, e9⟩ := wM_adr z; exact (hFx.2.1 i9 h9).2.1 e9.symm))
  have hFr2 : ∀ q, H2.size ≤ q → F q := fun q hq => hFr q (by omega)
  refine lv_icmp_eq (tgt := 1554) hx hb dL_law_426 (by decide) (fun _ => ?_) (fun z => absurd rfl z)
  exact hN d0 ju mi lo rs2 H2 locs ls hd0 ⟨hC2, ⟨_, hB2⟩, ⟨_, hO2⟩, hFr2⟩ hS (lv_sub hl [0, 1, 2, 3, 4] rfl)
set_option maxHeartbeats 4000000 in
set_option maxRecDepth 100000 in
theorem lc_misses {p : Program} {l : Launch} {e : Env} {s : State} {m : MethodId} {below : List Frame} {meth : Method} {c : Code} {b L : Nat} {xs : Nat → Int32} {D : va_G} {Y : Nat → ClassId} {F : Nat → Prop} {t0 la x na o : Nat} {A : Nat → Nat} (hEn : LEn l p s m meth c b L xs D Y F t0 o A) {i cells slots : Nat} (hi : i + 7 ≤ L) (hc : cells + 40 ≤ 601024) (hs : slots + 120 ≤ 7293034) (hN : LNx p l e s m below meth c b D Y F t0 la x na o A i (cells + 40) (slots + 120)) {d0 : Drawn} (hd0 : s.drawn.sameBut d0 lw_cs) {ju mi lo : Int32} {rs : List RV} {H : Heap} {locs : List Loc} {ls : Array Slot} (hLS : LwS D Y F t0 la x na o A ju mi lo rs H) (hS : va_S (bigA s) s.heap H locs) (hl : lv_has ls 9 (lwL b x (A 0) o i)) : lwW p l e s m below meth c b d0 H locs cells slots (F0 m 885 ls []) := by
  obtain ⟨C0, hK0, hE0, hFx, hlt, hL⟩ := hEn
  obtain ⟨hx, hb, hr, hml, hown, hts0, hXs, hbl, hlocks, hgv⟩ := id C0
  have hts : ∀ w ∈ wsL_law, w.before #[Value.ref b] (s.setDrawn d0) = true := dr_words (fun w h => hts0 w (wsL_law_in w h)) d0
  have S : CallFix p m c cL_law 9 (s.setDrawn d0) #[Value.ref b] wsL_law RL := ⟨hx, hb, hml, hown, hts⟩
  have hK := hK0.drawn d0
  have hXd : va_X b L xs (s.setDrawn d0) s.heap := va_X.moved (u := s) (U := s.setDrawn d0) (Vm.Alike.refl s.vm) hXs
  have hbA : ¬ bigA s b := Nat.not_le.mpr hbl
  obtain ⟨hC, ⟨th, hmd⟩, ⟨w0, hO⟩, hFr⟩ := hLS
  have hFA : ∀ q, F q → bigA s q := hFx.2.2.2.1
  have hFA2 : ∀ q, (F q ∨ q = o) → bigA s q := fun q h => h.elim (hFA q) (fun z => by rw [z]; exact hFx.2.2.2.2)
  obtain ⟨r, rs2, dd, mc, ms, dm, hbd, hU, hM⟩ := sp_misses l (D := D) (Y := Y) (F := F) (t0 := t0) (la := la) (x := x) (na := na) (A := A) ju mi lo rs H hC hFr
  obtain ⟨ea, cap, mod, es, nt, Lr, hA, -⟩ := hC.rd
  have hl : lv_has ls 9 [(0, .ref b), (1, .ref x), (2, .ref (A 0)), (3, .ref o), (4, .int (nI i))] := hl
  refine lv_aload_n hx hb dL_law_885 rfl (lv_at hl 1 rfl) ?_
  refine UC.callV (As := []) S hU (cwV 0 hts gL_law_X2_misses rfl rfl rfl (by decide +kernel) ⟨(by show dd + 1 ≤ 2048; omega), (by show 8 + (1 + 11) + 40 * dd ≤ 84000; omega)⟩) hK eT_bl (fun _ _ _ => trivial) hS hFA (va_recv hK.1 hA.1 (ci := 2) (q0 := 0) rfl rfl) rfl hl.1 rfl (Nat.le_of_ble_eq_true rfl) dL_law_886 ⟨(by show cells + mc ≤ 601024; omega), (by show slots + ms ≤ 7293034; omega)⟩ (fun v H1 locs hB hS hsz hkp => ?_)
  obtain ⟨rfl, hC1⟩ := hB
  have hmd : mdB D Y A th mi ju lo rs H1 := hmd.kept (fun j hj hq => hkp (A j) hq (hFx.2.1 j hj).1)
  have hO1 := hO.kept (hkp o hO.lt hFx.1)
  refine W.widen (k := cells + 40) (n := slots + 120) (by omega) (by omega) ?_
  refine lv_aload_n hx hb dL_law_889 rfl (lv_at hl 2 rfl) ?_
  obtain ⟨f, bf, ca, bg, sz, hf, hPm⟩ := hmd
  refine MuI.callV (r := r) (As := []) S (hM th f bf ca bg sz hf) (cwV 0 hts gL_law_X3_misses rfl rfl rfl (by decide +kernel) ⟨(by show dm + 1 ≤ 2048; omega), (by show 8 + (1 + 11) + 40 * dm ≤ 84000; omega)⟩) hK hPm (wM_D hFx th _ mi ju lo f bf ca bg sz) hS (va_recv hK.1 hPm (ci := 3) (q0 := 0) rfl rfl) rfl hl.1 rfl (Nat.le_of_ble_eq_true rfl) dL_law_890 ⟨(by show _ ≤ 601024; omega), (by show _ ≤ 7293034; omega)⟩ (fun H2 locs hB2 hS hsz2 hkp2 => ?_)
  have hC2 := hC1.kept (fun q hq hFq => hkp2 q hq (fun z => by obtain ⟨i9, h9, e9⟩ := wM_adr z; exact (hFx.2.1 i9 h9).1 (e9 ▸ hFq)))
  have hO2 := hO1.kept (hkp2 o hO1.lt (fun z => by obtain ⟨i9, h9, e9⟩ := wM_adr z; exact (hFx.2.1 i9 h9).2.1 e9.symm))
  have hFr2 : ∀ q, H2.size ≤ q → F q := fun q hq => hFr q (by omega)
  refine lv_icmp_eq (tgt := 1554) hx hb dL_law_893 (by decide) (fun _ => ?_) (fun z => absurd rfl z)
  exact hN d0 ju mi lo rs2 H2 locs ls hd0 ⟨hC2, ⟨_, hB2⟩, ⟨_, hO2⟩, hFr2⟩ hS (lv_sub hl [0, 1, 2, 3, 4] rfl)
set_option maxHeartbeats 4000000 in
set_option maxRecDepth 100000 in
theorem lc_permitted {p : Program} {l : Launch} {e : Env} {s : State} {m : MethodId} {below : List Frame} {meth : Method} {c : Code} {b L : Nat} {xs : Nat → Int32} {D : va_G} {Y : Nat → ClassId} {F : Nat → Prop} {t0 la x na o : Nat} {A : Nat → Nat} (hEn : LEn l p s m meth c b L xs D Y F t0 o A) {i cells slots : Nat} (hi : i + 7 ≤ L) (hc : cells + 40 ≤ 601024) (hs : slots + 120 ≤ 7293034) (hN : LNx p l e s m below meth c b D Y F t0 la x na o A i (cells + 40) (slots + 120)) {d0 : Drawn} (hd0 : s.drawn.sameBut d0 lw_cs) {ju mi lo : Int32} {rs : List RV} {H : Heap} {locs : List Loc} {ls : Array Slot} (hLS : LwS D Y F t0 la x na o A ju mi lo rs H) (hS : va_S (bigA s) s.heap H locs) (hl : lv_has ls 9 (lwL b x (A 0) o i)) : lwW p l e s m below meth c b d0 H locs cells slots (F0 m 1247 ls []) := by
  obtain ⟨C0, hK0, hE0, hFx, hlt, hL⟩ := hEn
  obtain ⟨hx, hb, hr, hml, hown, hts0, hXs, hbl, hlocks, hgv⟩ := id C0
  have hts : ∀ w ∈ wsL_law, w.before #[Value.ref b] (s.setDrawn d0) = true := dr_words (fun w h => hts0 w (wsL_law_in w h)) d0
  have S : CallFix p m c cL_law 9 (s.setDrawn d0) #[Value.ref b] wsL_law RL := ⟨hx, hb, hml, hown, hts⟩
  have hK := hK0.drawn d0
  have hXd : va_X b L xs (s.setDrawn d0) s.heap := va_X.moved (u := s) (U := s.setDrawn d0) (Vm.Alike.refl s.vm) hXs
  have hbA : ¬ bigA s b := Nat.not_le.mpr hbl
  obtain ⟨hC, ⟨th, hmd⟩, ⟨w0, hO⟩, hFr⟩ := hLS
  have hFA : ∀ q, F q → bigA s q := hFx.2.2.2.1
  have hFA2 : ∀ q, (F q ∨ q = o) → bigA s q := fun q h => h.elim (hFA q) (fun z => by rw [z]; exact hFx.2.2.2.2)
  obtain ⟨r, rs2, dd, mc, ms, dm, hbd, hU, hM⟩ := sp_permitted l (D := D) (Y := Y) (F := F) (t0 := t0) (la := la) (x := x) (na := na) (A := A) ju mi lo rs H hC hFr
  obtain ⟨ea, cap, mod, es, nt, Lr, hA, -⟩ := hC.rd
  have hl : lv_has ls 9 [(0, .ref b), (1, .ref x), (2, .ref (A 0)), (3, .ref o), (4, .int (nI i))] := hl
  refine lv_aload_n hx hb dL_law_1247 rfl (lv_at hl 1 rfl) ?_
  refine UC.callV (As := []) S hU (cwV 0 hts gL_law_X2_permitted rfl rfl rfl (by decide +kernel) ⟨(by show dd + 1 ≤ 2048; omega), (by show 8 + (4 + 11) + 40 * dd ≤ 84000; omega)⟩) hK eT_bl (fun _ _ _ => trivial) hS hFA (va_recv hK.1 hA.1 (ci := 2) (q0 := 0) rfl rfl) rfl hl.1 rfl (Nat.le_of_ble_eq_true rfl) dL_law_1248 ⟨(by show cells + mc ≤ 601024; omega), (by show slots + ms ≤ 7293034; omega)⟩ (fun v H1 locs hB hS hsz hkp => ?_)
  obtain ⟨rfl, hC1⟩ := hB
  have hmd : mdB D Y A th mi ju lo rs H1 := hmd.kept (fun j hj hq => hkp (A j) hq (hFx.2.1 j hj).1)
  have hO1 := hO.kept (hkp o hO.lt hFx.1)
  refine W.widen (k := cells + 40) (n := slots + 120) (by omega) (by omega) ?_
  refine lv_aload_n hx hb dL_law_1251 rfl (lv_at hl 2 rfl) ?_
  obtain ⟨f, bf, ca, bg, sz, hf, hPm⟩ := hmd
  refine MuI.callV (r := r) (As := []) S (hM th f bf ca bg sz hf) (cwV 0 hts gL_law_X3_permitted rfl rfl rfl (by decide +kernel) ⟨(by show dm + 1 ≤ 2048; omega), (by show 8 + (3 + 11) + 40 * dm ≤ 84000; omega)⟩) hK hPm (wM_D hFx th _ mi ju lo f bf ca bg sz) hS (va_recv hK.1 hPm (ci := 3) (q0 := 0) rfl rfl) rfl hl.1 rfl (Nat.le_of_ble_eq_true rfl) dL_law_1252 ⟨(by show _ ≤ 601024; omega), (by show _ ≤ 7293034; omega)⟩ (fun H2 locs hB2 hS hsz2 hkp2 => ?_)
  have hC2 := hC1.kept (fun q hq hFq => hkp2 q hq (fun z => by obtain ⟨i9, h9, e9⟩ := wM_adr z; exact (hFx.2.1 i9 h9).1 (e9 ▸ hFq)))
  have hO2 := hO1.kept (hkp2 o hO1.lt (fun z => by obtain ⟨i9, h9, e9⟩ := wM_adr z; exact (hFx.2.1 i9 h9).2.1 e9.symm))
  have hFr2 : ∀ q, H2.size ≤ q → F q := fun q hq => hFr q (by omega)
  refine lv_icmp_eq (tgt := 1554) hx hb dL_law_1255 (by decide) (fun _ => ?_) (fun z => absurd rfl z)
  exact hN d0 ju mi lo rs2 H2 locs ls hd0 ⟨hC2, ⟨_, hB2⟩, ⟨_, hO2⟩, hFr2⟩ hS (lv_sub hl [0, 1, 2, 3, 4] rfl)
set_option maxHeartbeats 4000000 in
set_option maxRecDepth 100000 in
theorem lc_shorten {p : Program} {l : Launch} {e : Env} {s : State} {m : MethodId} {below : List Frame} {meth : Method} {c : Code} {b L : Nat} {xs : Nat → Int32} {D : va_G} {Y : Nat → ClassId} {F : Nat → Prop} {t0 la x na o : Nat} {A : Nat → Nat} (hEn : LEn l p s m meth c b L xs D Y F t0 o A) {i cells slots : Nat} (hi : i + 7 ≤ L) (hc : cells + 40 ≤ 601024) (hs : slots + 120 ≤ 7293034) (hN : LNx p l e s m below meth c b D Y F t0 la x na o A i (cells + 40) (slots + 120)) {d0 : Drawn} (hd0 : s.drawn.sameBut d0 lw_cs) {ju mi lo : Int32} {rs : List RV} {H : Heap} {locs : List Loc} {ls : Array Slot} (hLS : LwS D Y F t0 la x na o A ju mi lo rs H) (hS : va_S (bigA s) s.heap H locs) (hl : lv_has ls 9 (lwL b x (A 0) o i)) : lwW p l e s m below meth c b d0 H locs cells slots (F0 m 1323 ls []) := by
  obtain ⟨C0, hK0, hE0, hFx, hlt, hL⟩ := hEn
  obtain ⟨hx, hb, hr, hml, hown, hts0, hXs, hbl, hlocks, hgv⟩ := id C0
  have hts : ∀ w ∈ wsL_law, w.before #[Value.ref b] (s.setDrawn d0) = true := dr_words (fun w h => hts0 w (wsL_law_in w h)) d0
  have S : CallFix p m c cL_law 9 (s.setDrawn d0) #[Value.ref b] wsL_law RL := ⟨hx, hb, hml, hown, hts⟩
  have hK := hK0.drawn d0
  have hXd : va_X b L xs (s.setDrawn d0) s.heap := va_X.moved (u := s) (U := s.setDrawn d0) (Vm.Alike.refl s.vm) hXs
  have hbA : ¬ bigA s b := Nat.not_le.mpr hbl
  obtain ⟨hC, ⟨th, hmd⟩, ⟨w0, hO⟩, hFr⟩ := hLS
  have hFA : ∀ q, F q → bigA s q := hFx.2.2.2.1
  have hFA2 : ∀ q, (F q ∨ q = o) → bigA s q := fun q h => h.elim (hFA q) (fun z => by rw [z]; exact hFx.2.2.2.2)
  obtain ⟨r, rs2, dd, mc, ms, dm, hbd, hU, hM⟩ := sp_shorten l (D := D) (Y := Y) (F := F) (t0 := t0) (la := la) (x := x) (na := na) (A := A) ju mi lo rs H hC hFr
  obtain ⟨ea, cap, mod, es, nt, Lr, hA, -⟩ := hC.rd
  have hl : lv_has ls 9 [(0, .ref b), (1, .ref x), (2, .ref (A 0)), (3, .ref o), (4, .int (nI i))] := hl
  refine lv_aload_n hx hb dL_law_1323 rfl (lv_at hl 1 rfl) ?_
  refine UC.callV (As := []) S hU (cwV 0 hts gL_law_X2_shorten rfl rfl rfl (by decide +kernel) ⟨(by show dd + 1 ≤ 2048; omega), (by show 8 + (4 + 11) + 40 * dd ≤ 84000; omega)⟩) hK eT_bl (fun _ _ _ => trivial) hS hFA (va_recv hK.1 hA.1 (ci := 2) (q0 := 0) rfl rfl) rfl hl.1 rfl (Nat.le_of_ble_eq_true rfl) dL_law_1324 ⟨(by show cells + mc ≤ 601024; omega), (by show slots + ms ≤ 7293034; omega)⟩ (fun v H1 locs hB hS hsz hkp => ?_)
  obtain ⟨rfl, hC1⟩ := hB
  have hmd : mdB D Y A th mi ju lo rs H1 := hmd.kept (fun j hj hq => hkp (A j) hq (hFx.2.1 j hj).1)
  have hO1 := hO.kept (hkp o hO.lt hFx.1)
  refine W.widen (k := cells + 40) (n := slots + 120) (by omega) (by omega) ?_
  refine lv_aload_n hx hb dL_law_1327 rfl (lv_at hl 2 rfl) ?_
  obtain ⟨f, bf, ca, bg, sz, hf, hPm⟩ := hmd
  refine MuI.callV (r := r) (As := []) S (hM th f bf ca bg sz hf) (cwV 0 hts gL_law_X3_shorten rfl rfl rfl (by decide +kernel) ⟨(by show dm + 1 ≤ 2048; omega), (by show 8 + (2 + 11) + 40 * dm ≤ 84000; omega)⟩) hK hPm (wM_D hFx th _ mi ju lo f bf ca bg sz) hS (va_recv hK.1 hPm (ci := 3) (q0 := 0) rfl rfl) rfl hl.1 rfl (Nat.le_of_ble_eq_true rfl) dL_law_1328 ⟨(by show _ ≤ 601024; omega), (by show _ ≤ 7293034; omega)⟩ (fun H2 locs hB2 hS hsz2 hkp2 => ?_)
  have hC2 := hC1.kept (fun q hq hFq => hkp2 q hq (fun z => by obtain ⟨i9, h9, e9⟩ := wM_adr z; exact (hFx.2.1 i9 h9).1 (e9 ▸ hFq)))
  have hO2 := hO1.kept (hkp2 o hO1.lt (fun z => by obtain ⟨i9, h9, e9⟩ := wM_adr z; exact (hFx.2.1 i9 h9).2.1 e9.symm))
  have hFr2 : ∀ q, H2.size ≤ q → F q := fun q hq => hFr q (by omega)
  refine lv_icmp_eq (tgt := 1554) hx hb dL_law_1331 (by decide) (fun _ => ?_) (fun z => absurd rfl z)
  exact hN d0 ju mi lo rs2 H2 locs ls hd0 ⟨hC2, ⟨_, hB2⟩, ⟨_, hO2⟩, hFr2⟩ hS (lv_sub hl [0, 1, 2, 3, 4] rfl)
set_option maxHeartbeats 4000000 in
set_option maxRecDepth 100000 in
theorem lc_sortByHits {p : Program} {l : Launch} {e : Env} {s : State} {m : MethodId} {below : List Frame} {meth : Method} {c : Code} {b L : Nat} {xs : Nat → Int32} {D : va_G} {Y : Nat → ClassId} {F : Nat → Prop} {t0 la x na o : Nat} {A : Nat → Nat} (hEn : LEn l p s m meth c b L xs D Y F t0 o A) {i cells slots : Nat} (hi : i + 7 ≤ L) (hc : cells + 40 ≤ 601024) (hs : slots + 120 ≤ 7293034) (hN : LNx p l e s m below meth c b D Y F t0 la x na o A i (cells + 40) (slots + 120)) {d0 : Drawn} (hd0 : s.drawn.sameBut d0 lw_cs) {ju mi lo : Int32} {rs : List RV} {H : Heap} {locs : List Loc} {ls : Array Slot} (hLS : LwS D Y F t0 la x na o A ju mi lo rs H) (hS : va_S (bigA s) s.heap H locs) (hl : lv_has ls 9 (lwL b x (A 0) o i)) : lwW p l e s m below meth c b d0 H locs cells slots (F0 m 1336 ls []) := by
  obtain ⟨C0, hK0, hE0, hFx, hlt, hL⟩ := hEn
  obtain ⟨hx, hb, hr, hml, hown, hts0, hXs, hbl, hlocks, hgv⟩ := id C0
  have hts : ∀ w ∈ wsL_law, w.before #[Value.ref b] (s.setDrawn d0) = true := dr_words (fun w h => hts0 w (wsL_law_in w h)) d0
  have S : CallFix p m c cL_law 9 (s.setDrawn d0) #[Value.ref b] wsL_law RL := ⟨hx, hb, hml, hown, hts⟩
  have hK := hK0.drawn d0
  have hXd : va_X b L xs (s.setDrawn d0) s.heap := va_X.moved (u := s) (U := s.setDrawn d0) (Vm.Alike.refl s.vm) hXs
  have hbA : ¬ bigA s b := Nat.not_le.mpr hbl
  obtain ⟨hC, ⟨th, hmd⟩, ⟨w0, hO⟩, hFr⟩ := hLS
  have hFA : ∀ q, F q → bigA s q := hFx.2.2.2.1
  have hFA2 : ∀ q, (F q ∨ q = o) → bigA s q := fun q h => h.elim (hFA q) (fun z => by rw [z]; exact hFx.2.2.2.2)
  obtain ⟨r, rs2, dd, mc, ms, dm, hbd, hU, hM⟩ := sp_sortByHits l (D := D) (Y := Y) (F := F) (t0 := t0) (la := la) (x := x) (na := na) (A := A) ju mi lo rs H hC hFr
  obtain ⟨ea, cap, mod, es, nt, Lr, hA, -⟩ := hC.rd
  have hl : lv_has ls 9 [(0, .ref b), (1, .ref x), (2, .ref (A 0)), (3, .ref o), (4, .int (nI i))] := hl
  refine lv_aload_n hx hb dL_law_1336 rfl (lv_at hl 1 rfl) ?_
  refine UC.callV (As := []) S hU (cwV 0 hts gL_law_X2_sortByHits rfl rfl rfl (by decide +kernel) ⟨(by show dd + 1 ≤ 2048; omega), (by show 8 + (4 + 11) + 40 * dd ≤ 84000; omega)⟩) hK eT_bl (fun _ _ _ => trivial) hS hFA (va_recv hK.1 hA.1 (ci := 2) (q0 := 0) rfl rfl) rfl hl.1 rfl (Nat.le_of_ble_eq_true rfl) dL_law_1337 ⟨(by show cells + mc ≤ 601024; omega), (by show slots + ms ≤ 7293034; omega)⟩ (fun v H1 locs hB hS hsz hkp => ?_)
  obtain ⟨rfl, hC1⟩ := hB
  have hmd : mdB D Y A th mi ju lo rs H1 := hmd.kept (fun j hj hq => hkp (A j) hq (hFx.2.1 j hj).1)
  have hO1 := hO.kept (hkp o hO.lt hFx.1)
  refine W.widen (k := cells + 40) (n := slots + 120) (by omega) (by omega) ?_
  refine lv_aload_n hx hb dL_law_1340 rfl (lv_at hl 2 rfl) ?_
  obtain ⟨f, bf, ca, bg, sz, hf, hPm⟩ := hmd
  refine MuI.callV (r := r) (As := []) S (hM th f bf ca bg sz hf) (cwV 0 hts gL_law_X3_sortByHits rfl rfl rfl (by decide +kernel) ⟨(by show dm + 1 ≤ 2048; omega), (by show 8 + (5 + 11) + 40 * dm ≤ 84000; omega)⟩) hK hPm (wM_D hFx th _ mi ju lo f bf ca bg sz) hS (va_recv hK.1 hPm (ci := 3) (q0 := 0) rfl rfl) rfl hl.1 rfl (Nat.le_of_ble_eq_true rfl) dL_law_1341 ⟨(by show _ ≤ 601024; omega), (by show _ ≤ 7293034; omega)⟩ (fun H2 locs hB2 hS hsz2 hkp2 => ?_)
  have hC2 := hC1.kept (fun q hq hFq => hkp2 q hq (fun z => by obtain ⟨i9, h9, e9⟩ := wM_adr z; exact (hFx.2.1 i9 h9).1 (e9 ▸ hFq)))
  have hO2 := hO1.kept (hkp2 o hO1.lt (fun z => by obtain ⟨i9, h9, e9⟩ := wM_adr z; exact (hFx.2.1 i9 h9).2.1 e9.symm))
  have hFr2 : ∀ q, H2.size ≤ q → F q := fun q hq => hFr q (by omega)
  refine lv_icmp_eq (tgt := 1554) hx hb dL_law_1344 (by decide) (fun _ => ?_) (fun z => absurd rfl z)
  exact hN d0 ju mi lo rs2 H2 locs ls hd0 ⟨hC2, ⟨_, hB2⟩, ⟨_, hO2⟩, hFr2⟩ hS (lv_sub hl [0, 1, 2, 3, 4] rfl)
set_option maxHeartbeats 4000000 in
set_option maxRecDepth 100000 in
theorem lc_allEntries {p : Program} {l : Launch} {e : Env} {s : State} {m : MethodId} {below : List Frame} {meth : Method} {c : Code} {b L : Nat} {xs : Nat → Int32} {D : va_G} {Y : Nat → ClassId} {F : Nat → Prop} {t0 la x na o : Nat} {A : Nat → Nat} (hEn : LEn l p s m meth c b L xs D Y F t0 o A) {i cells slots : Nat} (hi : i + 7 ≤ L) (hc : cells + 40 ≤ 601024) (hs : slots + 120 ≤ 7293034) (hN : LNx p l e s m below meth c b D Y F t0 la x na o A i (cells + 40) (slots + 120)) {d0 : Drawn} (hd0 : s.drawn.sameBut d0 lw_cs) {ju mi lo : Int32} {rs : List RV} {H : Heap} {locs : List Loc} {ls : Array Slot} (hLS : LwS D Y F t0 la x na o A ju mi lo rs H) (hS : va_S (bigA s) s.heap H locs) (hl : lv_has ls 9 (lwL b x (A 0) o i)) : lwW p l e s m below meth c b d0 H locs cells slots (F0 m 1541 ls []) := by
  obtain ⟨C0, hK0, hE0, hFx, hlt, hL⟩ := hEn
  obtain ⟨hx, hb, hr, hml, hown, hts0, hXs, hbl, hlocks, hgv⟩ := id C0
  have hts : ∀ w ∈ wsL_law, w.before #[Value.ref b] (s.setDrawn d0) = true := dr_words (fun w h => hts0 w (wsL_law_in w h)) d0
  have S : CallFix p m c cL_law 9 (s.setDrawn d0) #[Value.ref b] wsL_law RL := ⟨hx, hb, hml, hown, hts⟩
  have hK := hK0.drawn d0
  have hXd : va_X b L xs (s.setDrawn d0) s.heap := va_X.moved (u := s) (U := s.setDrawn d0) (Vm.Alike.refl s.vm) hXs
  have hbA : ¬ bigA s b := Nat.not_le.mpr hbl
  obtain ⟨hC, ⟨th, hmd⟩, ⟨w0, hO⟩, hFr⟩ := hLS
  have hFA : ∀ q, F q → bigA s q := hFx.2.2.2.1
  have hFA2 : ∀ q, (F q ∨ q = o) → bigA s q := fun q h => h.elim (hFA q) (fun z => by rw [z]; exact hFx.2.2.2.2)
  obtain ⟨r, rs2, dd, mc, ms, dm, hbd, hU, hM⟩ := sp_allEntries l (D := D) (Y := Y) (F := F) (t0 := t0) (la := la) (x := x) (na := na) (A := A) ju mi lo rs H hC hFr
  obtain ⟨ea, cap, mod, es, nt, Lr, hA, -⟩ := hC.rd
  have hl : lv_has ls 9 [(0, .ref b), (1, .ref x), (2, .ref (A 0)), (3, .ref o), (4, .int (nI i))] := hl
  refine lv_aload_n hx hb dL_law_1541 rfl (lv_at hl 1 rfl) ?_
  refine UC.callV (As := []) S hU (cwV 0 hts gL_law_X2_allEntries rfl rfl rfl (by decide +kernel) ⟨(by show dd + 1 ≤ 2048; omega), (by show 8 + (3 + 11) + 40 * dd ≤ 84000; omega)⟩) hK eT_bl (fun _ _ _ => trivial) hS hFA (va_recv hK.1 hA.1 (ci := 2) (q0 := 0) rfl rfl) rfl hl.1 rfl (Nat.le_of_ble_eq_true rfl) dL_law_1542 ⟨(by show cells + mc ≤ 601024; omega), (by show slots + ms ≤ 7293034; omega)⟩ (fun v H1 locs hB hS hsz hkp => ?_)
  obtain ⟨rfl, hC1⟩ := hB
  have hmd : mdB D Y A th mi ju lo rs H1 := hmd.kept (fun j hj hq => hkp (A j) hq (hFx.2.1 j hj).1)
  have hO1 := hO.kept (hkp o hO.lt hFx.1)
  refine W.widen (k := cells + 40) (n := slots + 120) (by omega) (by omega) ?_
  refine lv_aload_n hx hb dL_law_1545 rfl (lv_at hl 2 rfl) ?_
  obtain ⟨f, bf, ca, bg, sz, hf, hPm⟩ := hmd
  refine MuI.callV (r := r) (As := []) S (hM th f bf ca bg sz hf) (cwV 0 hts gL_law_X3_allEntries rfl rfl rfl (by decide +kernel) ⟨(by show dm + 1 ≤ 2048; omega), (by show 8 + (3 + 11) + 40 * dm ≤ 84000; omega)⟩) hK hPm (wM_D hFx th _ mi ju lo f bf ca bg sz) hS (va_recv hK.1 hPm (ci := 3) (q0 := 0) rfl rfl) rfl hl.1 rfl (Nat.le_of_ble_eq_true rfl) dL_law_1546 ⟨(by show _ ≤ 601024; omega), (by show _ ≤ 7293034; omega)⟩ (fun H2 locs hB2 hS hsz2 hkp2 => ?_)
  have hC2 := hC1.kept (fun q hq hFq => hkp2 q hq (fun z => by obtain ⟨i9, h9, e9⟩ := wM_adr z; exact (hFx.2.1 i9 h9).1 (e9 ▸ hFq)))
  have hO2 := hO1.kept (hkp2 o hO1.lt (fun z => by obtain ⟨i9, h9, e9⟩ := wM_adr z; exact (hFx.2.1 i9 h9).2.1 e9.symm))
  have hFr2 : ∀ q, H2.size ≤ q → F q := fun q hq => hFr q (by omega)
  refine lv_icmp_eq (tgt := 1554) hx hb dL_law_1549 (by decide) (fun _ => ?_) (fun z => absurd rfl z)
  exact hN d0 ju mi lo rs2 H2 locs ls hd0 ⟨hC2, ⟨_, hB2⟩, ⟨_, hO2⟩, hFr2⟩ hS (lv_sub hl [0, 1, 2, 3, 4] rfl)
