/-! the law's start: what the tables and the start say; the law from its entry -/
theorem xB_in : ∀ w ∈ xB, w ∈ lw_tbl := by decide +kernel
theorem xT_in : ∀ q ∈ xT, Cond.stringRef RX2 q.1 q.2 ∈ lw_tbl := by decide +kernel
theorem xT_ex : ∀ q ∈ xT, Cond.exactly (.string RX2 q.1) "java/lang/String" ∈ flatC (Jvm.Cond.and given_1 narrow_1) := by decide +kernel
theorem no_big {s : State} : ∀ a : Nat, a < s.heap.size → ¬ bigA s a := fun _ h => Nat.not_le.mpr h
set_option maxRecDepth 100000 in
theorem lw_facts {p : Program} {s : State} {m : MethodId} {meth : Method} {c : Code} {b L : Nat} {xs : Nat → Int32} (C0 : lw_At p s m meth c b L xs) : ∃ (D : va_G) (Y : Nat → ClassId) (t0 : Nat), KK D Y s ∧ eL t0 (bigA s) (bigA s) s := by
  obtain ⟨hx, hb, hr, hml, hown, hts, hX, hbl, hlocks, hgv⟩ := C0
  have hg := flat_of_before _ hgv
  obtain ⟨c0, i0, h0⟩ := u_known (C := RX0) (T := TX0) (N := 3) (n := 3) hts inX0 (hts (.instantiable RX0 3) (by decide +kernel))
  obtain ⟨c1, i1, h1⟩ := u_known (C := RX1) (T := TX1) (N := 5) (n := 5) hts inX1 (hts (.instantiable RX1 5) (by decide +kernel))
  obtain ⟨c2, i2, h2⟩ := u_known (C := RX2) (T := TX2) (N := 5) (n := 5) hts inX2 (hts (.instantiable RX2 5) (by decide +kernel))
  obtain ⟨c4, i4, h4⟩ := u_known (C := RJx4a65c) (T := TJx4a65c) (N := 3) (n := 3) hts inJx4a65c (hts (.instantiable RJx4a65c 3) (by decide +kernel))
  obtain ⟨y0, k0, m0, a1, a2, a3⟩ := Cond.arrayClass_spec (hts (.arrayClass .int) (by decide +kernel))
  have hao := hts (.arrayOver (.object "java/lang/Object")) (by decide +kernel)
  obtain ⟨m1, y1, k1, b1, b2, b3, b4, b5⟩ := Cond.arrayOver_spec hao
  obtain ⟨D, hD⟩ : ∃ D : va_G, ∀ (k : Nat) (q : vw_C), aCl[k]? = some q → u_Kn s q.1 q.2.1 q.2.2 (D.1 k) (D.2 k) := by
    refine ⟨(fun k => match k with | 0 => c0 | 1 => c1 | 2 => c2 | 3 => c2 | _ => c4, fun k => match k with | 0 => i0 | 1 => i1 | 2 => i2 | 3 => i2 | _ => i4), ?_⟩
    intro k q hq
    match k, hq with
    | 0, hq => cases hq; exact h0
    | 1, hq => cases hq; exact h1
    | 2, hq => cases hq; exact h2
    | 3, hq => cases hq; exact h2
    | 4, hq => cases hq; exact h4
    | k + 5, hq => simp at hq
  obtain ⟨Y, hY⟩ : ∃ Y : Nat → ClassId, ∀ (k : Nat) (q : ClassId × FieldType), (aTy Y)[k]? = some q → ArrOfT s q.1 q.2 ∧ va_RA s q.1 q.2 := by
    refine ⟨fun k => match k with | 0 => y0 | _ => y1, ?_⟩
    intro k q hq
    match k, hq with
    | 0, hq => cases hq; exact ⟨fun n z => ⟨fun k h => (by cases h), k0, a2, m0, a3⟩, a1⟩
    | 1, hq => cases hq; exact ⟨fun n z => ⟨fun k h => (by cases h), k1, b3, m1, b4⟩, k1, m1, b3, b4, b1, b5⟩
    | k + 2, hq => simp at hq
  obtain ⟨t1, hT1, hT⟩ := va_Tof (N := 0) (f := fun _ => .null) (A := bigA s) (tm := .static "java/util/ArrayList" "DEFAULTCAPACITY_EMPTY_ELEMENTDATA" "[Ljava/lang/Object;") (by decide) (hg (.arrayOf (.static "java/util/ArrayList" "DEFAULTCAPACITY_EMPTY_ELEMENTDATA" "[Ljava/lang/Object;") (.object "java/lang/Object")) (by decide +kernel)) (va_eqt (hg (.eq (.length (.static "java/util/ArrayList" "DEFAULTCAPACITY_EMPTY_ELEMENTDATA" "[Ljava/lang/Object;")) (.int 0)) (by decide +kernel))) (fun j hj => absurd hj (Nat.not_lt_zero j)) no_big
  refine ⟨D, Y, t1, ⟨⟨hD, hY⟩, va_Nw.of rfl (hts (.methodLinkNest RX0 16 yX2_setOf "Aclsmith") (by decide +kernel)), va_Nw.of rfl (hts (.methodLinkNest RX1 30 yX2_holds "Aclsmith") (by decide +kernel)), va_Nw.of rfl (hts (.castable RX1 "java/lang/Object") (by decide +kernel)), va_AO.of hao, va_Mi.of (hg (.isRef (.mirror "[Ljava/lang/Object;")) (by decide +kernel)), va_Dc.of (hts (.declares ⟨"java/lang/Object", "getClass", "()Ljava/lang/Class;"⟩) (by decide +kernel))⟩,
    ⟨va_Zref (hts (.laysStatic "java/util/ArrayList" "DEFAULTCAPACITY_EMPTY_ELEMENTDATA" "[Ljava/lang/Object;") (by decide +kernel)) (hts (.initialized "java/util/ArrayList") (by decide +kernel)) hT1 no_big, hT⟩,
    ⟨vx_Zqof (hts (.laysStatic Bundle.tN "UNASSIGNED_STACK" Bundle.steD) (by decide +kernel)) (hts (.initialized Bundle.tN) (by decide +kernel)) (hg (.isRef (.static Bundle.tN "UNASSIGNED_STACK" Bundle.steD)) (by decide +kernel)) no_big,
     vx_Zqof (hts (.laysStatic Bundle.tN "SUPPRESSED_SENTINEL" Bundle.listD) (by decide +kernel)) (hts (.initialized Bundle.tN) (by decide +kernel)) (hg (.isRef (.static Bundle.tN "SUPPRESSED_SENTINEL" Bundle.listD)) (by decide +kernel)) no_big,
     fun w hw => va_Nw.of (xB_on w hw) (hts w (xB_in w hw)), fun q hq => ?_⟩,
    va_Nc.of (hg (.not (.castable xIS xIA)) (by decide +kernel))⟩
  obtain ⟨sa, c9, cell9, k9, q1, -⟩ := Cond.exactly_spec (hg _ (xT_ex q hq))
  exact ⟨sa, vk_R.of (hts _ (xT_in q hq)) q1⟩
set_option maxHeartbeats 4000000 in
set_option maxRecDepth 100000 in
/-- THE LAW, from its entry -/
theorem whole_start {p : Program} {e : Env} {s : State} {m : MethodId} {below : List Frame} {meth : Method} {c : Code} (l : Launch) (hflags : l.flags = flags0) {b L : Nat} {xs : Nat → Int32} (hL : L ≤ 260) (C0 : lw_At p s m meth c b L xs) : W p l e room_1 s m #[Value.ref b] below meth c s.heap [] 0 0 (lw_Z below #[Value.ref b] s) (entryFrame m ([Value.ref b] : List Value).toArray 8) := by
  obtain ⟨hx, hb, hr, hml, hown, hts0, hXs, hbl, hlocks, hgv⟩ := id C0
  obtain ⟨D, Y, t0, hK0, hE0⟩ := lw_facts C0
  have hlt : l.stackTraces = false := by unfold Launch.stackTraces; rw [hflags]; decide +kernel
  have hd0 := Drawn.sameBut.refl s.drawn lw_cs
  refine W.base ?_
  have hts : ∀ w ∈ wsL_law, w.before #[Value.ref b] (s.setDrawn s.drawn) = true := dr_words (fun w h => hts0 w (wsL_law_in w h)) s.drawn
  have S : CallFix p m c cL_law 8 (s.setDrawn s.drawn) #[Value.ref b] wsL_law RL := ⟨hx, hb, hml, hown, hts⟩
  have hK := hK0.drawn s.drawn
  have hA : ∀ q : Nat, s.heap.size ≤ q → bigA s q := fun _ h => h
  have hS : va_S (bigA s) s.heap s.heap [] := va_S.rf
  have hP : va_P D aCl ([] : va_W) s.heap := fun k q h => by simp at h
  have hD : va_D (bigA s) ([] : va_W) := ⟨fun i j p q h => by simp at h, fun k q h => by simp at h⟩
  have hl := lv_entry ([.ref b]) (n := 8) (Nat.le_of_ble_eq_true rfl)
  rw [lg_entry_eq]
  generalize (lg_sl ([.ref b]) ++ List.replicate (8 - (lg_sl ([.ref b])).length) Slot.unset).toArray = ls at hl ⊢
  have hl : lv_has ls 8 [(0, .ref b)] := hl
  refine nr_new (C := RX2) (T := TX2) (N := 5) (ci := 2) (fs := [.null, .null, .int (nI 0), .int (nI 0), .int (nI 0)]) S inlX2 tyX2 tyX2_ok (List.mem_of_getElem? (i := 0) (by decide +kernel)) (List.mem_of_getElem? (i := 1) (by decide +kernel)) (List.mem_of_getElem? (i := 2) (by decide +kernel)) hK hP hD hS hA rfl dfX2 (Nat.le_of_ble_eq_true rfl) (Nat.le_of_ble_eq_true rfl) dL_law_0 (fun x H hP hD hS => ?_)
  refine lv_dup hx hb dL_law_3 rfl ?_
  have hP : va_P D aCl [(x, .inr (2, [.null, .null, .int (nI 0), .int (nI 0), .int (nI 0)]))] H := hP
  have hD : va_D (bigA s) [(x, .inr (2, [.null, .null, .int (nI 0), .int (nI 0), .int (nI 0)]))] := hD
  refine UC.callI (As := []) S (k_X2_init l (q0 := 0) (t0 := t0) hP hD (fun q hq => Nat.le_trans hS.1 hq) rfl) (cwI 0 hts gL_law_X2_init rfl rfl rfl (hts _ (List.mem_of_getElem? (i := 2) (by decide +kernel))) (hts _ (List.mem_of_getElem? (i := 5) (by decide +kernel))) (hts _ (List.mem_of_getElem? (i := 6) (by decide +kernel))) rfl (by decide +kernel) ⟨Nat.le_of_ble_eq_true rfl, Nat.le_of_ble_eq_true rfl⟩) hK eZ_bl (fun U hW hU => (eZ_go hE0.1 hS hW hU)) hS (fun _ h => h) rfl hl.1 rfl (Nat.le_of_ble_eq_true rfl) dL_law_4 ⟨Nat.le_of_ble_eq_true rfl, Nat.le_of_ble_eq_true rfl⟩ (fun v H locs hB hS hsz hkp => ?_)
  obtain ⟨rfl, la, na, hP, hD⟩ := hB
  have hP : va_P D aCl [(x, .inr (2, [.ref la, .ref na, .int (nI 0), .int (nI 0), .int (nI 0)])), (la, .inr (4, [.int (nI 0), .ref t0, .int (nI 0)])), (na, .inl (Y 0, 128, .inl (fun _ => nI 0)))] H := hP
  have hD : va_D (bigA s) [(x, .inr (2, [.ref la, .ref na, .int (nI 0), .int (nI 0), .int (nI 0)])), (la, .inr (4, [.int (nI 0), .ref t0, .int (nI 0)])), (na, .inl (Y 0, 128, .inl (fun _ => nI 0)))] := hD
  refine lv_astore_n (lv' := [(1, .ref x), (0, .ref b)]) hx hb dL_law_7 rfl hl (by decide) rfl (fun ls hl => ?_)
  refine nr_new (C := RX2) (T := TX2) (N := 5) (ci := 2) (fs := [.null, .null, .int (nI 0), .int (nI 0), .int (nI 0)]) S inlX2 tyX2 tyX2_ok (List.mem_of_getElem? (i := 0) (by decide +kernel)) (List.mem_of_getElem? (i := 1) (by decide +kernel)) (List.mem_of_getElem? (i := 2) (by decide +kernel)) hK hP hD hS hA rfl dfX2 (Nat.le_of_ble_eq_true rfl) (Nat.le_of_ble_eq_true rfl) dL_law_8 (fun x2 H hP hD hS => ?_)
  refine lv_dup hx hb dL_law_11 rfl ?_
  refine UC.callI (As := []) S (k_X2_init l (q0 := 3) (t0 := t0) hP hD (fun q hq => Nat.le_trans hS.1 hq) rfl) (cwI 0 hts gL_law_X2_init rfl rfl rfl (hts _ (List.mem_of_getElem? (i := 2) (by decide +kernel))) (hts _ (List.mem_of_getElem? (i := 5) (by decide +kernel))) (hts _ (List.mem_of_getElem? (i := 6) (by decide +kernel))) rfl (by decide +kernel) ⟨Nat.le_of_ble_eq_true rfl, Nat.le_of_ble_eq_true rfl⟩) hK eZ_bl (fun U hW hU => (eZ_go hE0.1 hS hW hU)) hS (fun _ h => h) rfl hl.1 rfl (Nat.le_of_ble_eq_true rfl) dL_law_12 ⟨Nat.le_of_ble_eq_true rfl, Nat.le_of_ble_eq_true rfl⟩ (fun v H locs hB hS hsz hkp => ?_)
  obtain ⟨rfl, la2, na2, hP, hD⟩ := hB
  have hP : va_P D aCl [(x, .inr (2, [.ref la, .ref na, .int (nI 0), .int (nI 0), .int (nI 0)])), (la, .inr (4, [.int (nI 0), .ref t0, .int (nI 0)])), (na, .inl (Y 0, 128, .inl (fun _ => nI 0))), (x2, .inr (2, [.ref la2, .ref na2, .int (nI 0), .int (nI 0), .int (nI 0)])), (la2, .inr (4, [.int (nI 0), .ref t0, .int (nI 0)])), (na2, .inl (Y 0, 128, .inl (fun _ => nI 0)))] H := hP
  have hD : va_D (bigA s) [(x, .inr (2, [.ref la, .ref na, .int (nI 0), .int (nI 0), .int (nI 0)])), (la, .inr (4, [.int (nI 0), .ref t0, .int (nI 0)])), (na, .inl (Y 0, 128, .inl (fun _ => nI 0))), (x2, .inr (2, [.ref la2, .ref na2, .int (nI 0), .int (nI 0), .int (nI 0)])), (la2, .inr (4, [.int (nI 0), .ref t0, .int (nI 0)])), (na2, .inl (Y 0, 128, .inl (fun _ => nI 0)))] := hD
  refine lv_astore_n (lv' := [(2, .ref x2), (1, .ref x), (0, .ref b)]) hx hb dL_law_15 rfl hl (by decide) rfl (fun ls hl => ?_)
  refine lv_iconst (v := nI 0) hx hb dL_law_16 (by decide +kernel) ?_
  refine lv_istore_n (lv' := [(3, .int (nI 0)), (2, .ref x2), (1, .ref x), (0, .ref b)]) hx hb dL_law_17 rfl hl (by decide) rfl (fun ls hl => ?_)
  have hap : ∀ (i j : Nat) (p q : Nat × va_E), ([(x, .inr (2, [.ref la, .ref na, .int (nI 0), .int (nI 0), .int (nI 0)])), (la, .inr (4, [.int (nI 0), .ref t0, .int (nI 0)])), (na, .inl (Y 0, 128, .inl (fun _ => nI 0))), (x2, .inr (2, [.ref la2, .ref na2, .int (nI 0), .int (nI 0), .int (nI 0)])), (la2, .inr (4, [.int (nI 0), .ref t0, .int (nI 0)])), (na2, .inl (Y 0, 128, .inl (fun _ => nI 0)))] : va_W)[i]? = some p → ([(x, .inr (2, [.ref la, .ref na, .int (nI 0), .int (nI 0), .int (nI 0)])), (la, .inr (4, [.int (nI 0), .ref t0, .int (nI 0)])), (na, .inl (Y 0, 128, .inl (fun _ => nI 0))), (x2, .inr (2, [.ref la2, .ref na2, .int (nI 0), .int (nI 0), .int (nI 0)])), (la2, .inr (4, [.int (nI 0), .ref t0, .int (nI 0)])), (na2, .inl (Y 0, 128, .inl (fun _ => nI 0)))] : va_W)[j]? = some q → i ≠ j → p.1 ≠ q.1 := fun i j p q h1 h2 h3 h4 => h3 (hD.1 i j p q h1 h2 h4)
  have hT : Tw D Y t0 s.heap.size la x na la2 x2 na2 (nI 0) (nI 0) (nI 0) ([] : List RV) (nI 0) (nI 0) (nI 0) ([] : List RV) H := by
    refine ⟨fun q => q = la ∨ q = x ∨ q = na, fun q => q = la2 ∨ q = x2 ∨ q = na2, Or.inr ⟨rfl, nI 0, fun _ => nI 0, hP.sub [1, 0, 2] rfl, ?_⟩, Or.inr ⟨rfl, nI 0, fun _ => nI 0, hP.sub [4, 3, 5] rfl, ?_⟩, ?_, ?_, ?_, hS.1⟩
    · have h := hD.sub (ws' := [(la, .inr (4, [.int (nI 0), .ref t0, .int (nI 0)])), (x, .inr (2, [.ref la, .ref na, .int (nI 0), .int (nI 0), .int (nI 0)])), (na, .inl (Y 0, 128, .inl (fun _ => nI 0)))]) [1, 0, 2] (by decide) rfl
      refine va_D.weaken (A := bigA s) h (fun k q hk _ => ?_)
      match k, hk with
      | 0, hk => cases hk; exact Or.inl rfl
      | 1, hk => cases hk; exact Or.inr (Or.inl rfl)
      | 2, hk => cases hk; exact Or.inr (Or.inr rfl)
      | k + 3, hk => simp at hk
    · have h := hD.sub (ws' := [(la2, .inr (4, [.int (nI 0), .ref t0, .int (nI 0)])), (x2, .inr (2, [.ref la2, .ref na2, .int (nI 0), .int (nI 0), .int (nI 0)])), (na2, .inl (Y 0, 128, .inl (fun _ => nI 0)))]) [4, 3, 5] (by decide) rfl
      refine va_D.weaken (A := bigA s) h (fun k q hk _ => ?_)
      match k, hk with
      | 0, hk => cases hk; exact Or.inl rfl
      | 1, hk => cases hk; exact Or.inr (Or.inl rfl)
      | 2, hk => cases hk; exact Or.inr (Or.inr rfl)
      | k + 3, hk => simp at hk
    · rintro q (h | h | h) (h2 | h2 | h2)
      · exact hap 1 4 _ _ rfl rfl (by decide) (h.symm.trans h2)
      · exact hap 1 3 _ _ rfl rfl (by decide) (h.symm.trans h2)
      · exact hap 1 5 _ _ rfl rfl (by decide) (h.symm.trans h2)
      · exact hap 0 4 _ _ rfl rfl (by decide) (h.symm.trans h2)
      · exact hap 0 3 _ _ rfl rfl (by decide) (h.symm.trans h2)
      · exact hap 0 5 _ _ rfl rfl (by decide) (h.symm.trans h2)
      · exact hap 2 4 _ _ rfl rfl (by decide) (h.symm.trans h2)
      · exact hap 2 3 _ _ rfl rfl (by decide) (h.symm.trans h2)
      · exact hap 2 5 _ _ rfl rfl (by decide) (h.symm.trans h2)
    · rintro q (h | h | h)
      · rw [h]; exact hD.2 1 _ rfl
      · rw [h]; exact hD.2 0 _ rfl
      · rw [h]; exact hD.2 2 _ rfl
    · rintro q (h | h | h)
      · rw [h]; exact hD.2 4 _ rfl
      · rw [h]; exact hD.2 3 _ rfl
      · rw [h]; exact hD.2 5 _ rfl
  have hJ : JL (nI 0) (nI 0) 0 := ⟨0, 0, rfl, rfl, by decide, by decide⟩
  refine W.widen (k := 100 + 400 * 0) (n := 1000 + 1200 * 0) (Nat.le_of_ble_eq_true rfl) (Nat.le_of_ble_eq_true rfl) ?_
  have hEn : LEn l p s m meth c b L xs D Y t0 := ⟨C0, hK0, hE0, hlt, hL⟩
  exact law_loop hEn 74 0 (by omega) (by omega) s.drawn (nI 0) (nI 0) (nI 0) [] H _ ls hd0 hT hJ hS (lv_sub hl [3, 2, 1, 0] rfl)
