/-! the law: averageLooks, and its loop -/
set_option maxHeartbeats 4000000 in
set_option maxRecDepth 100000 in
theorem lc_averageLooks {p : Program} {l : Launch} {e : Env} {s : State} {m : MethodId} {below : List Frame} {meth : Method} {c : Code} {b L : Nat} {xs : Nat → Int32} {D : va_G} {Y : Nat → ClassId} {F : Nat → Prop} {t0 la x na o : Nat} {A : Nat → Nat} (hEn : LEn l p s m meth c b L xs D Y F t0 o A) {i cells slots : Nat} (hi : i + 7 ≤ L) (hc : cells + 40 ≤ 601024) (hs : slots + 120 ≤ 7293034) (hN : LNx p l e s m below meth c b D Y F t0 la x na o A i (cells + 40) (slots + 120)) {d0 : Drawn} (hd0 : s.drawn.sameBut d0 lw_cs) {ju mi lo : Int32} {rs : List RV} {H : Heap} {locs : List Loc} {ls : Array Slot} (hLS : LwS D Y F t0 la x na o A ju mi lo rs H) (hS : va_S (bigA s) s.heap H locs) (hl : lv_has ls 9 (lwL b x (A 0) o i)) : lwW p l e s m below meth c b d0 H locs cells slots (F0 m 898 ls []) := by
  obtain ⟨C0, hK0, hE0, hFx, hlt, hL⟩ := hEn
  obtain ⟨hx, hb, hr, hml, hown, hts0, hXs, hbl, hlocks, hgv⟩ := id C0
  have Sd : ∀ d : Drawn, CallFix p m c cL_law 9 (s.setDrawn d) #[Value.ref b] wsL_law RL := fun d => ⟨hx, hb, hml, hown, dr_words (fun w h => hts0 w (wsL_law_in w h)) d⟩
  obtain ⟨hC, ⟨th, hmd⟩, ⟨w0, hO⟩, hFr⟩ := hLS
  obtain ⟨ea, cap, mod, es, nt, Lr, hA, -⟩ := hC.rd
  have hl : lv_has ls 9 [(0, .ref b), (1, .ref x), (2, .ref (A 0)), (3, .ref o), (4, .int (nI i))] := hl
  refine lv_aload_n hx hb dL_law_898 rfl (lv_at hl 1 rfl) ?_
  refine va_callfD hd0 (va_runV_D (As := []) (rest := []) (Sd d0) (k_X2_averageLooks l hA) (cwV 0 (Sd d0).2.2.2.2 gL_law_X2_averageLooks rfl rfl rfl (by decide +kernel) ⟨Nat.le_of_ble_eq_true rfl, Nat.le_of_ble_eq_true rfl⟩) ⟨RdP.blind, va_recv (hK0.drawn d0).1 hA.1 (ci := 2) (q0 := 0) rfl rfl, fun U hU hW => ⟨rfl, hU, KK.warm hW (hK0.drawn d0)⟩⟩ rfl rfl hl.1 rfl (lv_room (Nat.le_of_ble_eq_true rfl)) dL_law_899 ⟨(by show cells + 0 ≤ 601024; omega), (by show slots + 0 ≤ 7293034; omega)⟩) hS (fun q _ h => h.elim) (fun q h => h.elim) (fun r1 u1 t1 H1 locs9 ht1 hvm1 hw1 hB1 hz1 hk1 hS9 d1 hd1 => ?_)
  have e1 : H1 = H := by rw [← ht1]; exact hB1
  subst e1
  have hS := hS9
  refine lv_f2d_any hd1 lw_bits hx hb dL_law_902 (fun p1 d2 hal1 hd2 => ?_)
  refine lv_dstore (lv' := [(5, .double p1), (0, .ref b), (1, .ref x), (2, .ref (A 0)), (3, .ref o), (4, .int (nI i))]) hx hb dL_law_903 hl (by decide) rfl (fun ls hl => ?_)
  refine lv_aload_n hx hb dL_law_905 rfl (lv_at hl 3 rfl) ?_
  obtain ⟨f, bf, ca, bg, sz, hf, hPm⟩ := hmd
  have hDm : va_D (bigA s) (wM Y A th (nI rs.length) mi ju lo f bf ca bg sz) := wM_D hFx th _ mi ju lo f bf ca bg sz
  refine va_callfD (A0 := bigA s) hd2 (va_runV_D (As := []) (rest := []) (Sd d2) (k_X3_averageLooks l (A := A) (th := th) (mi := mi) (ju := ju) (lo := lo) (bf := bf) (ca := ca) (bg := bg) (sz := sz) hf) (cwV 0 (Sd d2).2.2.2.2 gL_law_X3_averageLooks rfl rfl rfl (by decide +kernel) ⟨Nat.le_of_ble_eq_true rfl, Nat.le_of_ble_eq_true rfl⟩) ⟨MuP.blind, va_recv (hK0.drawn d2).1 hPm (ci := 3) (q0 := 0) rfl rfl, fun U hU hW => ⟨rfl, ⟨by rw [hU]; exact hPm, hDm.weaken (fun _ _ _ _ => trivial)⟩, KK.warm hW (hK0.drawn d2)⟩⟩ rfl rfl hl.1 rfl (lv_room (Nat.le_of_ble_eq_true rfl)) dL_law_906 ⟨(by show cells + 0 + 0 ≤ 601024; omega), (by show slots + 0 + 0 ≤ 7293034; omega)⟩) hS (fun q _ h => adr_in hDm q h) (fun q h => adr_in hDm q h) (fun r2 u2 t2 H2 locs ht2 hvm2 hw2 hB2 hz2 hkp2 hS d3 hd3 => ?_)
  have hB2 : mdB D Y A (nI 0) mi ju lo rs t2.heap := hB2
  rw [ht2] at hB2
  have hC2 := hC.kept (fun q hq hFq => hkp2 q hq (fun z => by obtain ⟨i9, h9, e9⟩ := wM_adr z; exact (hFx.2.1 i9 h9).1 (e9 ▸ hFq)))
  have hO2 := hO.kept (hkp2 o hO.lt (fun z => by obtain ⟨i9, h9, e9⟩ := wM_adr z; exact (hFx.2.1 i9 h9).2.1 e9.symm))
  have hFr2 : ∀ q, H2.size ≤ q → F q := fun q hq => hFr q (by omega)
  refine lv_f2d_any hd3 lw_bits hx hb dL_law_909 (fun p2 d4 hal2 hd4 => ?_)
  refine lv_dstore (lv' := [(7, .double p2), (5, .double p1), (0, .ref b), (1, .ref x), (2, .ref (A 0)), (3, .ref o), (4, .int (nI i))]) hx hb dL_law_910 hl (by decide) rfl (fun ls hl => ?_)
  refine lv_dload hx hb dL_law_912 (lv_at hl 1 rfl) ?_
  refine lv_dload hx hb dL_law_914 (lv_at hl 0 rfl) ?_
  refine lv_dcmp hx hb dL_law_916 ?_
  have hE : W p l e room_1 (s.setDrawn d4) m #[Value.ref b] below meth c H2 locs (cells + 0 + 0) (slots + 0 + 0) (lw_Z below #[Value.ref b] s) (F0 m 938 ls []) := by
    refine lv_goto (tgt := 1554) hx hb dL_law_938 (by decide) ?_
    refine W.widen (k := cells + 40) (n := slots + 120) (by omega) (by omega) ?_
    exact hN d4 ju mi lo rs H2 locs ls hd4 ⟨hC2, ⟨_, hB2⟩, ⟨_, hO2⟩, hFr2⟩ hS (lv_sub hl [2, 3, 4, 5, 6] rfl)
  rcases av_cmp (av_dbl (av_two hw1 hw2) hal1 hal2) with hq | ⟨hq, hq1, hq2⟩
  · rw [hq]
    exact lv_if_eq (tgt := 938) hx hb dL_law_917 (by decide) (fun _ => hE) (fun z => absurd (by decide +kernel) z)
  · rw [hq]
    refine lv_if_eq (tgt := 938) hx hb dL_law_917 (by decide) (fun _ => hE) (fun _ => ?_)
    refine lv_dload hx hb dL_law_920 (lv_at hl 1 rfl) ?_
    refine lv_dload hx hb dL_law_922 (lv_at hl 1 rfl) ?_
    refine lv_dcmp hx hb dL_law_924 ?_
    rw [hq1]
    refine lv_if_eq (tgt := 936) hx hb dL_law_925 (by decide) (fun z => absurd z (by decide +kernel)) (fun _ => ?_)
    refine lv_dload hx hb dL_law_928 (lv_at hl 0 rfl) ?_
    refine lv_dload hx hb dL_law_930 (lv_at hl 0 rfl) ?_
    refine lv_dcmp hx hb dL_law_932 ?_
    rw [hq2]
    exact lv_if_ne (tgt := 938) hx hb dL_law_933 (by decide) (fun _ => hE) (fun z => absurd z (by decide +kernel))
theorem and_31 (v : Int32) : ∃ k : Nat, k < 32 ∧ v &&& nI 31 = nI k := by
  refine ⟨(v &&& nI 31).toBitVec.toNat, ?_, ?_⟩
  · show (v.toBitVec &&& (nI 31).toBitVec).toNat < 32
    rw [BitVec.toNat_and]
    have h : (nI 31).toBitVec.toNat = 31 := by decide +kernel
    rw [h]
    exact Nat.lt_of_le_of_lt Nat.and_le_right (by decide)
  · refine Int32.toBitVec_inj.mp ?_
    show (v &&& nI 31).toBitVec = BitVec.ofNat 32 (v &&& nI 31).toBitVec.toNat
    rw [BitVec.ofNat_toNat, BitVec.setWidth_eq]
theorem len7 {L i : Nat} (hL : L ≤ 3584) (hi : i ≤ 3584) (h : ¬ nI L - nI 7 < nI i) : i + 7 ≤ L := by
  by_cases h7 : 7 ≤ L
  · rw [pk_sub h7, nI_ltI (by omega) (by omega)] at h
    omega
  · exfalso
    refine h ?_
    rw [Int32.lt_iff_toInt_lt, nI_toInt (by omega)]
    have k : ∀ z : Fin 7, (nI z.val - nI 7).toInt < 0 := by decide +kernel
    have k1 := k ⟨L, by omega⟩
    have k2 : (nI L - nI 7).toInt < 0 := k1
    omega
set_option maxHeartbeats 4000000 in
set_option maxRecDepth 100000 in
theorem law_loop {p : Program} {l : Launch} {e : Env} {s : State} {m : MethodId} {below : List Frame} {meth : Method} {c : Code} {b L : Nat} {xs : Nat → Int32} {D : va_G} {Y : Nat → ClassId} {F : Nat → Prop} {t0 la x na o : Nat} {A : Nat → Nat} (hEn : LEn l p s m meth c b L xs D Y F t0 o A) : ∀ (n j : Nat), 513 - j < n → j ≤ 512 → ∀ (d0 : Drawn) (ju mi lo : Int32) (rs : List RV) (H : Heap) (locs : List Loc) (ls : Array Slot), s.drawn.sameBut d0 lw_cs → LwS D Y F t0 la x na o A ju mi lo rs H → va_S (bigA s) s.heap H locs → lv_has ls 9 (lwL b x (A 0) o (7 * j)) → lwW p l e s m below meth c b d0 H locs (100 + 40 * j) (1000 + 120 * j) (F0 m 23 ls []) := by
  intro n
  induction n with
  | zero => exact fun j h => absurd h (Nat.not_lt_zero _)
  | succ n ih =>
    intro j hn hj d0 ju mi lo rs H locs ls hd0 hLS hS hl
    have hEn2 := hEn
    obtain ⟨C0, hK0, hE0, hFx, hlt, hL⟩ := hEn2
    obtain ⟨hx, hb, hr, hml, hown, hts0, hXs, hbl, hlocks, hgv⟩ := id C0
    have hXd : va_X b L xs (s.setDrawn d0) s.heap := va_X.moved (u := s) (U := s.setDrawn d0) (Vm.Alike.refl s.vm) hXs
    have hbA : ¬ bigA s b := Nat.not_le.mpr hbl
    have hl : lv_has ls 9 [(0, .ref b), (1, .ref x), (2, .ref (A 0)), (3, .ref o), (4, .int (nI (7 * j)))] := hl
    refine lv_iload hx hb dL_law_23 (lv_at hl 4 rfl) ?_
    refine lv_aload_n hx hb dL_law_25 rfl (lv_at hl 0 rfl) ?_
    refine va_slen hx hb hXd hbl hbA hS dL_law_26 ?_
    refine lv_bipush (v := nI 7) hx hb dL_law_27 (by decide +kernel) ?_
    refine lv_isub hx hb dL_law_29 ?_
    refine lv_icmp_gt (tgt := 1560) hx hb dL_law_30 (by decide) (fun _ => ?_) (fun cg => ?_)
    · refine lv_iconst (v := 1) hx hb dL_law_1560 (by decide) ?_
      refine va_forget (fun q hq => hS.2.2 q hq) ?_
      refine W.widen (k := 601024) (n := 7293034) (by omega) (by omega) ?_
      exact lw_ret hd0 hx hb hr hlocks dL_law_1561
    · have hi : 7 * j + 7 ≤ L := len7 hL (by omega) cg
      refine lv_aload_n hx hb dL_law_33 rfl (lv_at hl 0 rfl) ?_
      refine lv_iload hx hb dL_law_34 (lv_at hl 4 rfl) ?_
      refine nr_sld (j := 7 * j) hx hb hXd hbl hbA hS (by omega) (by omega) dL_law_36 ?_
      refine lv_bipush (v := nI 31) hx hb dL_law_37 (by decide +kernel) ?_
      refine lv_iand hx hb dL_law_39 ?_
      have hN : LNx p l e s m below meth c b D Y F t0 la x na o A (7 * j) (100 + 40 * j + 40) (1000 + 120 * j + 120) := by
        intro d0 ju mi lo rs H locs ls hd0 hLS hS hl
        have hl : lv_has ls 9 [(0, .ref b), (1, .ref x), (2, .ref (A 0)), (3, .ref o), (4, .int (nI (7 * j)))] := hl
        refine lv_iinc (v := nI (7 * (j + 1))) (lv' := [(4, .int (nI (7 * (j + 1)))), (0, .ref b), (1, .ref x), (2, .ref (A 0)), (3, .ref o)]) hx hb dL_law_1554 hl (k := 4) rfl ((nI_add (7 * j) 7).trans (congrArg nI (by omega))) (by decide) rfl (fun ls hl => ?_)
        refine lv_goto (tgt := 23) hx hb dL_law_1557 (by decide) ?_
        have h := ih (j + 1) (by omega) (by omega) d0 ju mi lo rs H locs ls hd0 hLS hS (lv_sub hl [1, 2, 3, 4, 0] rfl)
        rw [show 100 + 40 * (j + 1) = 100 + 40 * j + 40 from by omega, show 1000 + 120 * (j + 1) = 1000 + 120 * j + 120 from by omega] at h
        exact h
      have hc : 100 + 40 * j + 40 ≤ 601024 := by omega
      have hs : 1000 + 120 * j + 120 ≤ 7293034 := by omega
      obtain ⟨k, hk, hv⟩ := and_31 (xs (7 * j))
      rw [hv]
      rcases (show k = 0 ∨ k = 1 ∨ k = 2 ∨ k = 3 ∨ k = 4 ∨ k = 5 ∨ k = 6 ∨ k = 7 ∨ k = 8 ∨ k = 9 ∨ k = 10 ∨ k = 11 ∨ k = 12 ∨ k = 13 ∨ k = 14 ∨ k = 15 ∨ k = 16 ∨ k = 17 ∨ k = 18 ∨ k = 19 ∨ k = 20 ∨ k = 21 ∨ k = 22 ∨ k = 23 ∨ k = 24 ∨ k = 25 ∨ 26 ≤ k by omega) with rfl | rfl | rfl | rfl | rfl | rfl | rfl | rfl | rfl | rfl | rfl | rfl | rfl | rfl | rfl | rfl | rfl | rfl | rfl | rfl | rfl | rfl | rfl | rfl | rfl | rfl | h26
      · refine lv_tableIn (tgt := 160) (off := 120) hx hb dL_law_40 (by decide +kernel) (by decide +kernel) (by decide +kernel) (by decide) ?_
        exact lc_add hEn hi hc hs hN hd0 hLS hS hl
      · refine lv_tableIn (tgt := 294) (off := 254) hx hb dL_law_40 (by decide +kernel) (by decide +kernel) (by decide +kernel) (by decide) ?_
        exact lc_remove hEn hi hc hs hN hd0 hLS hS hl
      · refine lv_tableIn (tgt := 350) (off := 310) hx hb dL_law_40 (by decide +kernel) (by decide +kernel) (by decide +kernel) (by decide) ?_
        exact lc_move hEn hi hc hs hN hd0 hLS hS hl
      · refine lv_tableIn (tgt := 418) (off := 378) hx hb dL_law_40 (by decide +kernel) (by decide +kernel) (by decide +kernel) (by decide) ?_
        exact lc_rules hEn hi hc hs hN hd0 hLS hS hl
      · refine lv_tableIn (tgt := 431) (off := 391) hx hb dL_law_40 (by decide +kernel) (by decide +kernel) (by decide +kernel) (by decide) ?_
        exact lc_sources hEn hi hc hs hN hd0 hLS hS hl
      · refine lv_tableIn (tgt := 487) (off := 447) hx hb dL_law_40 (by decide +kernel) (by decide +kernel) (by decide +kernel) (by decide) ?_
        exact lc_destinations hEn hi hc hs hN hd0 hLS hS hl
      · refine lv_tableIn (tgt := 543) (off := 503) hx hb dL_law_40 (by decide +kernel) (by decide +kernel) (by decide +kernel) (by decide) ?_
        exact lc_protocols hEn hi hc hs hN hd0 hLS hS hl
      · refine lv_tableIn (tgt := 599) (off := 559) hx hb dL_law_40 (by decide +kernel) (by decide +kernel) (by decide +kernel) (by decide) ?_
        exact lc_permits hEn hi hc hs hN hd0 hLS hS hl
      · refine lv_tableIn (tgt := 662) (off := 622) hx hb dL_law_40 (by decide +kernel) (by decide +kernel) (by decide +kernel) (by decide) ?_
        exact lc_judge hEn hi hc hs hN hd0 hLS hS hl
      · refine lv_tableIn (tgt := 749) (off := 709) hx hb dL_law_40 (by decide +kernel) (by decide +kernel) (by decide +kernel) (by decide) ?_
        exact lc_decider hEn hi hc hs hN hd0 hLS hS hl
      · refine lv_tableIn (tgt := 829) (off := 789) hx hb dL_law_40 (by decide +kernel) (by decide +kernel) (by decide +kernel) (by decide) ?_
        exact lc_hits hEn hi hc hs hN hd0 hLS hS hl
      · refine lv_tableIn (tgt := 885) (off := 845) hx hb dL_law_40 (by decide +kernel) (by decide +kernel) (by decide +kernel) (by decide) ?_
        exact lc_misses hEn hi hc hs hN hd0 hLS hS hl
      · refine lv_tableIn (tgt := 898) (off := 858) hx hb dL_law_40 (by decide +kernel) (by decide +kernel) (by decide +kernel) (by decide) ?_
        exact lc_averageLooks hEn hi hc hs hN hd0 hLS hS hl
      · refine lv_tableIn (tgt := 941) (off := 901) hx hb dL_law_40 (by decide +kernel) (by decide +kernel) (by decide +kernel) (by decide) ?_
        exact lc_decides hEn hi hc hs hN hd0 hLS hS hl
      · refine lv_tableIn (tgt := 997) (off := 957) hx hb dL_law_40 (by decide +kernel) (by decide +kernel) (by decide +kernel) (by decide) ?_
        exact lc_overlap hEn hi hc hs hN hd0 hLS hS hl
      · refine lv_tableIn (tgt := 1065) (off := 1025) hx hb dL_law_40 (by decide +kernel) (by decide +kernel) (by decide +kernel) (by decide) ?_
        exact lc_isShadowed hEn hi hc hs hN hd0 hLS hS hl
      · refine lv_tableIn (tgt := 1128) (off := 1088) hx hb dL_law_40 (by decide +kernel) (by decide +kernel) (by decide +kernel) (by decide) ?_
        exact lc_shadowedBy hEn hi hc hs hN hd0 hLS hS hl
      · refine lv_tableIn (tgt := 1184) (off := 1144) hx hb dL_law_40 (by decide +kernel) (by decide +kernel) (by decide +kernel) (by decide) ?_
        exact lc_isRedundant hEn hi hc hs hN hd0 hLS hS hl
      · refine lv_tableIn (tgt := 1247) (off := 1207) hx hb dL_law_40 (by decide +kernel) (by decide +kernel) (by decide +kernel) (by decide) ?_
        exact lc_permitted hEn hi hc hs hN hd0 hLS hS hl
      · refine lv_tableIn (tgt := 1260) (off := 1220) hx hb dL_law_40 (by decide +kernel) (by decide +kernel) (by decide +kernel) (by decide) ?_
        exact lc_canMerge hEn hi hc hs hN hd0 hLS hS hl
      · refine lv_tableIn (tgt := 1323) (off := 1283) hx hb dL_law_40 (by decide +kernel) (by decide +kernel) (by decide +kernel) (by decide) ?_
        exact lc_shorten hEn hi hc hs hN hd0 hLS hS hl
      · refine lv_tableIn (tgt := 1336) (off := 1296) hx hb dL_law_40 (by decide +kernel) (by decide +kernel) (by decide +kernel) (by decide) ?_
        exact lc_sortByHits hEn hi hc hs hN hd0 hLS hS hl
      · refine lv_tableIn (tgt := 1349) (off := 1309) hx hb dL_law_40 (by decide +kernel) (by decide +kernel) (by decide +kernel) (by decide) ?_
        exact lc_entries hEn hi hc hs hN hd0 hLS hS hl
      · refine lv_tableIn (tgt := 1405) (off := 1365) hx hb dL_law_40 (by decide +kernel) (by decide +kernel) (by decide +kernel) (by decide) ?_
        exact lc_entryValue hEn hi hc hs hN hd0 hLS hS hl
      · refine lv_tableIn (tgt := 1473) (off := 1433) hx hb dL_law_40 (by decide +kernel) (by decide +kernel) (by decide +kernel) (by decide) ?_
        exact lc_entryMask hEn hi hc hs hN hd0 hLS hS hl
      · refine lv_tableIn (tgt := 1541) (off := 1501) hx hb dL_law_40 (by decide +kernel) (by decide +kernel) (by decide +kernel) (by decide) ?_
        exact lc_allEntries hEn hi hc hs hN hd0 hLS hS hl
      · refine lv_tableOut (tgt := 1554) hx hb dL_law_40 (Or.inr (by rw [nI_toInt (by omega)]; omega)) (by decide) ?_
        refine W.widen (k := 100 + 40 * j + 40) (n := 1000 + 120 * j + 120) (by omega) (by omega) ?_
        exact hN d0 ju mi lo rs H locs ls hd0 hLS hS hl
