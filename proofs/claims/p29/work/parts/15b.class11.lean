/-! the class: what throws -/
theorem sub_iN : ∀ (n : Fin 17) (k : Fin 3), (nI n.val - nI k.val).toInt = (n.val : Int) - (k.val : Int) := by decide +kernel
theorem sub_iI {n k : Nat} (hn : n ≤ 16) (hk : k ≤ 2) : (nI n - nI k).toInt = (n : Int) - (k : Int) := sub_iN ⟨n, by omega⟩ ⟨k, by omega⟩
theorem pl_nlt {pl : Int32} {n : Nat} (hn : n ≤ 16) (h : plI pl n = false) (h1 : ¬ pl < 0) : ¬ pl < nI n := by
  intro h2
  have h3 : plI pl n = true := by
    unfold plI
    rw [i_iff, sub_iI hn (by decide), nI_toInt (by decide)]
    rw [Int32.lt_iff_toInt_lt, show (0 : Int32).toInt = 0 from by decide] at h1
    rw [Int32.lt_iff_toInt_lt, nI_toInt (by omega)] at h2
    omega
  rw [h] at h3
  cases h3
theorem pm_nlt {pl : Int32} {n : Nat} (hn : n ≤ 16) (h : inI pl (nI 0) (nI n - nI 2) = false) (h1 : ¬ pl < 0) : ¬ pl < nI n - nI 1 := by
  intro h2
  have h3 : inI pl (nI 0) (nI n - nI 2) = true := by
    rw [i_iff, sub_iI hn (by decide), nI_toInt (by decide)]
    rw [Int32.lt_iff_toInt_lt, show (0 : Int32).toInt = 0 from by decide] at h1
    rw [Int32.lt_iff_toInt_lt, sub_iI hn (by decide)] at h2
    omega
  rw [h] at h3
  cases h3
theorem voe_n {en : Int32} {n b : Nat} (hn : n ≤ 128) (he : inI en (nI 0) (nI n - nI 1) = false) (hb : b < n) : ¬ nI b = en := by
  intro z
  have h3 : inI en (nI 0) (nI n - nI 1) = true := by
    rw [pk_sub (by omega), i_iff, ← z, nI_toInt (by omega), nI_toInt (by omega), nI_toInt (by omega)]
    omega
  rw [he] at h3
  cases h3
theorem ent_lt {a b c x y z : Nat} (ha : a < x) (hb : b < y) (hc : c < z) : a * (y * z) + b * z + c < x * y * z := by
  have h1 := Nat.mul_le_mul_right z (Nat.succ_le_of_lt hb)
  rw [Nat.succ_mul] at h1
  have h2 := Nat.mul_le_mul_right (y * z) (Nat.succ_le_of_lt ha)
  rw [Nat.succ_mul] at h2
  rw [Nat.mul_assoc x y z]
  omega
theorem ad_k {x y : Bool} {q0 : Int32} (hr : (x && y && inI q0 (nI 1) (nI 15)) = false) (hx : x = true) (hy : y = true) (h1 : ¬ q0 < nI 1) : ¬ q0 ≤ nI 15 := by
  intro h2
  have h3 : inI q0 (nI 1) (nI 15) = true := by
    rw [i_iff]
    rw [Int32.lt_iff_toInt_lt] at h1
    rw [Int32.le_iff_toInt_le] at h2
    omega
  rw [hx, hy, h3] at hr
  cases hr
theorem ad_t {x y : Bool} {q0 : Int32} (hr : (x && y && inI q0 (nI 1) (nI 15)) = true) : x = true ∧ y = true ∧ ¬ q0 < nI 1 ∧ q0 ≤ nI 15 := by
  rw [Bool.and_eq_true, Bool.and_eq_true, i_iff] at hr
  rw [Int32.lt_iff_toInt_lt, Int32.le_iff_toInt_le]
  exact ⟨hr.1.1, hr.1.2, by omega, by omega⟩
theorem pk_k {a b q : Int32} (hpk : pkB a b q = false) (h1 : ¬ a < 0) (h2 : ¬ nI 32 ≤ a) (h3 : ¬ b < 0) (h4 : b < nI 32) (h5 : ¬ q < 0) : ¬ q < nI 4 := by
  intro h6
  have h7 : pkB a b q = true := by
    unfold pkB
    rw [Bool.and_eq_true, Bool.and_eq_true, i_iff, i_iff, i_iff, nI_toInt (by decide), nI_toInt (by decide), nI_toInt (by decide)]
    rw [Int32.lt_iff_toInt_lt, show (0 : Int32).toInt = 0 from by decide] at h1 h3 h5
    rw [Int32.le_iff_toInt_le, nI_toInt (by decide)] at h2
    rw [Int32.lt_iff_toInt_lt, nI_toInt (by decide)] at h4 h6
    omega
  rw [hpk] at h7
  cases h7
set_option maxHeartbeats 4000000 in
set_option maxRecDepth 100000 in
theorem k_X2_checkPlace_x (l : Launch) (hlt : l.stackTraces = false) {D : va_G} {Y : Nat → ClassId} {H : Heap} {A : Nat → Prop} {x la na ea cap : Nat} {mod ju mi lo : Int32} {es : Nat → Option Nat} {nt : Nat → Int32} {L : List RA} {pl : Int32}  (hA : rdA D Y x la na ea cap mod es nt ju mi lo L H) (hpl : plI pl L.length = false) : Th l yX2_checkPlace wsX2_checkPlace 6 D Y A [.ref (x), .int (pl)] H xIO := by
  refine Th.start (cc := cX2_checkPlace) (maxL := 2) (ret := none) (by decide) rfl (Nat.le_of_ble_eq_true rfl) ?_
  intro p e s m args below meth c ls S hK hsH hXt hl hO
  have S : CallFix p m c cX2_checkPlace 2 s args wsX2_checkPlace RX2 := S
  have hx := S.1
  have hb := S.2.1
  have hts := S.2.2.2.2
  have hl : lv_has ls 2 [(0, .ref (x)), (1, .int (pl))] := hl
  have hA0 := hA
  have hA0 := hA
  obtain ⟨hX, hL, hN, hE2, hR, hok⟩ := hA
  have hlen : (RS L).length = L.length := List.length_map ..
  have hn : L.length ≤ 16 := by have := hok.1; omega
  have hoo : ∀ i, i < L.length → rvOk (gt (RS L) i) := fun i hi => hok.2 i (by omega)
  refine lv_iload_n hx hb dX2_checkPlace_0 rfl (lv_at hl 1 rfl) ?_
  refine lv_if_lt (tgt := 15) hx hb dX2_checkPlace_1 (by decide) (fun c_1 => ?_) (fun c_1 => ?_)
  · exact Th.throwS (E0 := xIO) (ik := 150) (is := 187) (ic := 154) S hlt hsH hXt hO (by decide) (List.mem_of_getElem? (i := 1) rfl) (List.mem_of_getElem? (i := 2) rfl) (fun _ h => List.mem_cons_of_mem _ (List.mem_append_right _ (h))) (by decide +kernel) (by decide +kernel) (List.mem_of_getElem? (i := 8) rfl) hl.1 dX2_checkPlace_15 dX2_checkPlace_18 dX2_checkPlace_19 dX2_checkPlace_21 dX2_checkPlace_24 (Nat.le_of_ble_eq_true rfl) (Nat.le_of_ble_eq_true rfl)
  · refine lv_iload_n hx hb dX2_checkPlace_4 rfl (lv_at hl 1 rfl) ?_
    refine lv_aload_n hx hb dX2_checkPlace_5 rfl (lv_at hl 0 rfl) ?_
    refine nr_get (C := RX2) (T := TX2) (N := 5) (ci := 2) S (fun _ h => List.mem_cons_of_mem _ (List.mem_append_left _ (List.mem_append_left _ (List.mem_append_right _ (h))))) hK hX 0 rfl rfl 0 (by decide) (List.mem_of_getElem? (i := 3) rfl) rfl dX2_checkPlace_6 ?_
    refine Rd.callV (r := (nI (L.length))) (As := []) S (k_Jx4a65c_size_8abf5 l hL) (cwV 0 hts gX2_checkPlace_Jx4a65c_size_8abf5 rfl rfl rfl (by decide +kernel) ⟨Nat.le_of_ble_eq_true rfl, Nat.le_of_ble_eq_true rfl⟩) hK (va_recv hK.1 hL (ci := 4) (q0 := 0) rfl rfl) rfl hl.1 rfl (Nat.le_of_ble_eq_true rfl) dX2_checkPlace_9 ⟨Nat.le_of_ble_eq_true rfl, Nat.le_of_ble_eq_true rfl⟩ ?_
    refine lv_icmp_lt (tgt := 25) hx hb dX2_checkPlace_12 (by decide) (fun c_12 => absurd c_12 (pl_nlt hn hpl c_1)) (fun c_12 => ?_)
    exact Th.throwS (E0 := xIO) (ik := 150) (is := 187) (ic := 154) S hlt hsH hXt hO (by decide) (List.mem_of_getElem? (i := 1) rfl) (List.mem_of_getElem? (i := 2) rfl) (fun _ h => List.mem_cons_of_mem _ (List.mem_append_right _ (h))) (by decide +kernel) (by decide +kernel) (List.mem_of_getElem? (i := 8) rfl) hl.1 dX2_checkPlace_15 dX2_checkPlace_18 dX2_checkPlace_19 dX2_checkPlace_21 dX2_checkPlace_24 (Nat.le_of_ble_eq_true rfl) (Nat.le_of_ble_eq_true rfl)
set_option maxHeartbeats 4000000 in
set_option maxRecDepth 100000 in
theorem k_X2_ruleAt_x (l : Launch) (hlt : l.stackTraces = false) {D : va_G} {Y : Nat → ClassId} {H : Heap} {A : Nat → Prop} {x la na ea cap : Nat} {mod ju mi lo : Int32} {es : Nat → Option Nat} {nt : Nat → Int32} {L : List RA} {pl : Int32}  (hA : rdA D Y x la na ea cap mod es nt ju mi lo L H) (hpl : plI pl L.length = false) : Th l yX2_ruleAt wsX2_ruleAt 7 D Y A [.ref (x), .int (pl)] H xIO := by
  refine Th.start (cc := cX2_ruleAt) (maxL := 2) (ret := (some (.object "Aclsmith$Rule"))) (by decide) rfl (Nat.le_of_ble_eq_true rfl) ?_
  intro p e s m args below meth c ls S hK hsH hXt hl hO
  have S : CallFix p m c cX2_ruleAt 2 s args wsX2_ruleAt RX2 := S
  have hx := S.1
  have hb := S.2.1
  have hts := S.2.2.2.2
  have hl : lv_has ls 2 [(0, .ref (x)), (1, .int (pl))] := hl
  have hA0 := hA
  have hA0 := hA
  obtain ⟨hX, hL, hN, hE2, hR, hok⟩ := hA
  have hlen : (RS L).length = L.length := List.length_map ..
  have hn : L.length ≤ 16 := by have := hok.1; omega
  have hoo : ∀ i, i < L.length → rvOk (gt (RS L) i) := fun i hi => hok.2 i (by omega)
  refine lv_aload_n hx hb dX2_ruleAt_0 rfl (lv_at hl 0 rfl) ?_
  refine lv_iload_n hx hb dX2_ruleAt_1 rfl (lv_at hl 1 rfl) ?_
  exact Th.callV (As := [.int (pl)]) S (k_X2_checkPlace_x l hlt hA0 (pl := (pl)) (by exact hpl)) (cwV 1 hts gX2_ruleAt_X2_checkPlace rfl rfl rfl (by decide +kernel) ⟨Nat.le_of_ble_eq_true rfl, Nat.le_of_ble_eq_true rfl⟩) hK hXt hO (va_recv hK.1 hX (ci := 2) (q0 := 0) rfl rfl) rfl hl.1 rfl (Nat.le_of_ble_eq_true rfl) dX2_ruleAt_2 ⟨Nat.le_of_ble_eq_true rfl, Nat.le_of_ble_eq_true rfl⟩
set_option maxHeartbeats 4000000 in
set_option maxRecDepth 100000 in
theorem k_X2_sources_x (l : Launch) (hlt : l.stackTraces = false) {D : va_G} {Y : Nat → ClassId} {H : Heap} {A : Nat → Prop} {x la na ea cap : Nat} {mod ju mi lo : Int32} {es : Nat → Option Nat} {nt : Nat → Int32} {L : List RA} {pl : Int32}  (hA : rdA D Y x la na ea cap mod es nt ju mi lo L H) (hpl : plI pl L.length = false) : Th l yX2_sources wsX2_sources 8 D Y A [.ref (x), .int (pl)] H xIO := by
  refine Th.start (cc := cX2_sources) (maxL := 2) (ret := (some .int)) (by decide) rfl (Nat.le_of_ble_eq_true rfl) ?_
  intro p e s m args below meth c ls S hK hsH hXt hl hO
  have S : CallFix p m c cX2_sources 2 s args wsX2_sources RX2 := S
  have hx := S.1
  have hb := S.2.1
  have hts := S.2.2.2.2
  have hl : lv_has ls 2 [(0, .ref (x)), (1, .int (pl))] := hl
  have hA0 := hA
  have hA0 := hA
  obtain ⟨hX, hL, hN, hE2, hR, hok⟩ := hA
  have hlen : (RS L).length = L.length := List.length_map ..
  have hn : L.length ≤ 16 := by have := hok.1; omega
  have hoo : ∀ i, i < L.length → rvOk (gt (RS L) i) := fun i hi => hok.2 i (by omega)
  refine lv_aload_n hx hb dX2_sources_0 rfl (lv_at hl 0 rfl) ?_
  refine lv_iload_n hx hb dX2_sources_1 rfl (lv_at hl 1 rfl) ?_
  exact Th.callV (As := [.int (pl)]) S (k_X2_ruleAt_x l hlt hA0 (pl := (pl)) (by exact hpl)) (cwV 1 hts gX2_sources_X2_ruleAt rfl rfl rfl (by decide +kernel) ⟨Nat.le_of_ble_eq_true rfl, Nat.le_of_ble_eq_true rfl⟩) hK hXt hO (va_recv hK.1 hX (ci := 2) (q0 := 0) rfl rfl) rfl hl.1 rfl (Nat.le_of_ble_eq_true rfl) dX2_sources_2 ⟨Nat.le_of_ble_eq_true rfl, Nat.le_of_ble_eq_true rfl⟩
set_option maxHeartbeats 4000000 in
set_option maxRecDepth 100000 in
theorem k_X2_destinations_x (l : Launch) (hlt : l.stackTraces = false) {D : va_G} {Y : Nat → ClassId} {H : Heap} {A : Nat → Prop} {x la na ea cap : Nat} {mod ju mi lo : Int32} {es : Nat → Option Nat} {nt : Nat → Int32} {L : List RA} {pl : Int32}  (hA : rdA D Y x la na ea cap mod es nt ju mi lo L H) (hpl : plI pl L.length = false) : Th l yX2_destinations wsX2_destinations 8 D Y A [.ref (x), .int (pl)] H xIO := by
  refine Th.start (cc := cX2_destinations) (maxL := 2) (ret := (some .int)) (by decide) rfl (Nat.le_of_ble_eq_true rfl) ?_
  intro p e s m args below meth c ls S hK hsH hXt hl hO
  have S : CallFix p m c cX2_destinations 2 s args wsX2_destinations RX2 := S
  have hx := S.1
  have hb := S.2.1
  have hts := S.2.2.2.2
  have hl : lv_has ls 2 [(0, .ref (x)), (1, .int (pl))] := hl
  have hA0 := hA
  have hA0 := hA
  obtain ⟨hX, hL, hN, hE2, hR, hok⟩ := hA
  have hlen : (RS L).length = L.length := List.length_map ..
  have hn : L.length ≤ 16 := by have := hok.1; omega
  have hoo : ∀ i, i < L.length → rvOk (gt (RS L) i) := fun i hi => hok.2 i (by omega)
  refine lv_aload_n hx hb dX2_destinations_0 rfl (lv_at hl 0 rfl) ?_
  refine lv_iload_n hx hb dX2_destinations_1 rfl (lv_at hl 1 rfl) ?_
  exact Th.callV (As := [.int (pl)]) S (k_X2_ruleAt_x l hlt hA0 (pl := (pl)) (by exact hpl)) (cwV 1 hts gX2_destinations_X2_ruleAt rfl rfl rfl (by decide +kernel) ⟨Nat.le_of_ble_eq_true rfl, Nat.le_of_ble_eq_true rfl⟩) hK hXt hO (va_recv hK.1 hX (ci := 2) (q0 := 0) rfl rfl) rfl hl.1 rfl (Nat.le_of_ble_eq_true rfl) dX2_destinations_2 ⟨Nat.le_of_ble_eq_true rfl, Nat.le_of_ble_eq_true rfl⟩
set_option maxHeartbeats 4000000 in
set_option maxRecDepth 100000 in
theorem k_X2_protocols_x (l : Launch) (hlt : l.stackTraces = false) {D : va_G} {Y : Nat → ClassId} {H : Heap} {A : Nat → Prop} {x la na ea cap : Nat} {mod ju mi lo : Int32} {es : Nat → Option Nat} {nt : Nat → Int32} {L : List RA} {pl : Int32}  (hA : rdA D Y x la na ea cap mod es nt ju mi lo L H) (hpl : plI pl L.length = false) : Th l yX2_protocols wsX2_protocols 8 D Y A [.ref (x), .int (pl)] H xIO := by
  refine Th.start (cc := cX2_protocols) (maxL := 2) (ret := (some .int)) (by decide) rfl (Nat.le_of_ble_eq_true rfl) ?_
  intro p e s m args below meth c ls S hK hsH hXt hl hO
  have S : CallFix p m c cX2_protocols 2 s args wsX2_protocols RX2 := S
  have hx := S.1
  have hb := S.2.1
  have hts := S.2.2.2.2
  have hl : lv_has ls 2 [(0, .ref (x)), (1, .int (pl))] := hl
  have hA0 := hA
  have hA0 := hA
  obtain ⟨hX, hL, hN, hE2, hR, hok⟩ := hA
  have hlen : (RS L).length = L.length := List.length_map ..
  have hn : L.length ≤ 16 := by have := hok.1; omega
  have hoo : ∀ i, i < L.length → rvOk (gt (RS L) i) := fun i hi => hok.2 i (by omega)
  refine lv_aload_n hx hb dX2_protocols_0 rfl (lv_at hl 0 rfl) ?_
  refine lv_iload_n hx hb dX2_protocols_1 rfl (lv_at hl 1 rfl) ?_
  exact Th.callV (As := [.int (pl)]) S (k_X2_ruleAt_x l hlt hA0 (pl := (pl)) (by exact hpl)) (cwV 1 hts gX2_protocols_X2_ruleAt rfl rfl rfl (by decide +kernel) ⟨Nat.le_of_ble_eq_true rfl, Nat.le_of_ble_eq_true rfl⟩) hK hXt hO (va_recv hK.1 hX (ci := 2) (q0 := 0) rfl rfl) rfl hl.1 rfl (Nat.le_of_ble_eq_true rfl) dX2_protocols_2 ⟨Nat.le_of_ble_eq_true rfl, Nat.le_of_ble_eq_true rfl⟩
set_option maxHeartbeats 4000000 in
set_option maxRecDepth 100000 in
theorem k_X2_permits_x (l : Launch) (hlt : l.stackTraces = false) {D : va_G} {Y : Nat → ClassId} {H : Heap} {A : Nat → Prop} {x la na ea cap : Nat} {mod ju mi lo : Int32} {es : Nat → Option Nat} {nt : Nat → Int32} {L : List RA} {pl : Int32}  (hA : rdA D Y x la na ea cap mod es nt ju mi lo L H) (hpl : plI pl L.length = false) : Th l yX2_permits wsX2_permits 8 D Y A [.ref (x), .int (pl)] H xIO := by
  refine Th.start (cc := cX2_permits) (maxL := 2) (ret := (some .boolean)) (by decide) rfl (Nat.le_of_ble_eq_true rfl) ?_
  intro p e s m args below meth c ls S hK hsH hXt hl hO
  have S : CallFix p m c cX2_permits 2 s args wsX2_permits RX2 := S
  have hx := S.1
  have hb := S.2.1
  have hts := S.2.2.2.2
  have hl : lv_has ls 2 [(0, .ref (x)), (1, .int (pl))] := hl
  have hA0 := hA
  have hA0 := hA
  obtain ⟨hX, hL, hN, hE2, hR, hok⟩ := hA
  have hlen : (RS L).length = L.length := List.length_map ..
  have hn : L.length ≤ 16 := by have := hok.1; omega
  have hoo : ∀ i, i < L.length → rvOk (gt (RS L) i) := fun i hi => hok.2 i (by omega)
  refine lv_aload_n hx hb dX2_permits_0 rfl (lv_at hl 0 rfl) ?_
  refine lv_iload_n hx hb dX2_permits_1 rfl (lv_at hl 1 rfl) ?_
  exact Th.callV (As := [.int (pl)]) S (k_X2_ruleAt_x l hlt hA0 (pl := (pl)) (by exact hpl)) (cwV 1 hts gX2_permits_X2_ruleAt rfl rfl rfl (by decide +kernel) ⟨Nat.le_of_ble_eq_true rfl, Nat.le_of_ble_eq_true rfl⟩) hK hXt hO (va_recv hK.1 hX (ci := 2) (q0 := 0) rfl rfl) rfl hl.1 rfl (Nat.le_of_ble_eq_true rfl) dX2_permits_2 ⟨Nat.le_of_ble_eq_true rfl, Nat.le_of_ble_eq_true rfl⟩
set_option maxHeartbeats 4000000 in
set_option maxRecDepth 100000 in
theorem k_X2_hits_x (l : Launch) (hlt : l.stackTraces = false) {D : va_G} {Y : Nat → ClassId} {H : Heap} {A : Nat → Prop} {x la na ea cap : Nat} {mod ju mi lo : Int32} {es : Nat → Option Nat} {nt : Nat → Int32} {L : List RA} {pl : Int32}  (hA : rdA D Y x la na ea cap mod es nt ju mi lo L H) (hpl : plI pl L.length = false) : Th l yX2_hits wsX2_hits 8 D Y A [.ref (x), .int (pl)] H xIO := by
  refine Th.start (cc := cX2_hits) (maxL := 2) (ret := (some .int)) (by decide) rfl (Nat.le_of_ble_eq_true rfl) ?_
  intro p e s m args below meth c ls S hK hsH hXt hl hO
  have S : CallFix p m c cX2_hits 2 s args wsX2_hits RX2 := S
  have hx := S.1
  have hb := S.2.1
  have hts := S.2.2.2.2
  have hl : lv_has ls 2 [(0, .ref (x)), (1, .int (pl))] := hl
  have hA0 := hA
  have hA0 := hA
  obtain ⟨hX, hL, hN, hE2, hR, hok⟩ := hA
  have hlen : (RS L).length = L.length := List.length_map ..
  have hn : L.length ≤ 16 := by have := hok.1; omega
  have hoo : ∀ i, i < L.length → rvOk (gt (RS L) i) := fun i hi => hok.2 i (by omega)
  refine lv_aload_n hx hb dX2_hits_0 rfl (lv_at hl 0 rfl) ?_
  refine lv_iload_n hx hb dX2_hits_1 rfl (lv_at hl 1 rfl) ?_
  exact Th.callV (As := [.int (pl)]) S (k_X2_ruleAt_x l hlt hA0 (pl := (pl)) (by exact hpl)) (cwV 1 hts gX2_hits_X2_ruleAt rfl rfl rfl (by decide +kernel) ⟨Nat.le_of_ble_eq_true rfl, Nat.le_of_ble_eq_true rfl⟩) hK hXt hO (va_recv hK.1 hX (ci := 2) (q0 := 0) rfl rfl) rfl hl.1 rfl (Nat.le_of_ble_eq_true rfl) dX2_hits_2 ⟨Nat.le_of_ble_eq_true rfl, Nat.le_of_ble_eq_true rfl⟩
set_option maxHeartbeats 4000000 in
set_option maxRecDepth 100000 in
theorem k_X2_decides_x (l : Launch) (hlt : l.stackTraces = false) {D : va_G} {Y : Nat → ClassId} {H : Heap} {A : Nat → Prop} {x la na ea cap : Nat} {mod ju mi lo : Int32} {es : Nat → Option Nat} {nt : Nat → Int32} {L : List RA} {pl : Int32}  (hA : rdA D Y x la na ea cap mod es nt ju mi lo L H) (hpl : plI pl L.length = false) : Th l yX2_decides wsX2_decides 8 D Y A [.ref (x), .int (pl)] H xIO := by
  refine Th.start (cc := cX2_decides) (maxL := 2) (ret := (some .int)) (by decide) rfl (Nat.le_of_ble_eq_true rfl) ?_
  intro p e s m args below meth c ls S hK hsH hXt hl hO
  have S : CallFix p m c cX2_decides 2 s args wsX2_decides RX2 := S
  have hx := S.1
  have hb := S.2.1
  have hts := S.2.2.2.2
  have hl : lv_has ls 2 [(0, .ref (x)), (1, .int (pl))] := hl
  have hA0 := hA
  have hA0 := hA
  obtain ⟨hX, hL, hN, hE2, hR, hok⟩ := hA
  have hlen : (RS L).length = L.length := List.length_map ..
  have hn : L.length ≤ 16 := by have := hok.1; omega
  have hoo : ∀ i, i < L.length → rvOk (gt (RS L) i) := fun i hi => hok.2 i (by omega)
  refine lv_aload_n hx hb dX2_decides_0 rfl (lv_at hl 0 rfl) ?_
  refine lv_aload_n hx hb dX2_decides_1 rfl (lv_at hl 0 rfl) ?_
  refine lv_iload_n hx hb dX2_decides_2 rfl (lv_at hl 1 rfl) ?_
  exact Th.callV (As := [.int (pl)]) S (k_X2_ruleAt_x l hlt hA0 (pl := (pl)) (by exact hpl)) (cwV 1 hts gX2_decides_X2_ruleAt rfl rfl rfl (by decide +kernel) ⟨Nat.le_of_ble_eq_true rfl, Nat.le_of_ble_eq_true rfl⟩) hK hXt hO (va_recv hK.1 hX (ci := 2) (q0 := 0) rfl rfl) rfl hl.1 rfl (Nat.le_of_ble_eq_true rfl) dX2_decides_3 ⟨Nat.le_of_ble_eq_true rfl, Nat.le_of_ble_eq_true rfl⟩
set_option maxHeartbeats 4000000 in
set_option maxRecDepth 100000 in
theorem k_X2_isRedundant_x (l : Launch) (hlt : l.stackTraces = false) {D : va_G} {Y : Nat → ClassId} {H : Heap} {A : Nat → Prop} {x la na ea cap : Nat} {mod ju mi lo : Int32} {es : Nat → Option Nat} {nt : Nat → Int32} {L : List RA} {pl : Int32}  (hA : rdA D Y x la na ea cap mod es nt ju mi lo L H) (hpl : plI pl L.length = false) : Th l yX2_isRedundant wsX2_isRedundant 8 D Y A [.ref (x), .int (pl)] H xIO := by
  refine Th.start (cc := cX2_isRedundant) (maxL := 2) (ret := (some .boolean)) (by decide) rfl (Nat.le_of_ble_eq_true rfl) ?_
  intro p e s m args below meth c ls S hK hsH hXt hl hO
  have S : CallFix p m c cX2_isRedundant 2 s args wsX2_isRedundant RX2 := S
  have hx := S.1
  have hb := S.2.1
  have hts := S.2.2.2.2
  have hl : lv_has ls 2 [(0, .ref (x)), (1, .int (pl))] := hl
  have hA0 := hA
  have hA0 := hA
  obtain ⟨hX, hL, hN, hE2, hR, hok⟩ := hA
  have hlen : (RS L).length = L.length := List.length_map ..
  have hn : L.length ≤ 16 := by have := hok.1; omega
  have hoo : ∀ i, i < L.length → rvOk (gt (RS L) i) := fun i hi => hok.2 i (by omega)
  refine lv_aload_n hx hb dX2_isRedundant_0 rfl (lv_at hl 0 rfl) ?_
  refine lv_aload_n hx hb dX2_isRedundant_1 rfl (lv_at hl 0 rfl) ?_
  refine lv_iload_n hx hb dX2_isRedundant_2 rfl (lv_at hl 1 rfl) ?_
  exact Th.callV (As := [.int (pl)]) S (k_X2_ruleAt_x l hlt hA0 (pl := (pl)) (by exact hpl)) (cwV 1 hts gX2_isRedundant_X2_ruleAt rfl rfl rfl (by decide +kernel) ⟨Nat.le_of_ble_eq_true rfl, Nat.le_of_ble_eq_true rfl⟩) hK hXt hO (va_recv hK.1 hX (ci := 2) (q0 := 0) rfl rfl) rfl hl.1 rfl (Nat.le_of_ble_eq_true rfl) dX2_isRedundant_3 ⟨Nat.le_of_ble_eq_true rfl, Nat.le_of_ble_eq_true rfl⟩
set_option maxHeartbeats 4000000 in
set_option maxRecDepth 100000 in
theorem k_X2_isShadowed_x (l : Launch) (hlt : l.stackTraces = false) {D : va_G} {Y : Nat → ClassId} {H : Heap} {A : Nat → Prop} {x la na ea cap : Nat} {mod ju mi lo : Int32} {es : Nat → Option Nat} {nt : Nat → Int32} {L : List RA} {pl : Int32}  (hA : rdA D Y x la na ea cap mod es nt ju mi lo L H) (hpl : plI pl L.length = false) : Th l yX2_isShadowed wsX2_isShadowed 8 D Y A [.ref (x), .int (pl)] H xIO := by
  refine Th.start (cc := cX2_isShadowed) (maxL := 2) (ret := (some .boolean)) (by decide) rfl (Nat.le_of_ble_eq_true rfl) ?_
  intro p e s m args below meth c ls S hK hsH hXt hl hO
  have S : CallFix p m c cX2_isShadowed 2 s args wsX2_isShadowed RX2 := S
  have hx := S.1
  have hb := S.2.1
  have hts := S.2.2.2.2
  have hl : lv_has ls 2 [(0, .ref (x)), (1, .int (pl))] := hl
  have hA0 := hA
  have hA0 := hA
  obtain ⟨hX, hL, hN, hE2, hR, hok⟩ := hA
  have hlen : (RS L).length = L.length := List.length_map ..
  have hn : L.length ≤ 16 := by have := hok.1; omega
  have hoo : ∀ i, i < L.length → rvOk (gt (RS L) i) := fun i hi => hok.2 i (by omega)
  refine lv_aload_n hx hb dX2_isShadowed_0 rfl (lv_at hl 0 rfl) ?_
  refine lv_aload_n hx hb dX2_isShadowed_1 rfl (lv_at hl 0 rfl) ?_
  refine lv_iload_n hx hb dX2_isShadowed_2 rfl (lv_at hl 1 rfl) ?_
  exact Th.callV (As := [.int (pl)]) S (k_X2_ruleAt_x l hlt hA0 (pl := (pl)) (by exact hpl)) (cwV 1 hts gX2_isShadowed_X2_ruleAt rfl rfl rfl (by decide +kernel) ⟨Nat.le_of_ble_eq_true rfl, Nat.le_of_ble_eq_true rfl⟩) hK hXt hO (va_recv hK.1 hX (ci := 2) (q0 := 0) rfl rfl) rfl hl.1 rfl (Nat.le_of_ble_eq_true rfl) dX2_isShadowed_3 ⟨Nat.le_of_ble_eq_true rfl, Nat.le_of_ble_eq_true rfl⟩
set_option maxHeartbeats 4000000 in
set_option maxRecDepth 100000 in
theorem k_X2_entries_x (l : Launch) (hlt : l.stackTraces = false) {D : va_G} {Y : Nat → ClassId} {H : Heap} {A : Nat → Prop} {x la na ea cap : Nat} {mod ju mi lo : Int32} {es : Nat → Option Nat} {nt : Nat → Int32} {L : List RA} {pl : Int32}  (hA : rdA D Y x la na ea cap mod es nt ju mi lo L H) (hpl : plI pl L.length = false) : Th l yX2_entries wsX2_entries 8 D Y A [.ref (x), .int (pl)] H xIO := by
  refine Th.start (cc := cX2_entries) (maxL := 2) (ret := (some .int)) (by decide) rfl (Nat.le_of_ble_eq_true rfl) ?_
  intro p e s m args below meth c ls S hK hsH hXt hl hO
  have S : CallFix p m c cX2_entries 2 s args wsX2_entries RX2 := S
  have hx := S.1
  have hb := S.2.1
  have hts := S.2.2.2.2
  have hl : lv_has ls 2 [(0, .ref (x)), (1, .int (pl))] := hl
  have hA0 := hA
  have hA0 := hA
  obtain ⟨hX, hL, hN, hE2, hR, hok⟩ := hA
  have hlen : (RS L).length = L.length := List.length_map ..
  have hn : L.length ≤ 16 := by have := hok.1; omega
  have hoo : ∀ i, i < L.length → rvOk (gt (RS L) i) := fun i hi => hok.2 i (by omega)
  refine lv_aload_n hx hb dX2_entries_0 rfl (lv_at hl 0 rfl) ?_
  refine lv_iload_n hx hb dX2_entries_1 rfl (lv_at hl 1 rfl) ?_
  exact Th.callV (As := [.int (pl)]) S (k_X2_ruleAt_x l hlt hA0 (pl := (pl)) (by exact hpl)) (cwV 1 hts gX2_entries_X2_ruleAt rfl rfl rfl (by decide +kernel) ⟨Nat.le_of_ble_eq_true rfl, Nat.le_of_ble_eq_true rfl⟩) hK hXt hO (va_recv hK.1 hX (ci := 2) (q0 := 0) rfl rfl) rfl hl.1 rfl (Nat.le_of_ble_eq_true rfl) dX2_entries_2 ⟨Nat.le_of_ble_eq_true rfl, Nat.le_of_ble_eq_true rfl⟩
set_option maxHeartbeats 4000000 in
set_option maxRecDepth 100000 in
theorem k_X2_shadowedBy_x (l : Launch) (hlt : l.stackTraces = false) {D : va_G} {Y : Nat → ClassId} {H : Heap} {A : Nat → Prop} {x la na ea cap : Nat} {mod ju mi lo : Int32} {es : Nat → Option Nat} {nt : Nat → Int32} {L : List RA} {pl : Int32}  (hA : rdA D Y x la na ea cap mod es nt ju mi lo L H) (hpl : plI pl L.length = false) : Th l yX2_shadowedBy wsX2_shadowedBy 8 D Y A [.ref (x), .int (pl)] H xIO := by
  refine Th.start (cc := cX2_shadowedBy) (maxL := 4) (ret := (some .int)) (by decide) rfl (Nat.le_of_ble_eq_true rfl) ?_
  intro p e s m args below meth c ls S hK hsH hXt hl hO
  have S : CallFix p m c cX2_shadowedBy 4 s args wsX2_shadowedBy RX2 := S
  have hx := S.1
  have hb := S.2.1
  have hts := S.2.2.2.2
  have hl : lv_has ls 4 [(0, .ref (x)), (1, .int (pl))] := hl
  have hA0 := hA
  have hA0 := hA
  obtain ⟨hX, hL, hN, hE2, hR, hok⟩ := hA
  have hlen : (RS L).length = L.length := List.length_map ..
  have hn : L.length ≤ 16 := by have := hok.1; omega
  have hoo : ∀ i, i < L.length → rvOk (gt (RS L) i) := fun i hi => hok.2 i (by omega)
  refine lv_aload_n hx hb dX2_shadowedBy_0 rfl (lv_at hl 0 rfl) ?_
  refine lv_iload_n hx hb dX2_shadowedBy_1 rfl (lv_at hl 1 rfl) ?_
  exact Th.callV (As := [.int (pl)]) S (k_X2_ruleAt_x l hlt hA0 (pl := (pl)) (by exact hpl)) (cwV 1 hts gX2_shadowedBy_X2_ruleAt rfl rfl rfl (by decide +kernel) ⟨Nat.le_of_ble_eq_true rfl, Nat.le_of_ble_eq_true rfl⟩) hK hXt hO (va_recv hK.1 hX (ci := 2) (q0 := 0) rfl rfl) rfl hl.1 rfl (Nat.le_of_ble_eq_true rfl) dX2_shadowedBy_2 ⟨Nat.le_of_ble_eq_true rfl, Nat.le_of_ble_eq_true rfl⟩
set_option maxHeartbeats 4000000 in
set_option maxRecDepth 100000 in
theorem k_X2_entryValue_xp (l : Launch) (hlt : l.stackTraces = false) {D : va_G} {Y : Nat → ClassId} {H : Heap} {A : Nat → Prop} {x la na ea cap : Nat} {mod ju mi lo : Int32} {es : Nat → Option Nat} {nt : Nat → Int32} {L : List RA} {pl en : Int32}  (hA : rdA D Y x la na ea cap mod es nt ju mi lo L H) (hpl : plI pl L.length = false) : Th l yX2_entryValue wsX2_entryValue 8 D Y A [.ref (x), .int (pl), .int (en)] H xIO := by
  refine Th.start (cc := cX2_entryValue) (maxL := 3) (ret := (some .int)) (by decide) rfl (Nat.le_of_ble_eq_true rfl) ?_
  intro p e s m args below meth c ls S hK hsH hXt hl hO
  have S : CallFix p m c cX2_entryValue 3 s args wsX2_entryValue RX2 := S
  have hx := S.1
  have hb := S.2.1
  have hts := S.2.2.2.2
  have hl : lv_has ls 3 [(0, .ref (x)), (1, .int (pl)), (2, .int (en))] := hl
  have hA0 := hA
  have hA0 := hA
  obtain ⟨hX, hL, hN, hE2, hR, hok⟩ := hA
  have hlen : (RS L).length = L.length := List.length_map ..
  have hn : L.length ≤ 16 := by have := hok.1; omega
  have hoo : ∀ i, i < L.length → rvOk (gt (RS L) i) := fun i hi => hok.2 i (by omega)
  refine lv_aload_n hx hb dX2_entryValue_0 rfl (lv_at hl 0 rfl) ?_
  refine lv_iload_n hx hb dX2_entryValue_1 rfl (lv_at hl 1 rfl) ?_
  exact Th.callV (As := [.int (pl)]) S (k_X2_ruleAt_x l hlt hA0 (pl := (pl)) (by exact hpl)) (cwV 1 hts gX2_entryValue_X2_ruleAt rfl rfl rfl (by decide +kernel) ⟨Nat.le_of_ble_eq_true rfl, Nat.le_of_ble_eq_true rfl⟩) hK hXt hO (va_recv hK.1 hX (ci := 2) (q0 := 0) rfl rfl) rfl hl.1 rfl (Nat.le_of_ble_eq_true rfl) dX2_entryValue_2 ⟨Nat.le_of_ble_eq_true rfl, Nat.le_of_ble_eq_true rfl⟩
set_option maxHeartbeats 4000000 in
set_option maxRecDepth 100000 in
theorem k_X2_entryMask_xp (l : Launch) (hlt : l.stackTraces = false) {D : va_G} {Y : Nat → ClassId} {H : Heap} {A : Nat → Prop} {x la na ea cap : Nat} {mod ju mi lo : Int32} {es : Nat → Option Nat} {nt : Nat → Int32} {L : List RA} {pl en : Int32}  (hA : rdA D Y x la na ea cap mod es nt ju mi lo L H) (hpl : plI pl L.length = false) : Th l yX2_entryMask wsX2_entryMask 8 D Y A [.ref (x), .int (pl), .int (en)] H xIO := by
  refine Th.start (cc := cX2_entryMask) (maxL := 8) (ret := (some .int)) (by decide) rfl (Nat.le_of_ble_eq_true rfl) ?_
  intro p e s m args below meth c ls S hK hsH hXt hl hO
  have S : CallFix p m c cX2_entryMask 8 s args wsX2_entryMask RX2 := S
  have hx := S.1
  have hb := S.2.1
  have hts := S.2.2.2.2
  have hl : lv_has ls 8 [(0, .ref (x)), (1, .int (pl)), (2, .int (en))] := hl
  have hA0 := hA
  have hA0 := hA
  obtain ⟨hX, hL, hN, hE2, hR, hok⟩ := hA
  have hlen : (RS L).length = L.length := List.length_map ..
  have hn : L.length ≤ 16 := by have := hok.1; omega
  have hoo : ∀ i, i < L.length → rvOk (gt (RS L) i) := fun i hi => hok.2 i (by omega)
  refine lv_aload_n hx hb dX2_entryMask_0 rfl (lv_at hl 0 rfl) ?_
  refine lv_iload_n hx hb dX2_entryMask_1 rfl (lv_at hl 1 rfl) ?_
  exact Th.callV (As := [.int (pl)]) S (k_X2_ruleAt_x l hlt hA0 (pl := (pl)) (by exact hpl)) (cwV 1 hts gX2_entryMask_X2_ruleAt rfl rfl rfl (by decide +kernel) ⟨Nat.le_of_ble_eq_true rfl, Nat.le_of_ble_eq_true rfl⟩) hK hXt hO (va_recv hK.1 hX (ci := 2) (q0 := 0) rfl rfl) rfl hl.1 rfl (Nat.le_of_ble_eq_true rfl) dX2_entryMask_2 ⟨Nat.le_of_ble_eq_true rfl, Nat.le_of_ble_eq_true rfl⟩
set_option maxHeartbeats 4000000 in
set_option maxRecDepth 100000 in
theorem k_X2_remove_x (l : Launch) (hlt : l.stackTraces = false) {D : va_G} {Y : Nat → ClassId} {H : Heap} {A : Nat → Prop} {x la na ea cap : Nat} {mod ju mi lo : Int32} {es : Nat → Option Nat} {nt : Nat → Int32} {L : List RA} {pl : Int32}  (hA : rdA D Y x la na ea cap mod es nt ju mi lo L H) (hpl : plI pl L.length = false) : Th l yX2_remove wsX2_remove 8 D Y A [.ref (x), .int (pl)] H xIO := by
  refine Th.start (cc := cX2_remove) (maxL := 2) (ret := (some .int)) (by decide) rfl (Nat.le_of_ble_eq_true rfl) ?_
  intro p e s m args below meth c ls S hK hsH hXt hl hO
  have S : CallFix p m c cX2_remove 2 s args wsX2_remove RX2 := S
  have hx := S.1
  have hb := S.2.1
  have hts := S.2.2.2.2
  have hl : lv_has ls 2 [(0, .ref (x)), (1, .int (pl))] := hl
  have hA0 := hA
  have hA0 := hA
  obtain ⟨hX, hL, hN, hE2, hR, hok⟩ := hA
  have hlen : (RS L).length = L.length := List.length_map ..
  have hn : L.length ≤ 16 := by have := hok.1; omega
  have hoo : ∀ i, i < L.length → rvOk (gt (RS L) i) := fun i hi => hok.2 i (by omega)
  refine lv_aload_n hx hb dX2_remove_0 rfl (lv_at hl 0 rfl) ?_
  refine lv_iload_n hx hb dX2_remove_1 rfl (lv_at hl 1 rfl) ?_
  exact Th.callV (As := [.int (pl)]) S (k_X2_checkPlace_x l hlt hA0 (pl := (pl)) (by exact hpl)) (cwV 1 hts gX2_remove_X2_checkPlace rfl rfl rfl (by decide +kernel) ⟨Nat.le_of_ble_eq_true rfl, Nat.le_of_ble_eq_true rfl⟩) hK hXt hO (va_recv hK.1 hX (ci := 2) (q0 := 0) rfl rfl) rfl hl.1 rfl (Nat.le_of_ble_eq_true rfl) dX2_remove_2 ⟨Nat.le_of_ble_eq_true rfl, Nat.le_of_ble_eq_true rfl⟩
set_option maxHeartbeats 4000000 in
set_option maxRecDepth 100000 in
theorem k_X2_overlap_x1 (l : Launch) (hlt : l.stackTraces = false) {D : va_G} {Y : Nat → ClassId} {H : Heap} {A : Nat → Prop} {x la na ea cap : Nat} {mod ju mi lo : Int32} {es : Nat → Option Nat} {nt : Nat → Int32} {L : List RA} {pl p2 : Int32}  (hA : rdA D Y x la na ea cap mod es nt ju mi lo L H) (hpl : plI pl L.length = false) : Th l yX2_overlap wsX2_overlap 8 D Y A [.ref (x), .int (pl), .int (p2)] H xIO := by
  refine Th.start (cc := cX2_overlap) (maxL := 3) (ret := (some .int)) (by decide) rfl (Nat.le_of_ble_eq_true rfl) ?_
  intro p e s m args below meth c ls S hK hsH hXt hl hO
  have S : CallFix p m c cX2_overlap 3 s args wsX2_overlap RX2 := S
  have hx := S.1
  have hb := S.2.1
  have hts := S.2.2.2.2
  have hl : lv_has ls 3 [(0, .ref (x)), (1, .int (pl)), (2, .int (p2))] := hl
  have hA0 := hA
  have hA0 := hA
  obtain ⟨hX, hL, hN, hE2, hR, hok⟩ := hA
  have hlen : (RS L).length = L.length := List.length_map ..
  have hn : L.length ≤ 16 := by have := hok.1; omega
  have hoo : ∀ i, i < L.length → rvOk (gt (RS L) i) := fun i hi => hok.2 i (by omega)
  refine lv_aload_n hx hb dX2_overlap_0 rfl (lv_at hl 0 rfl) ?_
  refine lv_iload_n hx hb dX2_overlap_1 rfl (lv_at hl 1 rfl) ?_
  exact Th.callV (As := [.int (pl)]) S (k_X2_ruleAt_x l hlt hA0 (pl := (pl)) (by exact hpl)) (cwV 1 hts gX2_overlap_X2_ruleAt rfl rfl rfl (by decide +kernel) ⟨Nat.le_of_ble_eq_true rfl, Nat.le_of_ble_eq_true rfl⟩) hK hXt hO (va_recv hK.1 hX (ci := 2) (q0 := 0) rfl rfl) rfl hl.1 rfl (Nat.le_of_ble_eq_true rfl) dX2_overlap_2 ⟨Nat.le_of_ble_eq_true rfl, Nat.le_of_ble_eq_true rfl⟩
set_option maxHeartbeats 4000000 in
set_option maxRecDepth 100000 in
theorem k_X2_move_x1 (l : Launch) (hlt : l.stackTraces = false) {D : va_G} {Y : Nat → ClassId} {H : Heap} {A : Nat → Prop} {x la na ea cap : Nat} {mod ju mi lo : Int32} {es : Nat → Option Nat} {nt : Nat → Int32} {L : List RA} {pl p2 : Int32}  (hA : rdA D Y x la na ea cap mod es nt ju mi lo L H) (hpl : plI pl L.length = false) : Th l yX2_move wsX2_move 8 D Y A [.ref (x), .int (pl), .int (p2)] H xIO := by
  refine Th.start (cc := cX2_move) (maxL := 4) (ret := (some .int)) (by decide) rfl (Nat.le_of_ble_eq_true rfl) ?_
  intro p e s m args below meth c ls S hK hsH hXt hl hO
  have S : CallFix p m c cX2_move 4 s args wsX2_move RX2 := S
  have hx := S.1
  have hb := S.2.1
  have hts := S.2.2.2.2
  have hl : lv_has ls 4 [(0, .ref (x)), (1, .int (pl)), (2, .int (p2))] := hl
  have hA0 := hA
  have hA0 := hA
  obtain ⟨hX, hL, hN, hE2, hR, hok⟩ := hA
  have hlen : (RS L).length = L.length := List.length_map ..
  have hn : L.length ≤ 16 := by have := hok.1; omega
  have hoo : ∀ i, i < L.length → rvOk (gt (RS L) i) := fun i hi => hok.2 i (by omega)
  refine lv_aload_n hx hb dX2_move_0 rfl (lv_at hl 0 rfl) ?_
  refine lv_iload_n hx hb dX2_move_1 rfl (lv_at hl 1 rfl) ?_
  exact Th.callV (As := [.int (pl)]) S (k_X2_ruleAt_x l hlt hA0 (pl := (pl)) (by exact hpl)) (cwV 1 hts gX2_move_X2_ruleAt rfl rfl rfl (by decide +kernel) ⟨Nat.le_of_ble_eq_true rfl, Nat.le_of_ble_eq_true rfl⟩) hK hXt hO (va_recv hK.1 hX (ci := 2) (q0 := 0) rfl rfl) rfl hl.1 rfl (Nat.le_of_ble_eq_true rfl) dX2_move_2 ⟨Nat.le_of_ble_eq_true rfl, Nat.le_of_ble_eq_true rfl⟩
set_option maxHeartbeats 4000000 in
set_option maxRecDepth 100000 in
theorem k_X2_overlap_x2 (l : Launch) (hlt : l.stackTraces = false) {D : va_G} {Y : Nat → ClassId} {H : Heap} {A : Nat → Prop} {x la na ea cap : Nat} {mod ju mi lo : Int32} {es : Nat → Option Nat} {nt : Nat → Int32} {L : List RA} {i : Nat} {pl : Int32}  (hA : rdA D Y x la na ea cap mod es nt ju mi lo L H) (hi : i < L.length) (hpl : plI pl L.length = false) : Th l yX2_overlap wsX2_overlap 8 D Y A [.ref (x), .int (nI (i)), .int (pl)] H xIO := by
  refine Th.start (cc := cX2_overlap) (maxL := 3) (ret := (some .int)) (by decide) rfl (Nat.le_of_ble_eq_true rfl) ?_
  intro p e s m args below meth c ls S hK hsH hXt hl hO
  have S : CallFix p m c cX2_overlap 3 s args wsX2_overlap RX2 := S
  have hx := S.1
  have hb := S.2.1
  have hts := S.2.2.2.2
  have hl : lv_has ls 3 [(0, .ref (x)), (1, .int (nI (i))), (2, .int (pl))] := hl
  have hA0 := hA
  have hA0 := hA
  obtain ⟨hX, hL, hN, hE2, hR, hok⟩ := hA
  have hlen : (RS L).length = L.length := List.length_map ..
  have hn : L.length ≤ 16 := by have := hok.1; omega
  have hoo : ∀ i, i < L.length → rvOk (gt (RS L) i) := fun i hi => hok.2 i (by omega)
  refine lv_aload_n hx hb dX2_overlap_0 rfl (lv_at hl 0 rfl) ?_
  refine lv_iload_n hx hb dX2_overlap_1 rfl (lv_at hl 1 rfl) ?_
  refine RdA.callV (x := (gl L (i)).2.1) (As := [.int (nI (i))]) S (k_X2_ruleAt l hA0 (i := i) (by omega)) (cwV 1 hts gX2_overlap_X2_ruleAt rfl rfl rfl (by decide +kernel) ⟨Nat.le_of_ble_eq_true rfl, Nat.le_of_ble_eq_true rfl⟩) hK (va_recv hK.1 hX (ci := 2) (q0 := 0) rfl rfl) rfl hl.1 rfl (Nat.le_of_ble_eq_true rfl) dX2_overlap_2 ⟨Nat.le_of_ble_eq_true rfl, Nat.le_of_ble_eq_true rfl⟩ ?_
  refine lv_aload_n hx hb dX2_overlap_5 rfl (lv_at hl 0 rfl) ?_
  refine lv_iload_n hx hb dX2_overlap_6 rfl (lv_at hl 2 rfl) ?_
  exact Th.callV (As := [.int (pl)]) S (k_X2_ruleAt_x l hlt hA0 (pl := (pl)) (by exact hpl)) (cwV 1 hts gX2_overlap_X2_ruleAt rfl rfl rfl (by decide +kernel) ⟨Nat.le_of_ble_eq_true rfl, Nat.le_of_ble_eq_true rfl⟩) hK hXt hO (va_recv hK.1 hX (ci := 2) (q0 := 0) rfl rfl) rfl hl.1 rfl (Nat.le_of_ble_eq_true rfl) dX2_overlap_7 ⟨Nat.le_of_ble_eq_true rfl, Nat.le_of_ble_eq_true rfl⟩
set_option maxHeartbeats 4000000 in
set_option maxRecDepth 100000 in
theorem k_X2_move_x2 (l : Launch) (hlt : l.stackTraces = false) {D : va_G} {Y : Nat → ClassId} {H : Heap} {A : Nat → Prop} {x la na ea cap : Nat} {mod ju mi lo : Int32} {es : Nat → Option Nat} {nt : Nat → Int32} {L : List RA} {i : Nat} {pl : Int32}  (hA : rdA D Y x la na ea cap mod es nt ju mi lo L H) (hi : i < L.length) (hpl : plI pl L.length = false) : Th l yX2_move wsX2_move 8 D Y A [.ref (x), .int (nI (i)), .int (pl)] H xIO := by
  refine Th.start (cc := cX2_move) (maxL := 4) (ret := (some .int)) (by decide) rfl (Nat.le_of_ble_eq_true rfl) ?_
  intro p e s m args below meth c ls S hK hsH hXt hl hO
  have S : CallFix p m c cX2_move 4 s args wsX2_move RX2 := S
  have hx := S.1
  have hb := S.2.1
  have hts := S.2.2.2.2
  have hl : lv_has ls 4 [(0, .ref (x)), (1, .int (nI (i))), (2, .int (pl))] := hl
  have hA0 := hA
  have hA0 := hA
  obtain ⟨hX, hL, hN, hE2, hR, hok⟩ := hA
  have hlen : (RS L).length = L.length := List.length_map ..
  have hn : L.length ≤ 16 := by have := hok.1; omega
  have hoo : ∀ i, i < L.length → rvOk (gt (RS L) i) := fun i hi => hok.2 i (by omega)
  refine lv_aload_n hx hb dX2_move_0 rfl (lv_at hl 0 rfl) ?_
  refine lv_iload_n hx hb dX2_move_1 rfl (lv_at hl 1 rfl) ?_
  refine RdA.callV (x := (gl L (i)).2.1) (As := [.int (nI (i))]) S (k_X2_ruleAt l hA0 (i := i) (by omega)) (cwV 1 hts gX2_move_X2_ruleAt rfl rfl rfl (by decide +kernel) ⟨Nat.le_of_ble_eq_true rfl, Nat.le_of_ble_eq_true rfl⟩) hK (va_recv hK.1 hX (ci := 2) (q0 := 0) rfl rfl) rfl hl.1 rfl (Nat.le_of_ble_eq_true rfl) dX2_move_2 ⟨Nat.le_of_ble_eq_true rfl, Nat.le_of_ble_eq_true rfl⟩ ?_
  refine lv_astore_n (lv' := [(3, .ref ((gl L (i)).2.1)), (0, .ref (x)), (1, .int (nI (i))), (2, .int (pl))]) hx hb dX2_move_5 rfl hl (by decide) rfl (fun ls hl => ?_)
  refine lv_aload_n hx hb dX2_move_6 rfl (lv_at hl 1 rfl) ?_
  refine lv_iload_n hx hb dX2_move_7 rfl (lv_at hl 3 rfl) ?_
  exact Th.callV (As := [.int (pl)]) S (k_X2_checkPlace_x l hlt hA0 (pl := (pl)) (by exact hpl)) (cwV 1 hts gX2_move_X2_checkPlace rfl rfl rfl (by decide +kernel) ⟨Nat.le_of_ble_eq_true rfl, Nat.le_of_ble_eq_true rfl⟩) hK hXt hO (va_recv hK.1 hX (ci := 2) (q0 := 0) rfl rfl) rfl hl.1 rfl (Nat.le_of_ble_eq_true rfl) dX2_move_8 ⟨Nat.le_of_ble_eq_true rfl, Nat.le_of_ble_eq_true rfl⟩
set_option maxHeartbeats 4000000 in
set_option maxRecDepth 100000 in
theorem k_X2_checkPacket_x (l : Launch) (hlt : l.stackTraces = false) {D : va_G} {Y : Nat → ClassId} {H : Heap} {A : Nat → Prop} {a b q : Int32} (hpk : pkB a b q = false) : Th l yX2_checkPacket wsX2_checkPacket 6 D Y A [.int (a), .int (b), .int (q)] H xIA := by
  refine Th.start (cc := cX2_checkPacket) (maxL := 3) (ret := none) (by decide) rfl (Nat.le_of_ble_eq_true rfl) ?_
  intro p e s m args below meth c ls S hK hsH hXt hl hO
  have S : CallFix p m c cX2_checkPacket 3 s args wsX2_checkPacket RX2 := S
  have hx := S.1
  have hb := S.2.1
  have hts := S.2.2.2.2
  have hl : lv_has ls 3 [(0, .int (a)), (1, .int (b)), (2, .int (q))] := hl
  refine lv_iload_n hx hb dX2_checkPacket_0 rfl (lv_at hl 0 rfl) ?_
  refine lv_if_lt (tgt := 20) hx hb dX2_checkPacket_1 (by decide) (fun c_1 => ?_) (fun c_1 => ?_)
  · exact Th.throwS (E0 := xIA) (ik := 24) (is := 183) (ic := 28) S hlt hsH hXt hO (by decide) (List.mem_of_getElem? (i := 1) rfl) (List.mem_of_getElem? (i := 2) rfl) (fun _ h => List.mem_cons_of_mem _ (List.mem_append_right _ (h))) (by decide +kernel) (by decide +kernel) (List.mem_of_getElem? (i := 6) rfl) hl.1 dX2_checkPacket_20 dX2_checkPacket_23 dX2_checkPacket_24 dX2_checkPacket_26 dX2_checkPacket_29 (Nat.le_of_ble_eq_true rfl) (Nat.le_of_ble_eq_true rfl)
  · refine lv_iload_n hx hb dX2_checkPacket_4 rfl (lv_at hl 0 rfl) ?_
    refine lv_bipush (v := (nI (32))) hx hb dX2_checkPacket_5 (by decide +kernel) ?_
    refine lv_icmp_ge (tgt := 20) hx hb dX2_checkPacket_7 (by decide) (fun c_7 => ?_) (fun c_7 => ?_)
    · exact Th.throwS (E0 := xIA) (ik := 24) (is := 183) (ic := 28) S hlt hsH hXt hO (by decide) (List.mem_of_getElem? (i := 1) rfl) (List.mem_of_getElem? (i := 2) rfl) (fun _ h => List.mem_cons_of_mem _ (List.mem_append_right _ (h))) (by decide +kernel) (by decide +kernel) (List.mem_of_getElem? (i := 6) rfl) hl.1 dX2_checkPacket_20 dX2_checkPacket_23 dX2_checkPacket_24 dX2_checkPacket_26 dX2_checkPacket_29 (Nat.le_of_ble_eq_true rfl) (Nat.le_of_ble_eq_true rfl)
    · refine lv_iload_n hx hb dX2_checkPacket_10 rfl (lv_at hl 1 rfl) ?_
      refine lv_if_lt (tgt := 20) hx hb dX2_checkPacket_11 (by decide) (fun c_11 => ?_) (fun c_11 => ?_)
      · exact Th.throwS (E0 := xIA) (ik := 24) (is := 183) (ic := 28) S hlt hsH hXt hO (by decide) (List.mem_of_getElem? (i := 1) rfl) (List.mem_of_getElem? (i := 2) rfl) (fun _ h => List.mem_cons_of_mem _ (List.mem_append_right _ (h))) (by decide +kernel) (by decide +kernel) (List.mem_of_getElem? (i := 6) rfl) hl.1 dX2_checkPacket_20 dX2_checkPacket_23 dX2_checkPacket_24 dX2_checkPacket_26 dX2_checkPacket_29 (Nat.le_of_ble_eq_true rfl) (Nat.le_of_ble_eq_true rfl)
      · refine lv_iload_n hx hb dX2_checkPacket_14 rfl (lv_at hl 1 rfl) ?_
        refine lv_bipush (v := (nI (32))) hx hb dX2_checkPacket_15 (by decide +kernel) ?_
        refine lv_icmp_lt (tgt := 30) hx hb dX2_checkPacket_17 (by decide) (fun c_17 => ?_) (fun c_17 => ?_)
        · refine lv_iload_n hx hb dX2_checkPacket_30 rfl (lv_at hl 2 rfl) ?_
          refine lv_if_lt (tgt := 39) hx hb dX2_checkPacket_31 (by decide) (fun c_31 => ?_) (fun c_31 => ?_)
          · exact Th.throwS (E0 := xIA) (ik := 24) (is := 185) (ic := 28) S hlt hsH hXt hO (by decide) (List.mem_of_getElem? (i := 1) rfl) (List.mem_of_getElem? (i := 2) rfl) (fun _ h => List.mem_cons_of_mem _ (List.mem_append_right _ (h))) (by decide +kernel) (by decide +kernel) (List.mem_of_getElem? (i := 7) rfl) hl.1 dX2_checkPacket_39 dX2_checkPacket_42 dX2_checkPacket_43 dX2_checkPacket_45 dX2_checkPacket_48 (Nat.le_of_ble_eq_true rfl) (Nat.le_of_ble_eq_true rfl)
          · refine lv_iload_n hx hb dX2_checkPacket_34 rfl (lv_at hl 2 rfl) ?_
            refine lv_iconst (v := (nI (4))) hx hb dX2_checkPacket_35 (by decide +kernel) ?_
            refine lv_icmp_lt (tgt := 49) hx hb dX2_checkPacket_36 (by decide) (fun c_36 => absurd c_36 (pk_k hpk c_1 c_7 c_11 c_17 c_31)) (fun c_36 => ?_)
            exact Th.throwS (E0 := xIA) (ik := 24) (is := 185) (ic := 28) S hlt hsH hXt hO (by decide) (List.mem_of_getElem? (i := 1) rfl) (List.mem_of_getElem? (i := 2) rfl) (fun _ h => List.mem_cons_of_mem _ (List.mem_append_right _ (h))) (by decide +kernel) (by decide +kernel) (List.mem_of_getElem? (i := 7) rfl) hl.1 dX2_checkPacket_39 dX2_checkPacket_42 dX2_checkPacket_43 dX2_checkPacket_45 dX2_checkPacket_48 (Nat.le_of_ble_eq_true rfl) (Nat.le_of_ble_eq_true rfl)
        · exact Th.throwS (E0 := xIA) (ik := 24) (is := 183) (ic := 28) S hlt hsH hXt hO (by decide) (List.mem_of_getElem? (i := 1) rfl) (List.mem_of_getElem? (i := 2) rfl) (fun _ h => List.mem_cons_of_mem _ (List.mem_append_right _ (h))) (by decide +kernel) (by decide +kernel) (List.mem_of_getElem? (i := 6) rfl) hl.1 dX2_checkPacket_20 dX2_checkPacket_23 dX2_checkPacket_24 dX2_checkPacket_26 dX2_checkPacket_29 (Nat.le_of_ble_eq_true rfl) (Nat.le_of_ble_eq_true rfl)
set_option maxHeartbeats 4000000 in
set_option maxRecDepth 100000 in
theorem k_X2_judge_x (l : Launch) (hlt : l.stackTraces = false) {D : va_G} {Y : Nat → ClassId} {H : Heap} {A : Nat → Prop} {x la na ea cap : Nat} {mod ju mi lo : Int32} {es : Nat → Option Nat} {nt : Nat → Int32} {L : List RA} {a b q : Int32}  (hA : rdA D Y x la na ea cap mod es nt ju mi lo L H) (hpk : pkB a b q = false) : Th l yX2_judge wsX2_judge 8 D Y A [.ref (x), .int (a), .int (b), .int (q)] H xIA := by
  refine Th.start (cc := cX2_judge) (maxL := 6) (ret := (some .boolean)) (by decide) rfl (Nat.le_of_ble_eq_true rfl) ?_
  intro p e s m args below meth c ls S hK hsH hXt hl hO
  have S : CallFix p m c cX2_judge 6 s args wsX2_judge RX2 := S
  have hx := S.1
  have hb := S.2.1
  have hts := S.2.2.2.2
  have hl : lv_has ls 6 [(0, .ref (x)), (1, .int (a)), (2, .int (b)), (3, .int (q))] := hl
  have hA0 := hA
  have hA0 := hA
  obtain ⟨hX, hL, hN, hE2, hR, hok⟩ := hA
  have hlen : (RS L).length = L.length := List.length_map ..
  have hn : L.length ≤ 16 := by have := hok.1; omega
  have hoo : ∀ i, i < L.length → rvOk (gt (RS L) i) := fun i hi => hok.2 i (by omega)
  refine lv_iload_n hx hb dX2_judge_0 rfl (lv_at hl 1 rfl) ?_
  refine lv_iload_n hx hb dX2_judge_1 rfl (lv_at hl 2 rfl) ?_
  refine lv_iload_n hx hb dX2_judge_2 rfl (lv_at hl 3 rfl) ?_
  exact Th.callS (As := [.int (a), .int (b), .int (q)]) S (k_X2_checkPacket_x l hlt (a := (a)) (b := (b)) (q := (q)) hpk) (va_cwS 3 hts gX2_judge_X2_checkPacket rfl rfl rfl (by decide +kernel) ⟨Nat.le_of_ble_eq_true rfl, Nat.le_of_ble_eq_true rfl⟩) hK hXt hO rfl hl.1 rfl (Nat.le_of_ble_eq_true rfl) dX2_judge_3 ⟨Nat.le_of_ble_eq_true rfl, Nat.le_of_ble_eq_true rfl⟩
set_option maxHeartbeats 4000000 in
set_option maxRecDepth 100000 in
theorem k_X2_decider_x (l : Launch) (hlt : l.stackTraces = false) {D : va_G} {Y : Nat → ClassId} {H : Heap} {A : Nat → Prop} {x la na ea cap : Nat} {mod ju mi lo : Int32} {es : Nat → Option Nat} {nt : Nat → Int32} {L : List RA} {a b q : Int32}  (hA : rdA D Y x la na ea cap mod es nt ju mi lo L H) (hpk : pkB a b q = false) : Th l yX2_decider wsX2_decider 8 D Y A [.ref (x), .int (a), .int (b), .int (q)] H xIA := by
  refine Th.start (cc := cX2_decider) (maxL := 5) (ret := (some .int)) (by decide) rfl (Nat.le_of_ble_eq_true rfl) ?_
  intro p e s m args below meth c ls S hK hsH hXt hl hO
  have S : CallFix p m c cX2_decider 5 s args wsX2_decider RX2 := S
  have hx := S.1
  have hb := S.2.1
  have hts := S.2.2.2.2
  have hl : lv_has ls 5 [(0, .ref (x)), (1, .int (a)), (2, .int (b)), (3, .int (q))] := hl
  have hA0 := hA
  have hA0 := hA
  obtain ⟨hX, hL, hN, hE2, hR, hok⟩ := hA
  have hlen : (RS L).length = L.length := List.length_map ..
  have hn : L.length ≤ 16 := by have := hok.1; omega
  have hoo : ∀ i, i < L.length → rvOk (gt (RS L) i) := fun i hi => hok.2 i (by omega)
  refine lv_iload_n hx hb dX2_decider_0 rfl (lv_at hl 1 rfl) ?_
  refine lv_iload_n hx hb dX2_decider_1 rfl (lv_at hl 2 rfl) ?_
  refine lv_iload_n hx hb dX2_decider_2 rfl (lv_at hl 3 rfl) ?_
  exact Th.callS (As := [.int (a), .int (b), .int (q)]) S (k_X2_checkPacket_x l hlt (a := (a)) (b := (b)) (q := (q)) hpk) (va_cwS 3 hts gX2_decider_X2_checkPacket rfl rfl rfl (by decide +kernel) ⟨Nat.le_of_ble_eq_true rfl, Nat.le_of_ble_eq_true rfl⟩) hK hXt hO rfl hl.1 rfl (Nat.le_of_ble_eq_true rfl) dX2_decider_3 ⟨Nat.le_of_ble_eq_true rfl, Nat.le_of_ble_eq_true rfl⟩
set_option maxHeartbeats 4000000 in
set_option maxRecDepth 100000 in
theorem k_X2_decider_n (l : Launch) (hlt : l.stackTraces = false) {D : va_G} {Y : Nat → ClassId} {H : Heap} {A : Nat → Prop} {x la na ea cap : Nat} {mod ju mi lo : Int32} {es : Nat → Option Nat} {nt : Nat → Int32} {L : List RA} {s0 d0 p0 : Nat}  (hA : rdA D Y x la na ea cap mod es nt ju mi lo L H) (hs : s0 < 32) (hd : d0 < 32) (hp : p0 < 4) (hf : fmN (RS L) s0 d0 p0 = L.length) : Th l yX2_decider wsX2_decider 6 D Y A [.ref (x), .int (nI (s0)), .int (nI (d0)), .int (nI (p0))] H xNE := by
  refine Th.start (cc := cX2_decider) (maxL := 5) (ret := (some .int)) (by decide) rfl (Nat.le_of_ble_eq_true rfl) ?_
  intro p e s m args below meth c ls S hK hsH hXt hl hO
  have S : CallFix p m c cX2_decider 5 s args wsX2_decider RX2 := S
  have hx := S.1
  have hb := S.2.1
  have hts := S.2.2.2.2
  have hl : lv_has ls 5 [(0, .ref (x)), (1, .int (nI (s0))), (2, .int (nI (d0))), (3, .int (nI (p0)))] := hl
  have hA0 := hA
  have hA0 := hA
  obtain ⟨hX, hL, hN, hE2, hR, hok⟩ := hA
  have hlen : (RS L).length = L.length := List.length_map ..
  have hn : L.length ≤ 16 := by have := hok.1; omega
  have hoo : ∀ i, i < L.length → rvOk (gt (RS L) i) := fun i hi => hok.2 i (by omega)
  refine lv_iload_n hx hb dX2_decider_0 rfl (lv_at hl 1 rfl) ?_
  refine lv_iload_n hx hb dX2_decider_1 rfl (lv_at hl 2 rfl) ?_
  refine lv_iload_n hx hb dX2_decider_2 rfl (lv_at hl 3 rfl) ?_
  refine RdU.callS (As := [.int (nI (s0)), .int (nI (d0)), .int (nI (p0))]) S (k_X2_checkPacket l (s0 := s0) (d0 := d0) (p0 := p0) (by omega) (by omega) (by omega)) (va_cwS 3 hts gX2_decider_X2_checkPacket rfl rfl rfl (by decide +kernel) ⟨Nat.le_of_ble_eq_true rfl, Nat.le_of_ble_eq_true rfl⟩) hK rfl hl.1 rfl (Nat.le_of_ble_eq_true rfl) dX2_decider_3 ⟨Nat.le_of_ble_eq_true rfl, Nat.le_of_ble_eq_true rfl⟩ ?_
  refine lv_aload_n hx hb dX2_decider_6 rfl (lv_at hl 0 rfl) ?_
  refine lv_iload_n hx hb dX2_decider_7 rfl (lv_at hl 1 rfl) ?_
  refine lv_iload_n hx hb dX2_decider_8 rfl (lv_at hl 2 rfl) ?_
  refine lv_iload_n hx hb dX2_decider_9 rfl (lv_at hl 3 rfl) ?_
  refine Rd.callV (r := (nI (fmN (RS L) (s0) (d0) (p0)))) (As := [.int (nI (s0)), .int (nI (d0)), .int (nI (p0))]) S (k_X2_firstMatch l hA0 (s0 := s0) (d0 := d0) (p0 := p0) (by omega) (by omega) (by omega)) (cwV 3 hts gX2_decider_X2_firstMatch rfl rfl rfl (by decide +kernel) ⟨Nat.le_of_ble_eq_true rfl, Nat.le_of_ble_eq_true rfl⟩) hK (va_recv hK.1 hX (ci := 2) (q0 := 0) rfl rfl) rfl hl.1 rfl (Nat.le_of_ble_eq_true rfl) dX2_decider_10 ⟨Nat.le_of_ble_eq_true rfl, Nat.le_of_ble_eq_true rfl⟩ ?_
  refine lv_istore (lv' := [(4, .int (nI (fmN (RS L) (s0) (d0) (p0)))), (0, .ref (x)), (1, .int (nI (s0))), (2, .int (nI (d0))), (3, .int (nI (p0)))]) hx hb dX2_decider_13 hl (by decide) rfl (fun ls hl => ?_)
  refine lv_iload hx hb dX2_decider_15 (lv_at hl 0 rfl) ?_
  refine lv_aload_n hx hb dX2_decider_17 rfl (lv_at hl 1 rfl) ?_
  refine nr_get (C := RX2) (T := TX2) (N := 5) (ci := 2) S (fun _ h => List.mem_cons_of_mem _ (List.mem_append_left _ (List.mem_append_left _ (List.mem_append_left _ (List.mem_append_left _ (List.mem_append_left _ (List.mem_append_right _ (h)))))))) hK hX 0 rfl rfl 0 (by decide) (List.mem_of_getElem? (i := 3) rfl) rfl dX2_decider_18 ?_
  refine Rd.callV (r := (nI (L.length))) (As := []) S (k_Jx4a65c_size_8abf5 l hL) (cwV 0 hts gX2_decider_Jx4a65c_size_8abf5 rfl rfl rfl (by decide +kernel) ⟨Nat.le_of_ble_eq_true rfl, Nat.le_of_ble_eq_true rfl⟩) hK (va_recv hK.1 hL (ci := 4) (q0 := 0) rfl rfl) rfl hl.1 rfl (Nat.le_of_ble_eq_true rfl) dX2_decider_21 ⟨Nat.le_of_ble_eq_true rfl, Nat.le_of_ble_eq_true rfl⟩ ?_
  refine nr_icmp_lt (tgt := 37) hx hb (by omega) (by omega) dX2_decider_24 (by decide) (fun c_24 => absurd c_24 (by omega)) (fun c_24 => ?_)
  exact Th.throwN (ik := 118) (is := 120) (ic := 122) S hlt hsH hXt hO (List.mem_of_getElem? (i := 1) rfl) (List.mem_of_getElem? (i := 2) rfl) (fun _ h => List.mem_cons_of_mem _ (List.mem_append_left _ (List.mem_append_right _ (h)))) (by decide +kernel) (List.mem_of_getElem? (i := 3) rfl) hl.1 dX2_decider_27 dX2_decider_30 dX2_decider_31 dX2_decider_33 dX2_decider_36 (Nat.le_of_ble_eq_true rfl) (Nat.le_of_ble_eq_true rfl)
set_option maxHeartbeats 4000000 in
set_option maxRecDepth 100000 in
theorem k_X2_shadowedBy_n (l : Launch) (hlt : l.stackTraces = false) {D : va_G} {Y : Nat → ClassId} {H : Heap} {A : Nat → Prop} {x la na ea cap : Nat} {mod ju mi lo : Int32} {es : Nat → Option Nat} {nt : Nat → Int32} {L : List RA} {i : Nat}  (hA : rdA D Y x la na ea cap mod es nt ju mi lo L H) (hi : i < L.length) (hnc : ∀ k, k < i → cvB (gt (RS L) (k)) (gt (RS L) (i)) = false) : Th l yX2_shadowedBy wsX2_shadowedBy 6 D Y A [.ref (x), .int (nI (i))] H xNE := by
  refine Th.start (cc := cX2_shadowedBy) (maxL := 4) (ret := (some .int)) (by decide) rfl (Nat.le_of_ble_eq_true rfl) ?_
  intro p e s m args below meth c ls S hK hsH hXt hl hO
  have S : CallFix p m c cX2_shadowedBy 4 s args wsX2_shadowedBy RX2 := S
  have hx := S.1
  have hb := S.2.1
  have hts := S.2.2.2.2
  have hl : lv_has ls 4 [(0, .ref (x)), (1, .int (nI (i)))] := hl
  have hA0 := hA
  have hA0 := hA
  obtain ⟨hX, hL, hN, hE2, hR, hok⟩ := hA
  have hlen : (RS L).length = L.length := List.length_map ..
  have hn : L.length ≤ 16 := by have := hok.1; omega
  have hoo : ∀ i, i < L.length → rvOk (gt (RS L) i) := fun i hi => hok.2 i (by omega)
  refine lv_aload_n hx hb dX2_shadowedBy_0 rfl (lv_at hl 0 rfl) ?_
  refine lv_iload_n hx hb dX2_shadowedBy_1 rfl (lv_at hl 1 rfl) ?_
  refine RdA.callV (x := (gl L (i)).2.1) (As := [.int (nI (i))]) S (k_X2_ruleAt l hA0 (i := i) (by omega)) (cwV 1 hts gX2_shadowedBy_X2_ruleAt rfl rfl rfl (by decide +kernel) ⟨Nat.le_of_ble_eq_true rfl, Nat.le_of_ble_eq_true rfl⟩) hK (va_recv hK.1 hX (ci := 2) (q0 := 0) rfl rfl) rfl hl.1 rfl (Nat.le_of_ble_eq_true rfl) dX2_shadowedBy_2 ⟨Nat.le_of_ble_eq_true rfl, Nat.le_of_ble_eq_true rfl⟩ ?_
  refine lv_astore_n (lv' := [(2, .ref ((gl L (i)).2.1)), (0, .ref (x)), (1, .int (nI (i)))]) hx hb dX2_shadowedBy_5 rfl hl (by decide) rfl (fun ls hl => ?_)
  refine lv_iconst (v := (nI (0))) hx hb dX2_shadowedBy_6 (by decide +kernel) ?_
  refine lv_istore_n (lv' := [(3, .int (nI (0))), (2, .ref ((gl L (i)).2.1)), (0, .ref (x)), (1, .int (nI (i)))]) hx hb dX2_shadowedBy_7 rfl hl (by decide) rfl (fun ls hl => ?_)
  have loop_8 : ∀ (fu_8 : Nat) (q : Nat), (q ≤ i) → i - q < fu_8 → ∀ ls : Array Slot, lv_has ls 4 [(3, .int (nI (q))), (2, .ref ((gl L (i)).2.1)), (0, .ref (x)), (1, .int (nI (i)))] → W p l e (rmG 6 1 6) s m args below meth c H [] 0 0 (ThQ below xNE H args s) (F0 m 8 ls []) := by
    intro fu_8
    induction fu_8 with
    | zero => exact fun q _ hk => absurd hk (Nat.not_lt_zero _)
    | succ fu_8 ih_8 =>
      intro q h1 hk_8 ls hl
      refine lv_iload_n hx hb dX2_shadowedBy_8 rfl (lv_at hl 0 rfl) ?_
      refine lv_iload_n hx hb dX2_shadowedBy_9 rfl (lv_at hl 3 rfl) ?_
      refine nr_icmp_ge (tgt := 50) hx hb (by omega) (by omega) dX2_shadowedBy_10 (by decide) (fun c_10 => ?_) (fun c_10 => ?_)
      · exact Th.throwN (ik := 118) (is := 135) (ic := 122) S hlt hsH hXt hO (List.mem_of_getElem? (i := 1) rfl) (List.mem_of_getElem? (i := 2) rfl) (fun _ h => List.mem_cons_of_mem _ (List.mem_append_left _ (List.mem_append_right _ (h)))) (by decide +kernel) (List.mem_of_getElem? (i := 4) rfl) hl.1 dX2_shadowedBy_50 dX2_shadowedBy_53 dX2_shadowedBy_54 dX2_shadowedBy_56 dX2_shadowedBy_59 (Nat.le_of_ble_eq_true rfl) (Nat.le_of_ble_eq_true rfl)
      · refine lv_iload_n hx hb dX2_shadowedBy_13 rfl (lv_at hl 0 rfl) ?_
        refine lv_aload_n hx hb dX2_shadowedBy_14 rfl (lv_at hl 2 rfl) ?_
        refine nr_get (C := RX2) (T := TX2) (N := 5) (ci := 2) S (fun _ h => List.mem_cons_of_mem _ (List.mem_append_left _ (List.mem_append_left _ (List.mem_append_left _ (List.mem_append_left _ (List.mem_append_left _ (List.mem_append_right _ (h)))))))) hK hX 0 rfl rfl 0 (by decide) (List.mem_of_getElem? (i := 3) rfl) rfl dX2_shadowedBy_15 ?_
        refine Rd.callV (r := (nI (L.length))) (As := []) S (k_Jx4a65c_size_8abf5 l hL) (cwV 0 hts gX2_shadowedBy_Jx4a65c_size_8abf5 rfl rfl rfl (by decide +kernel) ⟨Nat.le_of_ble_eq_true rfl, Nat.le_of_ble_eq_true rfl⟩) hK (va_recv hK.1 hL (ci := 4) (q0 := 0) rfl rfl) rfl hl.1 rfl (Nat.le_of_ble_eq_true rfl) dX2_shadowedBy_18 ⟨Nat.le_of_ble_eq_true rfl, Nat.le_of_ble_eq_true rfl⟩ ?_
        refine nr_icmp_ge (tgt := 50) hx hb (by omega) (by omega) dX2_shadowedBy_21 (by decide) (fun c_21 => absurd c_21 (by omega)) (fun c_21 => ?_)
        refine lv_aload_n hx hb dX2_shadowedBy_24 rfl (lv_at hl 2 rfl) ?_
        refine nr_get (C := RX2) (T := TX2) (N := 5) (ci := 2) S (fun _ h => List.mem_cons_of_mem _ (List.mem_append_left _ (List.mem_append_left _ (List.mem_append_left _ (List.mem_append_left _ (List.mem_append_left _ (List.mem_append_right _ (h)))))))) hK hX 0 rfl rfl 0 (by decide) (List.mem_of_getElem? (i := 3) rfl) rfl dX2_shadowedBy_25 ?_
        refine lv_iload_n hx hb dX2_shadowedBy_28 rfl (lv_at hl 0 rfl) ?_
        refine RdA.callV (x := (gl L (q)).2.1) (As := [.int (nI (q))]) S (k_Jx4a65c_get_915e3 l hL (hE2 (by omega)).1 (i := q) (by omega) (hE2 (by omega)).2.1 (hE2 (by omega)).2.2 (hR (q) (by omega)).1) (cwV 1 hts gX2_shadowedBy_Jx4a65c_get_915e3 rfl rfl rfl (by decide +kernel) ⟨Nat.le_of_ble_eq_true rfl, Nat.le_of_ble_eq_true rfl⟩) hK (va_recv hK.1 hL (ci := 4) (q0 := 0) rfl rfl) rfl hl.1 rfl (Nat.le_of_ble_eq_true rfl) dX2_shadowedBy_29 ⟨Nat.le_of_ble_eq_true rfl, Nat.le_of_ble_eq_true rfl⟩ ?_
        refine nr_cast (C := RX1) (T := TX1) (N := 5) (ci := 1) S (List.mem_of_getElem? (i := 4) rfl) hK (hR (q) (by omega)).2 0 rfl rfl dX2_shadowedBy_32 ?_
        refine lv_aload_n hx hb dX2_shadowedBy_35 rfl (lv_at hl 1 rfl) ?_
        refine Rd.callV (r := (bI (cvB (gt (RS L) (q)) (gt (RS L) (i))))) (As := [.ref ((gl L (i)).2.1)]) S (k_X1_covers l (hR (q) (by omega)).2 (hR (i) (by omega)).2 (hoo (q) (by omega)) (hoo (i) (by omega))) (cwV 1 hts gX2_shadowedBy_X1_covers rfl rfl rfl (by decide +kernel) ⟨Nat.le_of_ble_eq_true rfl, Nat.le_of_ble_eq_true rfl⟩) hK (va_recv hK.1 (hR (q) (by omega)).2 (ci := 1) (q0 := 0) rfl rfl) rfl hl.1 rfl (Nat.le_of_ble_eq_true rfl) dX2_shadowedBy_36 ⟨Nat.le_of_ble_eq_true rfl, Nat.le_of_ble_eq_true rfl⟩ ?_
        refine nr_ifB_eq (tgt := 44) hx hb dX2_shadowedBy_39 (by decide) (fun c_39 => ?_) (fun c_39 => absurd c_39 (by rw [hnc q (by omega)]; decide))
        refine lv_iinc (v := (nI (q + 1))) (lv' := [(3, .int (nI (q + 1))), (2, .ref ((gl L (i)).2.1)), (0, .ref (x)), (1, .int (nI (i)))]) hx hb dX2_shadowedBy_44 hl (k := 0) rfl (nI_add _ _) (by decide) rfl (fun ls hl => ?_)
        refine lv_goto (tgt := 8) hx hb dX2_shadowedBy_47 (by decide) ?_
        exact ih_8 (q + 1) (by omega) (by omega) ls (lv_sub hl [0, 1, 2, 3] rfl)
  exact loop_8 _ (0) (Nat.zero_le _) (Nat.lt_succ_self _) ls (lv_sub hl [0, 1, 2, 3] rfl)
set_option maxHeartbeats 4000000 in
set_option maxRecDepth 100000 in
theorem k_X2_valueOfEntry_x (l : Launch) (hlt : l.stackTraces = false) {D : va_G} {Y : Nat → ClassId} {H : Heap} {A : Nat → Prop} {r : RV} {ad : Nat × Nat × Nat} {en : Int32}  (hP : va_P D aCl (ruC r ad) H) (ho : rvOk r) (he : inI en (nI 0) (nI (enN r) - nI 1) = false) : Th l yX2_valueOfEntry wsX2_valueOfEntry 6 D Y A [.ref (ad.1), .int (en)] H xIO := by
  refine Th.start (cc := cX2_valueOfEntry) (maxL := 9) (ret := (some .int)) (by decide) rfl (Nat.le_of_ble_eq_true rfl) ?_
  intro p e s m args below meth c ls S hK hsH hXt hl hO
  have S : CallFix p m c cX2_valueOfEntry 9 s args wsX2_valueOfEntry RX2 := S
  have hx := S.1
  have hb := S.2.1
  have hts := S.2.2.2.2
  have hl : lv_has ls 9 [(0, .ref (ad.1)), (1, .int (en))] := hl
  have hv := ho
  unfold rvOk at hv
  have hP4 := bgP4 (pR r) (by omega)
  have hcP : cB (nI (pR r)) 32 = (bP r).length := bkOk_all (okP ho)
  have hcD : cB (mkI (dF r) (dT r)) 32 = (bD r).length := bkOk_all (okD ho)
  have hcS : cB (mkI (sF r) (sT r)) 32 = (bS r).length := bkOk_all (okS ho)
  have hen := enN_le ho
  refine lv_aload_n hx hb dX2_valueOfEntry_0 rfl (lv_at hl 0 rfl) ?_
  refine nr_get (C := RX1) (T := TX1) (N := 5) (ci := 1) S (fun _ h => List.mem_cons_of_mem _ (List.mem_append_left _ (List.mem_append_left _ (List.mem_append_right _ (h))))) hK hP 0 rfl rfl 1 (by decide) (List.mem_of_getElem? (i := 3) rfl) rfl dX2_valueOfEntry_1 ?_
  refine nr_get (C := RX0) (T := TX0) (N := 3) (ci := 0) S (fun _ h => List.mem_cons_of_mem _ (List.mem_append_left _ (List.mem_append_right _ (h)))) hK hP 1 rfl rfl 2 (by decide) (List.mem_of_getElem? (i := 4) rfl) rfl dX2_valueOfEntry_4 ?_
  refine Rd.callS (r := (bb (mkI (sF r) (sT r)))) (As := [.int (mkI (sF r) (sT r))]) S (k_X2_blockBegins l (set := (mkI (sF r) (sT r)))) (va_cwS 1 hts gX2_valueOfEntry_X2_blockBegins rfl rfl rfl (by decide +kernel) ⟨Nat.le_of_ble_eq_true rfl, Nat.le_of_ble_eq_true rfl⟩) hK rfl hl.1 rfl (Nat.le_of_ble_eq_true rfl) dX2_valueOfEntry_7 ⟨Nat.le_of_ble_eq_true rfl, Nat.le_of_ble_eq_true rfl⟩ ?_
  refine lv_istore_n (lv' := [(2, .int (bb (mkI (sF r) (sT r)))), (0, .ref (ad.1)), (1, .int (en))]) hx hb dX2_valueOfEntry_10 rfl hl (by decide) rfl (fun ls hl => ?_)
  refine lv_aload_n hx hb dX2_valueOfEntry_11 rfl (lv_at hl 1 rfl) ?_
  refine nr_get (C := RX1) (T := TX1) (N := 5) (ci := 1) S (fun _ h => List.mem_cons_of_mem _ (List.mem_append_left _ (List.mem_append_left _ (List.mem_append_right _ (h))))) hK hP 0 rfl rfl 2 (by decide) (List.mem_of_getElem? (i := 5) rfl) rfl dX2_valueOfEntry_12 ?_
  refine nr_get (C := RX0) (T := TX0) (N := 3) (ci := 0) S (fun _ h => List.mem_cons_of_mem _ (List.mem_append_left _ (List.mem_append_right _ (h)))) hK hP 2 rfl rfl 2 (by decide) (List.mem_of_getElem? (i := 4) rfl) rfl dX2_valueOfEntry_15 ?_
  refine Rd.callS (r := (bb (mkI (dF r) (dT r)))) (As := [.int (mkI (dF r) (dT r))]) S (k_X2_blockBegins l (set := (mkI (dF r) (dT r)))) (va_cwS 1 hts gX2_valueOfEntry_X2_blockBegins rfl rfl rfl (by decide +kernel) ⟨Nat.le_of_ble_eq_true rfl, Nat.le_of_ble_eq_true rfl⟩) hK rfl hl.1 rfl (Nat.le_of_ble_eq_true rfl) dX2_valueOfEntry_18 ⟨Nat.le_of_ble_eq_true rfl, Nat.le_of_ble_eq_true rfl⟩ ?_
  refine lv_istore_n (lv' := [(3, .int (bb (mkI (dF r) (dT r)))), (2, .int (bb (mkI (sF r) (sT r)))), (0, .ref (ad.1)), (1, .int (en))]) hx hb dX2_valueOfEntry_21 rfl hl (by decide) rfl (fun ls hl => ?_)
  refine lv_aload_n hx hb dX2_valueOfEntry_22 rfl (lv_at hl 2 rfl) ?_
  refine nr_get (C := RX1) (T := TX1) (N := 5) (ci := 1) S (fun _ h => List.mem_cons_of_mem _ (List.mem_append_left _ (List.mem_append_left _ (List.mem_append_right _ (h))))) hK hP 0 rfl rfl 3 (by decide) (List.mem_of_getElem? (i := 6) rfl) rfl dX2_valueOfEntry_23 ?_
  refine Rd.callS (r := (bb (nI (pR r)))) (As := [.int (nI (pR r))]) S (k_X2_blockBegins l (set := (nI (pR r)))) (va_cwS 1 hts gX2_valueOfEntry_X2_blockBegins rfl rfl rfl (by decide +kernel) ⟨Nat.le_of_ble_eq_true rfl, Nat.le_of_ble_eq_true rfl⟩) hK rfl hl.1 rfl (Nat.le_of_ble_eq_true rfl) dX2_valueOfEntry_26 ⟨Nat.le_of_ble_eq_true rfl, Nat.le_of_ble_eq_true rfl⟩ ?_
  refine lv_istore (lv' := [(4, .int (bb (nI (pR r)))), (3, .int (bb (mkI (dF r) (dT r)))), (2, .int (bb (mkI (sF r) (sT r)))), (0, .ref (ad.1)), (1, .int (en))]) hx hb dX2_valueOfEntry_29 hl (by decide) rfl (fun ls hl => ?_)
  refine lv_iconst (v := (nI (0))) hx hb dX2_valueOfEntry_31 (by decide +kernel) ?_
  refine lv_istore (lv' := [(5, .int (nI (0))), (4, .int (bb (nI (pR r)))), (3, .int (bb (mkI (dF r) (dT r)))), (2, .int (bb (mkI (sF r) (sT r)))), (0, .ref (ad.1)), (1, .int (en))]) hx hb dX2_valueOfEntry_32 hl (by decide) rfl (fun ls hl => ?_)
  refine lv_iconst (v := (nI (0))) hx hb dX2_valueOfEntry_34 (by decide +kernel) ?_
  refine lv_istore (lv' := [(6, .int (nI (0))), (5, .int (nI (0))), (4, .int (bb (nI (pR r)))), (3, .int (bb (mkI (dF r) (dT r)))), (2, .int (bb (mkI (sF r) (sT r)))), (0, .ref (ad.1)), (1, .int (en))]) hx hb dX2_valueOfEntry_35 hl (by decide) rfl (fun ls hl => ?_)
  have loop_37 : ∀ (fu_37 : Nat) (b : Nat) (s1 : Nat), (s1 ≤ 32) → (b = cB (mkI (sF r) (sT r)) s1 * ((bD r).length * (bP r).length)) → 32 - s1 < fu_37 → ∀ ls : Array Slot, lv_has ls 9 [(6, .int (nI (s1))), (5, .int (nI (b))), (4, .int (bb (nI (pR r)))), (3, .int (bb (mkI (dF r) (dT r)))), (2, .int (bb (mkI (sF r) (sT r)))), (0, .ref (ad.1)), (1, .int (en))] → W p l e (rmG 6 1 6) s m args below meth c H [] 0 0 (ThQ below xIO H args s) (F0 m 37 ls []) := by
    intro fu_37
    induction fu_37 with
    | zero => exact fun b s1 _ _ hk => absurd hk (Nat.not_lt_zero _)
    | succ fu_37 ih_37 =>
      intro b s1 h1 h2 hk_37 ls hl
      refine lv_iload hx hb dX2_valueOfEntry_37 (lv_at hl 0 rfl) ?_
      refine lv_bipush (v := (nI (32))) hx hb dX2_valueOfEntry_39 (by decide +kernel) ?_
      refine nr_icmp_ge (tgt := 128) hx hb (by omega) (by omega) dX2_valueOfEntry_41 (by decide) (fun c_41 => ?_) (fun c_41 => ?_)
      · exact Th.throwS (E0 := xIO) (ik := 150) (is := 221) (ic := 154) S hlt hsH hXt hO (by decide) (List.mem_of_getElem? (i := 1) rfl) (List.mem_of_getElem? (i := 2) rfl) (fun _ h => List.mem_cons_of_mem _ (List.mem_append_right _ (h))) (by decide +kernel) (by decide +kernel) (List.mem_of_getElem? (i := 9) rfl) hl.1 dX2_valueOfEntry_128 dX2_valueOfEntry_131 dX2_valueOfEntry_132 dX2_valueOfEntry_134 dX2_valueOfEntry_137 (Nat.le_of_ble_eq_true rfl) (Nat.le_of_ble_eq_true rfl)
      · refine lv_iconst (v := (nI (0))) hx hb dX2_valueOfEntry_44 (by decide +kernel) ?_
        refine lv_istore (lv' := [(7, .int (nI (0))), (6, .int (nI (s1))), (5, .int (nI (b))), (4, .int (bb (nI (pR r)))), (3, .int (bb (mkI (dF r) (dT r)))), (2, .int (bb (mkI (sF r) (sT r)))), (0, .ref (ad.1)), (1, .int (en))]) hx hb dX2_valueOfEntry_45 hl (by decide) rfl (fun ls hl => ?_)
        have loop_47 : ∀ (fu_47 : Nat) (b2 : Nat) (d1 : Nat), (d1 ≤ 32 ∧ True ∧ (bgB (mkI (sF r) (sT r)) s1 = false → b2 = b ∧ d1 = 0)) → (b2 = b + cB (mkI (dF r) (dT r)) d1 * (bP r).length) → 32 - d1 < fu_47 → ∀ ls : Array Slot, lv_has ls 9 [(7, .int (nI (d1))), (6, .int (nI (s1))), (5, .int (nI (b2))), (4, .int (bb (nI (pR r)))), (3, .int (bb (mkI (dF r) (dT r)))), (2, .int (bb (mkI (sF r) (sT r)))), (0, .ref (ad.1)), (1, .int (en))] → W p l e (rmG 6 1 6) s m args below meth c H [] 0 0 (ThQ below xIO H args s) (F0 m 47 ls []) := by
          intro fu_47
          induction fu_47 with
          | zero => exact fun b2 d1 _ _ hk => absurd hk (Nat.not_lt_zero _)
          | succ fu_47 ih_47 =>
            intro b2 d1 g1 g2 hk_47 ls hl
            refine lv_iload_n hx hb dX2_valueOfEntry_47 rfl (lv_at hl 5 rfl) ?_
            refine lv_iload hx hb dX2_valueOfEntry_48 (lv_at hl 1 rfl) ?_
            refine Rd.callS (r := (bI (bgB (mkI (sF r) (sT r)) (s1)))) (As := [.int (bb (mkI (sF r) (sT r))), .int (nI (s1))]) S ((hol_bb (mkI (sF r) (sT r)) (j := s1) (by omega)) ▸ k_X2_holds l (bb (mkI (sF r) (sT r))) (nI (s1))) (va_cwS 2 hts gX2_valueOfEntry_X2_holds rfl rfl rfl (by decide +kernel) ⟨Nat.le_of_ble_eq_true rfl, Nat.le_of_ble_eq_true rfl⟩) hK rfl hl.1 rfl (Nat.le_of_ble_eq_true rfl) dX2_valueOfEntry_50 ⟨Nat.le_of_ble_eq_true rfl, Nat.le_of_ble_eq_true rfl⟩ ?_
            refine nr_ifB_eq (tgt := 122) hx hb dX2_valueOfEntry_53 (by decide) (fun c_53 => ?_) (fun c_53 => ?_)
            · have hb6 : b2 = cB (mkI (sF r) (sT r)) (s1 + 1) * ((bD r).length * (bP r).length) := by
                rw [cB_s]
                cases hq : bgB (mkI (sF r) (sT r)) s1 with
                | false => rw [(g1.2.2 hq).1, h2]; rfl
                | true =>
                  have hd32 : d1 = 32 := by
                    first
                    | omega
                    | exact absurd (c_53.symm.trans hq) (by decide)
                  rw [g2, hd32, hcD, h2, show bN true = 1 from rfl, Nat.add_mul, Nat.one_mul]
              refine lv_iinc (v := (nI (s1 + 1))) (lv' := [(6, .int (nI (s1 + 1))), (7, .int (nI (d1))), (5, .int (nI (b2))), (4, .int (bb (nI (pR r)))), (3, .int (bb (mkI (dF r) (dT r)))), (2, .int (bb (mkI (sF r) (sT r)))), (0, .ref (ad.1)), (1, .int (en))]) hx hb dX2_valueOfEntry_122 hl (k := 1) rfl (nI_add _ _) (by decide) rfl (fun ls hl => ?_)
              refine lv_goto (tgt := 37) hx hb dX2_valueOfEntry_125 (by decide) ?_
              exact ih_37 (b2) (s1 + 1) (by omega) (hb6) (by omega) ls (lv_sub hl [0, 2, 3, 4, 5, 6, 7] rfl)
            · refine lv_iload hx hb dX2_valueOfEntry_56 (lv_at hl 0 rfl) ?_
              refine lv_bipush (v := (nI (32))) hx hb dX2_valueOfEntry_58 (by decide +kernel) ?_
              refine nr_icmp_ge (tgt := 122) hx hb (by omega) (by omega) dX2_valueOfEntry_60 (by decide) (fun c_60 => ?_) (fun c_60 => ?_)
              · have hb6 : b2 = cB (mkI (sF r) (sT r)) (s1 + 1) * ((bD r).length * (bP r).length) := by
                  rw [cB_s]
                  cases hq : bgB (mkI (sF r) (sT r)) s1 with
                  | false => rw [(g1.2.2 hq).1, h2]; rfl
                  | true =>
                    have hd32 : d1 = 32 := by
                      first
                      | omega
                      | exact absurd (c_53.symm.trans hq) (by decide)
                    rw [g2, hd32, hcD, h2, show bN true = 1 from rfl, Nat.add_mul, Nat.one_mul]
                refine lv_iinc (v := (nI (s1 + 1))) (lv' := [(6, .int (nI (s1 + 1))), (7, .int (nI (d1))), (5, .int (nI (b2))), (4, .int (bb (nI (pR r)))), (3, .int (bb (mkI (dF r) (dT r)))), (2, .int (bb (mkI (sF r) (sT r)))), (0, .ref (ad.1)), (1, .int (en))]) hx hb dX2_valueOfEntry_122 hl (k := 1) rfl (nI_add _ _) (by decide) rfl (fun ls hl => ?_)
                refine lv_goto (tgt := 37) hx hb dX2_valueOfEntry_125 (by decide) ?_
                exact ih_37 (b2) (s1 + 1) (by omega) (hb6) (by omega) ls (lv_sub hl [0, 2, 3, 4, 5, 6, 7] rfl)
              · refine lv_iconst (v := (nI (0))) hx hb dX2_valueOfEntry_63 (by decide +kernel) ?_
                refine lv_istore (lv' := [(8, .int (nI (0))), (7, .int (nI (d1))), (6, .int (nI (s1))), (5, .int (nI (b2))), (4, .int (bb (nI (pR r)))), (3, .int (bb (mkI (dF r) (dT r)))), (2, .int (bb (mkI (sF r) (sT r)))), (0, .ref (ad.1)), (1, .int (en))]) hx hb dX2_valueOfEntry_64 hl (by decide) rfl (fun ls hl => ?_)
                have loop_66 : ∀ (fu_66 : Nat) (b3 : Nat) (p1 : Nat), (p1 ≤ 4 ∧ True ∧ (bgB (mkI (dF r) (dT r)) d1 = false → b3 = b2 ∧ p1 = 0)) → (b3 = b2 + cB (nI (pR r)) p1) → 4 - p1 < fu_66 → ∀ ls : Array Slot, lv_has ls 9 [(8, .int (nI (p1))), (7, .int (nI (d1))), (6, .int (nI (s1))), (5, .int (nI (b3))), (4, .int (bb (nI (pR r)))), (3, .int (bb (mkI (dF r) (dT r)))), (2, .int (bb (mkI (sF r) (sT r)))), (0, .ref (ad.1)), (1, .int (en))] → W p l e (rmG 6 1 6) s m args below meth c H [] 0 0 (ThQ below xIO H args s) (F0 m 66 ls []) := by
                  intro fu_66
                  induction fu_66 with
                  | zero => exact fun b3 p1 _ _ hk => absurd hk (Nat.not_lt_zero _)
                  | succ fu_66 ih_66 =>
                    intro b3 p1 e1 e2 hk_66 ls hl
                    refine lv_iload_n hx hb dX2_valueOfEntry_66 rfl (lv_at hl 5 rfl) ?_
                    refine lv_iload hx hb dX2_valueOfEntry_67 (lv_at hl 1 rfl) ?_
                    refine Rd.callS (r := (bI (bgB (mkI (dF r) (dT r)) (d1)))) (As := [.int (bb (mkI (dF r) (dT r))), .int (nI (d1))]) S ((hol_bb (mkI (dF r) (dT r)) (j := d1) (by omega)) ▸ k_X2_holds l (bb (mkI (dF r) (dT r))) (nI (d1))) (va_cwS 2 hts gX2_valueOfEntry_X2_holds rfl rfl rfl (by decide +kernel) ⟨Nat.le_of_ble_eq_true rfl, Nat.le_of_ble_eq_true rfl⟩) hK rfl hl.1 rfl (Nat.le_of_ble_eq_true rfl) dX2_valueOfEntry_69 ⟨Nat.le_of_ble_eq_true rfl, Nat.le_of_ble_eq_true rfl⟩ ?_
                    refine nr_ifB_eq (tgt := 116) hx hb dX2_valueOfEntry_72 (by decide) (fun c_72 => ?_) (fun c_72 => ?_)
                    · have hb7 : b3 = b + cB (mkI (dF r) (dT r)) (d1 + 1) * (bP r).length := by
                        rw [cB_s]
                        cases hq : bgB (mkI (dF r) (dT r)) d1 with
                        | false => rw [(e1.2.2 hq).1, g2]; rfl
                        | true =>
                          have hp4 : p1 = 4 := by
                            first
                            | omega
                            | exact absurd (c_72.symm.trans hq) (by decide)
                          rw [e2, hp4, hP4, hcP, g2, show bN true = 1 from rfl, Nat.add_mul, Nat.one_mul, Nat.add_assoc]
                      refine lv_iinc (v := (nI (d1 + 1))) (lv' := [(7, .int (nI (d1 + 1))), (8, .int (nI (p1))), (6, .int (nI (s1))), (5, .int (nI (b3))), (4, .int (bb (nI (pR r)))), (3, .int (bb (mkI (dF r) (dT r)))), (2, .int (bb (mkI (sF r) (sT r)))), (0, .ref (ad.1)), (1, .int (en))]) hx hb dX2_valueOfEntry_116 hl (k := 1) rfl (nI_add _ _) (by decide) rfl (fun ls hl => ?_)
                      refine lv_goto (tgt := 47) hx hb dX2_valueOfEntry_119 (by decide) ?_
                      exact ih_47 (b3) (d1 + 1) (⟨by omega, trivial, fun q => absurd (c_53.symm.trans q) (by decide)⟩) (hb7) (by omega) ls (lv_sub hl [0, 2, 3, 4, 5, 6, 7, 8] rfl)
                    · refine lv_iload hx hb dX2_valueOfEntry_75 (lv_at hl 0 rfl) ?_
                      refine lv_iconst (v := (nI (4))) hx hb dX2_valueOfEntry_77 (by decide +kernel) ?_
                      refine nr_icmp_ge (tgt := 116) hx hb (by omega) (by omega) dX2_valueOfEntry_78 (by decide) (fun c_78 => ?_) (fun c_78 => ?_)
                      · have hb7 : b3 = b + cB (mkI (dF r) (dT r)) (d1 + 1) * (bP r).length := by
                          rw [cB_s]
                          cases hq : bgB (mkI (dF r) (dT r)) d1 with
                          | false => rw [(e1.2.2 hq).1, g2]; rfl
                          | true =>
                            have hp4 : p1 = 4 := by
                              first
                              | omega
                              | exact absurd (c_72.symm.trans hq) (by decide)
                            rw [e2, hp4, hP4, hcP, g2, show bN true = 1 from rfl, Nat.add_mul, Nat.one_mul, Nat.add_assoc]
                        refine lv_iinc (v := (nI (d1 + 1))) (lv' := [(7, .int (nI (d1 + 1))), (8, .int (nI (p1))), (6, .int (nI (s1))), (5, .int (nI (b3))), (4, .int (bb (nI (pR r)))), (3, .int (bb (mkI (dF r) (dT r)))), (2, .int (bb (mkI (sF r) (sT r)))), (0, .ref (ad.1)), (1, .int (en))]) hx hb dX2_valueOfEntry_116 hl (k := 1) rfl (nI_add _ _) (by decide) rfl (fun ls hl => ?_)
                        refine lv_goto (tgt := 47) hx hb dX2_valueOfEntry_119 (by decide) ?_
                        exact ih_47 (b3) (d1 + 1) (⟨by omega, trivial, fun q => absurd (c_53.symm.trans q) (by decide)⟩) (hb7) (by omega) ls (lv_sub hl [0, 2, 3, 4, 5, 6, 7, 8] rfl)
                      · refine lv_iload hx hb dX2_valueOfEntry_81 (lv_at hl 4 rfl) ?_
                        refine lv_iload hx hb dX2_valueOfEntry_83 (lv_at hl 0 rfl) ?_
                        refine Rd.callS (r := (bI (bgB (nI (pR r)) (p1)))) (As := [.int (bb (nI (pR r))), .int (nI (p1))]) S ((hol_bb (nI (pR r)) (j := p1) (by omega)) ▸ k_X2_holds l (bb (nI (pR r))) (nI (p1))) (va_cwS 2 hts gX2_valueOfEntry_X2_holds rfl rfl rfl (by decide +kernel) ⟨Nat.le_of_ble_eq_true rfl, Nat.le_of_ble_eq_true rfl⟩) hK rfl hl.1 rfl (Nat.le_of_ble_eq_true rfl) dX2_valueOfEntry_85 ⟨Nat.le_of_ble_eq_true rfl, Nat.le_of_ble_eq_true rfl⟩ ?_
                        refine nr_ifB_eq (tgt := 110) hx hb dX2_valueOfEntry_88 (by decide) (fun c_88 => ?_) (fun c_88 => ?_)
                        · refine lv_iinc (v := (nI (p1 + 1))) (lv' := [(8, .int (nI (p1 + 1))), (7, .int (nI (d1))), (6, .int (nI (s1))), (5, .int (nI (b3))), (4, .int (bb (nI (pR r)))), (3, .int (bb (mkI (dF r) (dT r)))), (2, .int (bb (mkI (sF r) (sT r)))), (0, .ref (ad.1)), (1, .int (en))]) hx hb dX2_valueOfEntry_110 hl (k := 0) rfl (nI_add _ _) (by decide) rfl (fun ls hl => ?_)
                          refine lv_goto (tgt := 66) hx hb dX2_valueOfEntry_113 (by decide) ?_
                          exact ih_66 (b3) (p1 + 1) (⟨by omega, trivial, fun q => absurd (c_72.symm.trans q) (by decide)⟩) (by rw [e2, cB_s]; first | (rw [show bgB (nI (pR r)) p1 = true from c_88]; rfl) | (rw [show bgB (nI (pR r)) p1 = false from c_88]; rfl)) (by omega) ls (lv_sub hl [0, 1, 2, 3, 4, 5, 6, 7, 8] rfl)
                        · have qS := bkOk_at (okS ho) (n := s1) (by omega) c_53
                          have qD := bkOk_at (okD ho) (n := d1) (by omega) c_72
                          have qP := bkOk_at (okP ho) (n := p1) (by omega) c_88
                          have hb8 : b3 < enN r := by rw [e2, g2, h2]; exact ent_lt qS.1 qD.1 qP.1
                          refine lv_iload hx hb dX2_valueOfEntry_91 (lv_at hl 3 rfl) ?_
                          refine lv_iload_n hx hb dX2_valueOfEntry_93 rfl (lv_at hl 8 rfl) ?_
                          refine lv_icmp_ne (tgt := 107) hx hb dX2_valueOfEntry_94 (by decide) (fun c_94 => ?_) (fun c_94 => absurd c_94 (voe_n hen.2 he hb8))
                          refine lv_iinc (v := (nI (b3 + 1))) (lv' := [(5, .int (nI (b3 + 1))), (8, .int (nI (p1))), (7, .int (nI (d1))), (6, .int (nI (s1))), (4, .int (bb (nI (pR r)))), (3, .int (bb (mkI (dF r) (dT r)))), (2, .int (bb (mkI (sF r) (sT r)))), (0, .ref (ad.1)), (1, .int (en))]) hx hb dX2_valueOfEntry_107 hl (k := 3) rfl (nI_add _ _) (by decide) rfl (fun ls hl => ?_)
                          refine lv_iinc (v := (nI (p1 + 1))) (lv' := [(8, .int (nI (p1 + 1))), (5, .int (nI (b3 + 1))), (7, .int (nI (d1))), (6, .int (nI (s1))), (4, .int (bb (nI (pR r)))), (3, .int (bb (mkI (dF r) (dT r)))), (2, .int (bb (mkI (sF r) (sT r)))), (0, .ref (ad.1)), (1, .int (en))]) hx hb dX2_valueOfEntry_110 hl (k := 1) rfl (nI_add _ _) (by decide) rfl (fun ls hl => ?_)
                          refine lv_goto (tgt := 66) hx hb dX2_valueOfEntry_113 (by decide) ?_
                          exact ih_66 (b3 + 1) (p1 + 1) (⟨by omega, trivial, fun q => absurd (c_72.symm.trans q) (by decide)⟩) (by rw [e2, cB_s]; first | (rw [show bgB (nI (pR r)) p1 = true from c_88]; rfl) | (rw [show bgB (nI (pR r)) p1 = false from c_88]; rfl)) (by omega) ls (lv_sub hl [0, 2, 3, 1, 4, 5, 6, 7, 8] rfl)
                exact loop_66 _ (b2) (0) (⟨Nat.zero_le _, trivial, fun _ => ⟨rfl, rfl⟩⟩) (rfl) (Nat.lt_succ_self _) ls (lv_sub hl [0, 1, 2, 3, 4, 5, 6, 7, 8] rfl)
        exact loop_47 _ (b) (0) (⟨Nat.zero_le _, trivial, fun _ => ⟨rfl, rfl⟩⟩) (by rw [show cB (mkI (dF r) (dT r)) 0 = 0 from rfl, Nat.zero_mul]; rfl) (Nat.lt_succ_self _) ls (lv_sub hl [0, 1, 2, 3, 4, 5, 6, 7] rfl)
  exact loop_37 _ (0) (0) (Nat.zero_le _) ((Nat.zero_mul _).symm) (Nat.lt_succ_self _) ls (lv_sub hl [0, 1, 2, 3, 4, 5, 6] rfl)
set_option maxHeartbeats 4000000 in
set_option maxRecDepth 100000 in
theorem k_X2_entryValue_xe (l : Launch) (hlt : l.stackTraces = false) {D : va_G} {Y : Nat → ClassId} {H : Heap} {A : Nat → Prop} {x la na ea cap : Nat} {mod ju mi lo : Int32} {es : Nat → Option Nat} {nt : Nat → Int32} {L : List RA} {i : Nat} {en : Int32}  (hA : rdA D Y x la na ea cap mod es nt ju mi lo L H) (hi : i < L.length) (he : inI en (nI 0) (nI (enN (gt (RS L) (i))) - nI 1) = false) : Th l yX2_entryValue wsX2_entryValue 8 D Y A [.ref (x), .int (nI (i)), .int (en)] H xIO := by
  refine Th.start (cc := cX2_entryValue) (maxL := 3) (ret := (some .int)) (by decide) rfl (Nat.le_of_ble_eq_true rfl) ?_
  intro p e s m args below meth c ls S hK hsH hXt hl hO
  have S : CallFix p m c cX2_entryValue 3 s args wsX2_entryValue RX2 := S
  have hx := S.1
  have hb := S.2.1
  have hts := S.2.2.2.2
  have hl : lv_has ls 3 [(0, .ref (x)), (1, .int (nI (i))), (2, .int (en))] := hl
  have hA0 := hA
  have hA0 := hA
  obtain ⟨hX, hL, hN, hE2, hR, hok⟩ := hA
  have hlen : (RS L).length = L.length := List.length_map ..
  have hn : L.length ≤ 16 := by have := hok.1; omega
  have hoo : ∀ i, i < L.length → rvOk (gt (RS L) i) := fun i hi => hok.2 i (by omega)
  refine lv_aload_n hx hb dX2_entryValue_0 rfl (lv_at hl 0 rfl) ?_
  refine lv_iload_n hx hb dX2_entryValue_1 rfl (lv_at hl 1 rfl) ?_
  refine RdA.callV (x := (gl L (i)).2.1) (As := [.int (nI (i))]) S (k_X2_ruleAt l hA0 (i := i) (by omega)) (cwV 1 hts gX2_entryValue_X2_ruleAt rfl rfl rfl (by decide +kernel) ⟨Nat.le_of_ble_eq_true rfl, Nat.le_of_ble_eq_true rfl⟩) hK (va_recv hK.1 hX (ci := 2) (q0 := 0) rfl rfl) rfl hl.1 rfl (Nat.le_of_ble_eq_true rfl) dX2_entryValue_2 ⟨Nat.le_of_ble_eq_true rfl, Nat.le_of_ble_eq_true rfl⟩ ?_
  refine lv_iload_n hx hb dX2_entryValue_5 rfl (lv_at hl 2 rfl) ?_
  exact Th.callS (As := [.ref ((gl L (i)).2.1), .int (en)]) S (k_X2_valueOfEntry_x l hlt (hR (i) (by omega)).2 (hoo (i) (by omega)) (en := (en)) he) (va_cwS 2 hts gX2_entryValue_X2_valueOfEntry rfl rfl rfl (by decide +kernel) ⟨Nat.le_of_ble_eq_true rfl, Nat.le_of_ble_eq_true rfl⟩) hK hXt hO rfl hl.1 rfl (Nat.le_of_ble_eq_true rfl) dX2_entryValue_6 ⟨Nat.le_of_ble_eq_true rfl, Nat.le_of_ble_eq_true rfl⟩
set_option maxHeartbeats 4000000 in
set_option maxRecDepth 100000 in
theorem k_X2_entryMask_xe (l : Launch) (hlt : l.stackTraces = false) {D : va_G} {Y : Nat → ClassId} {H : Heap} {A : Nat → Prop} {x la na ea cap : Nat} {mod ju mi lo : Int32} {es : Nat → Option Nat} {nt : Nat → Int32} {L : List RA} {i : Nat} {en : Int32}  (hA : rdA D Y x la na ea cap mod es nt ju mi lo L H) (hi : i < L.length) (he : inI en (nI 0) (nI (enN (gt (RS L) (i))) - nI 1) = false) : Th l yX2_entryMask wsX2_entryMask 8 D Y A [.ref (x), .int (nI (i)), .int (en)] H xIO := by
  refine Th.start (cc := cX2_entryMask) (maxL := 8) (ret := (some .int)) (by decide) rfl (Nat.le_of_ble_eq_true rfl) ?_
  intro p e s m args below meth c ls S hK hsH hXt hl hO
  have S : CallFix p m c cX2_entryMask 8 s args wsX2_entryMask RX2 := S
  have hx := S.1
  have hb := S.2.1
  have hts := S.2.2.2.2
  have hl : lv_has ls 8 [(0, .ref (x)), (1, .int (nI (i))), (2, .int (en))] := hl
  have hA0 := hA
  have hA0 := hA
  obtain ⟨hX, hL, hN, hE2, hR, hok⟩ := hA
  have hlen : (RS L).length = L.length := List.length_map ..
  have hn : L.length ≤ 16 := by have := hok.1; omega
  have hoo : ∀ i, i < L.length → rvOk (gt (RS L) i) := fun i hi => hok.2 i (by omega)
  refine lv_aload_n hx hb dX2_entryMask_0 rfl (lv_at hl 0 rfl) ?_
  refine lv_iload_n hx hb dX2_entryMask_1 rfl (lv_at hl 1 rfl) ?_
  refine RdA.callV (x := (gl L (i)).2.1) (As := [.int (nI (i))]) S (k_X2_ruleAt l hA0 (i := i) (by omega)) (cwV 1 hts gX2_entryMask_X2_ruleAt rfl rfl rfl (by decide +kernel) ⟨Nat.le_of_ble_eq_true rfl, Nat.le_of_ble_eq_true rfl⟩) hK (va_recv hK.1 hX (ci := 2) (q0 := 0) rfl rfl) rfl hl.1 rfl (Nat.le_of_ble_eq_true rfl) dX2_entryMask_2 ⟨Nat.le_of_ble_eq_true rfl, Nat.le_of_ble_eq_true rfl⟩ ?_
  refine lv_astore_n (lv' := [(3, .ref ((gl L (i)).2.1)), (0, .ref (x)), (1, .int (nI (i))), (2, .int (en))]) hx hb dX2_entryMask_5 rfl hl (by decide) rfl (fun ls hl => ?_)
  refine lv_aload_n hx hb dX2_entryMask_6 rfl (lv_at hl 0 rfl) ?_
  refine lv_iload_n hx hb dX2_entryMask_7 rfl (lv_at hl 3 rfl) ?_
  exact Th.callS (As := [.ref ((gl L (i)).2.1), .int (en)]) S (k_X2_valueOfEntry_x l hlt (hR (i) (by omega)).2 (hoo (i) (by omega)) (en := (en)) he) (va_cwS 2 hts gX2_entryMask_X2_valueOfEntry rfl rfl rfl (by decide +kernel) ⟨Nat.le_of_ble_eq_true rfl, Nat.le_of_ble_eq_true rfl⟩) hK hXt hO rfl hl.1 rfl (Nat.le_of_ble_eq_true rfl) dX2_entryMask_8 ⟨Nat.le_of_ble_eq_true rfl, Nat.le_of_ble_eq_true rfl⟩
set_option maxHeartbeats 4000000 in
set_option maxRecDepth 100000 in
theorem k_X2_add_x1 (l : Launch) (hlt : l.stackTraces = false) {D : va_G} {Y : Nat → ClassId} {H : Heap} {A : Nat → Prop} {x la na ea cap : Nat} {mod ju mi lo : Int32} {es : Nat → Option Nat} {nt : Nat → Int32} {L : List RA} {a b c0 d0 q0 : Int32} {pm : Bool}  (hA : rdA D Y x la na ea cap mod es nt ju mi lo L H) (hr : (rgB a b && rgB c0 d0 && inI q0 (nI 1) (nI 15)) = false) : Th l yX2_add wsX2_add 6 D Y A [.ref (x), .int (a), .int (b), .int (c0), .int (d0), .int (q0), .int (bI (pm))] H xIA := by
  refine Th.start (cc := cX2_add) (maxL := 9) (ret := (some .int)) (by decide) rfl (Nat.le_of_ble_eq_true rfl) ?_
  intro p e s m args below meth c ls S hK hsH hXt hl hO
  have S : CallFix p m c cX2_add 9 s args wsX2_add RX2 := S
  have hx := S.1
  have hb := S.2.1
  have hts := S.2.2.2.2
  have hl : lv_has ls 9 [(0, .ref (x)), (1, .int (a)), (2, .int (b)), (3, .int (c0)), (4, .int (d0)), (5, .int (q0)), (6, .int (bI (pm)))] := hl
  have hA0 := hA
  have hA0 := hA
  obtain ⟨hX, hL, hN, hE2, hR, hok⟩ := hA
  have hlen : (RS L).length = L.length := List.length_map ..
  have hn : L.length ≤ 16 := by have := hok.1; omega
  have hoo : ∀ i, i < L.length → rvOk (gt (RS L) i) := fun i hi => hok.2 i (by omega)
  refine lv_iload_n hx hb dX2_add_0 rfl (lv_at hl 1 rfl) ?_
  refine lv_iload_n hx hb dX2_add_1 rfl (lv_at hl 2 rfl) ?_
  refine Rd.callS (r := (bI (rgB (a) (b)))) (As := [.int (a), .int (b)]) S (k_X2_isRange l (a) (b)) (va_cwS 2 hts gX2_add_X2_isRange rfl rfl rfl (by decide +kernel) ⟨Nat.le_of_ble_eq_true rfl, Nat.le_of_ble_eq_true rfl⟩) hK rfl hl.1 rfl (Nat.le_of_ble_eq_true rfl) dX2_add_2 ⟨Nat.le_of_ble_eq_true rfl, Nat.le_of_ble_eq_true rfl⟩ ?_
  refine nr_ifB_eq (tgt := 17) hx hb dX2_add_5 (by decide) (fun c_5 => ?_) (fun c_5 => ?_)
  · exact Th.throwS (E0 := xIA) (ik := 24) (is := 26) (ic := 28) S hlt hsH hXt hO (by decide) (List.mem_of_getElem? (i := 1) rfl) (List.mem_of_getElem? (i := 2) rfl) (fun _ h => List.mem_cons_of_mem _ (List.mem_append_left _ (List.mem_append_right _ (h)))) (by decide +kernel) (by decide +kernel) (List.mem_of_getElem? (i := 0) rfl) hl.1 dX2_add_17 dX2_add_20 dX2_add_21 dX2_add_23 dX2_add_26 (Nat.le_of_ble_eq_true rfl) (Nat.le_of_ble_eq_true rfl)
  · refine lv_iload_n hx hb dX2_add_8 rfl (lv_at hl 3 rfl) ?_
    refine lv_iload hx hb dX2_add_9 (lv_at hl 4 rfl) ?_
    refine Rd.callS (r := (bI (rgB (c0) (d0)))) (As := [.int (c0), .int (d0)]) S (k_X2_isRange l (c0) (d0)) (va_cwS 2 hts gX2_add_X2_isRange rfl rfl rfl (by decide +kernel) ⟨Nat.le_of_ble_eq_true rfl, Nat.le_of_ble_eq_true rfl⟩) hK rfl hl.1 rfl (Nat.le_of_ble_eq_true rfl) dX2_add_11 ⟨Nat.le_of_ble_eq_true rfl, Nat.le_of_ble_eq_true rfl⟩ ?_
    refine nr_ifB_ne (tgt := 27) hx hb dX2_add_14 (by decide) (fun c_14 => ?_) (fun c_14 => ?_)
    · refine lv_iload hx hb dX2_add_27 (lv_at hl 5 rfl) ?_
      refine lv_iconst (v := (nI (1))) hx hb dX2_add_29 (by decide +kernel) ?_
      refine lv_icmp_lt (tgt := 40) hx hb dX2_add_30 (by decide) (fun c_30 => ?_) (fun c_30 => ?_)
      · exact Th.throwS (E0 := xIA) (ik := 24) (is := 31) (ic := 28) S hlt hsH hXt hO (by decide) (List.mem_of_getElem? (i := 1) rfl) (List.mem_of_getElem? (i := 2) rfl) (fun _ h => List.mem_cons_of_mem _ (List.mem_append_left _ (List.mem_append_right _ (h)))) (by decide +kernel) (by decide +kernel) (List.mem_of_getElem? (i := 1) rfl) hl.1 dX2_add_40 dX2_add_43 dX2_add_44 dX2_add_46 dX2_add_49 (Nat.le_of_ble_eq_true rfl) (Nat.le_of_ble_eq_true rfl)
      · refine lv_iload hx hb dX2_add_33 (lv_at hl 5 rfl) ?_
        refine lv_bipush (v := (nI (15))) hx hb dX2_add_35 (by decide +kernel) ?_
        refine lv_icmp_le (tgt := 50) hx hb dX2_add_37 (by decide) (fun c_37 => absurd c_37 (ad_k hr c_5 c_14 c_30)) (fun c_37 => ?_)
        exact Th.throwS (E0 := xIA) (ik := 24) (is := 31) (ic := 28) S hlt hsH hXt hO (by decide) (List.mem_of_getElem? (i := 1) rfl) (List.mem_of_getElem? (i := 2) rfl) (fun _ h => List.mem_cons_of_mem _ (List.mem_append_left _ (List.mem_append_right _ (h)))) (by decide +kernel) (by decide +kernel) (List.mem_of_getElem? (i := 1) rfl) hl.1 dX2_add_40 dX2_add_43 dX2_add_44 dX2_add_46 dX2_add_49 (Nat.le_of_ble_eq_true rfl) (Nat.le_of_ble_eq_true rfl)
    · exact Th.throwS (E0 := xIA) (ik := 24) (is := 26) (ic := 28) S hlt hsH hXt hO (by decide) (List.mem_of_getElem? (i := 1) rfl) (List.mem_of_getElem? (i := 2) rfl) (fun _ h => List.mem_cons_of_mem _ (List.mem_append_left _ (List.mem_append_right _ (h)))) (by decide +kernel) (by decide +kernel) (List.mem_of_getElem? (i := 0) rfl) hl.1 dX2_add_17 dX2_add_20 dX2_add_21 dX2_add_23 dX2_add_26 (Nat.le_of_ble_eq_true rfl) (Nat.le_of_ble_eq_true rfl)
set_option maxHeartbeats 4000000 in
set_option maxRecDepth 100000 in
theorem k_X2_add_x2 (l : Launch) (hlt : l.stackTraces = false) {D : va_G} {Y : Nat → ClassId} {H : Heap} {A : Nat → Prop} {x la na ea cap : Nat} {mod ju mi lo : Int32} {es : Nat → Option Nat} {nt : Nat → Int32} {L : List RA} {a b c0 d0 q0 : Int32} {pm : Bool}  (hA : rdA D Y x la na ea cap mod es nt ju mi lo L H) (hr : (rgB a b && rgB c0 d0 && inI q0 (nI 1) (nI 15)) = true) (h16 : 16 ≤ L.length) : Th l yX2_add wsX2_add 6 D Y A [.ref (x), .int (a), .int (b), .int (c0), .int (d0), .int (q0), .int (bI (pm))] H xIS := by
  refine Th.start (cc := cX2_add) (maxL := 9) (ret := (some .int)) (by decide) rfl (Nat.le_of_ble_eq_true rfl) ?_
  intro p e s m args below meth c ls S hK hsH hXt hl hO
  have S : CallFix p m c cX2_add 9 s args wsX2_add RX2 := S
  have hx := S.1
  have hb := S.2.1
  have hts := S.2.2.2.2
  have hl : lv_has ls 9 [(0, .ref (x)), (1, .int (a)), (2, .int (b)), (3, .int (c0)), (4, .int (d0)), (5, .int (q0)), (6, .int (bI (pm)))] := hl
  have hA0 := hA
  have hA0 := hA
  obtain ⟨hX, hL, hN, hE2, hR, hok⟩ := hA
  have hlen : (RS L).length = L.length := List.length_map ..
  have hn : L.length ≤ 16 := by have := hok.1; omega
  have hoo : ∀ i, i < L.length → rvOk (gt (RS L) i) := fun i hi => hok.2 i (by omega)
  refine lv_iload_n hx hb dX2_add_0 rfl (lv_at hl 1 rfl) ?_
  refine lv_iload_n hx hb dX2_add_1 rfl (lv_at hl 2 rfl) ?_
  refine Rd.callS (r := (bI (rgB (a) (b)))) (As := [.int (a), .int (b)]) S (k_X2_isRange l (a) (b)) (va_cwS 2 hts gX2_add_X2_isRange rfl rfl rfl (by decide +kernel) ⟨Nat.le_of_ble_eq_true rfl, Nat.le_of_ble_eq_true rfl⟩) hK rfl hl.1 rfl (Nat.le_of_ble_eq_true rfl) dX2_add_2 ⟨Nat.le_of_ble_eq_true rfl, Nat.le_of_ble_eq_true rfl⟩ ?_
  refine nr_ifB_eq (tgt := 17) hx hb dX2_add_5 (by decide) (fun c_5 => absurd c_5 (by rw [(ad_t hr).1]; decide)) (fun c_5 => ?_)
  refine lv_iload_n hx hb dX2_add_8 rfl (lv_at hl 3 rfl) ?_
  refine lv_iload hx hb dX2_add_9 (lv_at hl 4 rfl) ?_
  refine Rd.callS (r := (bI (rgB (c0) (d0)))) (As := [.int (c0), .int (d0)]) S (k_X2_isRange l (c0) (d0)) (va_cwS 2 hts gX2_add_X2_isRange rfl rfl rfl (by decide +kernel) ⟨Nat.le_of_ble_eq_true rfl, Nat.le_of_ble_eq_true rfl⟩) hK rfl hl.1 rfl (Nat.le_of_ble_eq_true rfl) dX2_add_11 ⟨Nat.le_of_ble_eq_true rfl, Nat.le_of_ble_eq_true rfl⟩ ?_
  refine nr_ifB_ne (tgt := 27) hx hb dX2_add_14 (by decide) (fun c_14 => ?_) (fun c_14 => absurd c_14 (by rw [(ad_t hr).2.1]; decide))
  refine lv_iload hx hb dX2_add_27 (lv_at hl 5 rfl) ?_
  refine lv_iconst (v := (nI (1))) hx hb dX2_add_29 (by decide +kernel) ?_
  refine lv_icmp_lt (tgt := 40) hx hb dX2_add_30 (by decide) (fun c_30 => absurd c_30 ((ad_t hr).2.2.1)) (fun c_30 => ?_)
  refine lv_iload hx hb dX2_add_33 (lv_at hl 5 rfl) ?_
  refine lv_bipush (v := (nI (15))) hx hb dX2_add_35 (by decide +kernel) ?_
  refine lv_icmp_le (tgt := 50) hx hb dX2_add_37 (by decide) (fun c_37 => ?_) (fun c_37 => absurd c_37 (fun z => z (ad_t hr).2.2.2))
  refine lv_aload_n hx hb dX2_add_50 rfl (lv_at hl 0 rfl) ?_
  refine nr_get (C := RX2) (T := TX2) (N := 5) (ci := 2) S (fun _ h => List.mem_cons_of_mem _ (List.mem_append_left _ (List.mem_append_left _ (List.mem_append_left _ (List.mem_append_left _ (List.mem_append_left _ (List.mem_append_right _ (h)))))))) hK hX 0 rfl rfl 0 (by decide) (List.mem_of_getElem? (i := 5) rfl) rfl dX2_add_51 ?_
  refine Rd.callV (r := (nI (L.length))) (As := []) S (k_Jx4a65c_size_8abf5 l hL) (cwV 0 hts gX2_add_Jx4a65c_size_8abf5 rfl rfl rfl (by decide +kernel) ⟨Nat.le_of_ble_eq_true rfl, Nat.le_of_ble_eq_true rfl⟩) hK (va_recv hK.1 hL (ci := 4) (q0 := 0) rfl rfl) rfl hl.1 rfl (Nat.le_of_ble_eq_true rfl) dX2_add_54 ⟨Nat.le_of_ble_eq_true rfl, Nat.le_of_ble_eq_true rfl⟩ ?_
  refine lv_bipush (v := (nI (16))) hx hb dX2_add_57 (by decide +kernel) ?_
  refine nr_icmp_lt (tgt := 72) hx hb (by omega) (by omega) dX2_add_59 (by decide) (fun c_59 => absurd c_59 (by omega)) (fun c_59 => ?_)
  exact Th.throwS (E0 := xIS) (ik := 37) (is := 39) (ic := 41) S hlt hsH hXt hO (by decide) (List.mem_of_getElem? (i := 3) rfl) (List.mem_of_getElem? (i := 4) rfl) (fun _ h => List.mem_cons_of_mem _ (List.mem_append_right _ (h))) (by decide +kernel) (by decide +kernel) (List.mem_of_getElem? (i := 2) rfl) hl.1 dX2_add_62 dX2_add_65 dX2_add_66 dX2_add_68 dX2_add_71 (Nat.le_of_ble_eq_true rfl) (Nat.le_of_ble_eq_true rfl)
