/-! the reference's public reading methods -/
/-- the reference holds these rules -/
def mdB (D : va_G) (Y : Nat → ClassId) (A : Nat → Nat) (th mi ju lo : Int32) (rs : List RV) : Heap → Prop := fun H => ∃ f bf ca bg sz : Nat → Int32, mrep rs f ∧ va_P D aCl (wM Y A th (nI rs.length) mi ju lo f bf ca bg sz) H
theorem plI_t {i n : Nat} (h : i < n) (hn : n ≤ 16) : plI (nI i) n = true := by
  unfold plI inI
  rw [pk_sub (by omega), decide_eq_true ((nI_leI (by decide) (by omega)).mpr (Nat.zero_le i)), decide_eq_true ((nI_leI (by omega) (by omega)).mpr (by omega))]
  rfl
theorem plI_inv {pl : Int32} {n : Nat} (h : plI pl n = true) (hn : n ≤ 16) : ∃ i, i < n ∧ pl = nI i := by
  unfold plI inI at h
  rw [Bool.and_eq_true, decide_eq_true_iff, decide_eq_true_iff] at h
  rcases pk_ix pl (n := n) (by omega) with h1 | h1 | h1
  · exact absurd h.1 (Int32.not_le.mpr h1)
  · exfalso
    have h2 := Int32.le_trans h1 h.2
    cases n with
    | zero => exact absurd h2 (by decide +kernel)
    | succ k =>
      rw [pk_sub (by omega), nI_leI (by omega) (by omega)] at h2
      omega
  · exact h1
theorem k_isPl1 (l : Launch) {D : va_G} {Y : Nat → ClassId} {H : Heap} {A : Nat → Nat} {th mi ju lo : Int32} {f bf ca bg sz : Nat → Int32} {rs : List RV} (hP : va_P D aCl (wM Y A (th) (nI (rs.length)) (mi) (ju) (lo) f bf ca bg sz) H) (hn : rs.length ≤ 16) {i : Nat} (hi : i < rs.length) : Rd l yX3_isPlace wsX3_isPlace 1 D Y [.ref (A 0), .int (nI i)] H (nI 1) := by
  have h := k_X3_isPlace l hP (pl := nI i)
  rw [plI_t hi hn] at h
  exact h
theorem k_holds0 (l : Launch) {D : va_G} {Y : Nat → ClassId} {A : Nat → Nat} {th mi ju lo : Int32} {f bf ca bg sz : Nat → Int32} {rs : List RV} : MuI l yX3_holds wsX3_holds 1 D Y [.ref (A 0), .int (nI 0)] (wM Y A (th) (nI (rs.length)) (mi) (ju) (lo) f bf ca bg sz) (va_P D aCl (wM Y A (nI (0)) (nI (rs.length)) (mi) (ju) (lo) f bf ca bg sz)) (nI 1) := k_X3_holds l
theorem k_holdsN (l : Launch) {D : va_G} {Y : Nat → ClassId} {A : Nat → Nat} {th mi ju lo : Int32} {f bf ca bg sz : Nat → Int32} {rs : List RV} {v : Int32} (hv : v ≠ 0) : MuI l yX3_holds wsX3_holds 1 D Y [.ref (A 0), .int v] (wM Y A (th) (nI (rs.length)) (mi) (ju) (lo) f bf ca bg sz) (va_P D aCl (wM Y A (v) (nI (rs.length)) (mi) (ju) (lo) f bf ca bg sz)) (nI 0) := by
  have h := k_X3_holds l (D := D) (Y := Y) (A := A) (th := th) (mi := mi) (ju := ju) (lo := lo) (f := f) (bf := bf) (ca := ca) (bg := bg) (sz := sz) (rs := rs) (v := v)
  rw [decide_eq_false hv] at h
  exact h
theorem k_isPk1 (l : Launch) {D : va_G} {Y : Nat → ClassId} {H : Heap} {s0 d0 p0 : Nat} (hs : s0 < 32) (hd : d0 < 32) (hp : p0 < 4) : Rd l yX3_isPacket wsX3_isPacket 1 D Y [.int (nI s0), .int (nI d0), .int (nI p0)] H (nI 1) := by
  have h := k_X3_isPacket l (D := D) (Y := Y) (H := H) (nI s0) (nI d0) (nI p0)
  unfold pkB at h
  rw [inI_nI (by omega) (by decide) (by decide), inI_nI (by omega) (by decide) (by decide), inI_nI (by omega) (by decide) (by decide), inN_t (Nat.zero_le _) (by omega), inN_t (Nat.zero_le _) (by omega), inN_t (Nat.zero_le _) (by omega)] at h
  exact h
theorem dcN_lt (rs : List RV) (pl : Nat) : dcN rs pl < 2 ^ 31 := Nat.lt_of_le_of_lt (sumN_le (c := 32) 128 (fun k _ => popI_le _)) (by decide)
theorem cmN_lt (a b : RV) : cmN a b < 2 ^ 31 := Nat.lt_of_le_of_lt (sumN_le (c := 32) 128 (fun k _ => popI_le _)) (by decide)
/-- the first rule ahead of place i that matches all that it matches -/
def sbN (rs : List RV) (i : Nat) : Nat := fstN (fun k => decide (cmN (gt rs i) (gt rs i) ≤ cmN (gt rs k) (gt rs i))) i
/-- how many packets are permitted -/
def pmT (rs : List RV) : Nat := sumN (fun k => popI (pmI rs (k / 4) (k % 4) (-1))) 128
/-- how many packets are decided in another way -/
def chN (rs rs2 : List RV) : Nat := sumN (fun k => popI (pmI rs (k / 4) (k % 4) (-1) ^^^ pmI rs2 (k / 4) (k % 4) (-1))) 128
set_option maxHeartbeats 4000000 in
set_option maxRecDepth 100000 in
theorem k_X3_sources (l : Launch) {D : va_G} {Y : Nat → ClassId} {A : Nat → Nat} {th mi ju lo : Int32} {f bf ca bg sz : Nat → Int32} {rs : List RV}  (hf : mrep rs f) {i : Nat} (hi : i < rs.length) : MuI l yX3_sources wsX3_sources 2 D Y [.ref (A 0), .int (nI (i))] (wM Y A (th) (nI (rs.length)) (mi) (ju) (lo) f bf ca bg sz) (mdB D Y A (nI 0) (mi) (ju) (lo) (rs)) (nI (100 * sF (gt rs i) + sT (gt rs i))) := by
  refine MuI.start (cc := cX3_sources) (maxL := 2) (rt := .int) (by decide) rfl (Nat.le_of_ble_eq_true rfl) ?_
  intro p e s m args below meth c ls AA H0 H locs Q S hK hP hD hS hl hE
  have S : CallFix p m c cX3_sources 2 s args wsX3_sources RX3 := S
  have hx := S.1
  have hb := S.2.1
  have hts := S.2.2.2.2
  have hl : lv_has ls 2 [(0, .ref (A 0)), (1, .int (nI (i)))] := hl
  have hn := hf.1.1
  refine lv_aload_n hx hb dX3_sources_0 rfl (lv_at hl 0 rfl) ?_
  refine lv_aload_n hx hb dX3_sources_1 rfl (lv_at hl 0 rfl) ?_
  refine lv_iload_n hx hb dX3_sources_2 rfl (lv_at hl 1 rfl) ?_
  refine Rd.callV (r := (nI (1))) (As := [.int (nI (i))]) S (k_isPl1 l hP hn (i := i) (by omega)) (cwV 1 hts gX3_sources_X3_isPlace rfl rfl rfl (by decide +kernel) ⟨Nat.le_of_ble_eq_true rfl, Nat.le_of_ble_eq_true rfl⟩) hK (va_recv hK.1 hP (ci := 3) (q0 := 0) rfl rfl) rfl hl.1 rfl (Nat.le_of_ble_eq_true rfl) dX3_sources_3 ⟨Nat.zero_le _, Nat.zero_le _⟩ ?_
  refine nr_if_eq (tgt := 13) hx hb (by omega) dX3_sources_6 (by decide) (fun c_6 => absurd c_6 (by decide)) (fun c_6 => ?_)
  refine lv_iconst (v := (nI (0))) hx hb dX3_sources_9 (by decide +kernel) ?_
  refine lv_goto (tgt := 14) hx hb dX3_sources_10 (by decide) ?_
  refine MuI.callV (r := (nI (1))) (As := [.int (nI (0))]) S (k_holds0 l) (cwV 1 hts gX3_sources_X3_holds rfl rfl rfl (by decide +kernel) ⟨Nat.le_of_ble_eq_true rfl, Nat.le_of_ble_eq_true rfl⟩) hK hP hD hS (va_recv hK.1 hP (ci := 3) (q0 := 0) rfl rfl) rfl hl.1 rfl (Nat.le_of_ble_eq_true rfl) dX3_sources_14 ⟨Nat.zero_le _, Nat.zero_le _⟩ (fun H locs hB hS _ hkp => ?_)
  have hP : va_P D aCl (wM Y A (nI (0)) (nI (rs.length)) (mi) (ju) (lo) f bf ca bg sz) H := hB
  have hD : va_D AA (wM Y A (nI (0)) (nI (rs.length)) (mi) (ju) (lo) f bf ca bg sz) := va_D.same hD rfl
  refine nr_if_eq (tgt := 39) hx hb (by omega) dX3_sources_17 (by decide) (fun c_17 => absurd c_17 (by decide)) (fun c_17 => ?_)
  refine lv_bipush (v := (nI (100))) hx hb dX3_sources_20 (by decide +kernel) ?_
  refine lv_aload_n hx hb dX3_sources_22 rfl (lv_at hl 0 rfl) ?_
  refine lv_iload_n hx hb dX3_sources_23 rfl (lv_at hl 1 rfl) ?_
  refine lv_iconst (v := (nI (0))) hx hb dX3_sources_24 (by decide +kernel) ?_
  refine Rd.callV (r := (nI (sF (gt rs (i))))) (As := [.int (nI (i)), .int (nI (0))]) S (k_ofR l hP hf (i := i) (w := 0) (by omega) (by omega)) (cwV 2 hts gX3_sources_X3_of rfl rfl rfl (by decide +kernel) ⟨Nat.le_of_ble_eq_true rfl, Nat.le_of_ble_eq_true rfl⟩) hK (va_recv hK.1 hP (ci := 3) (q0 := 0) rfl rfl) rfl hl.1 rfl (Nat.le_of_ble_eq_true rfl) dX3_sources_25 ⟨Nat.zero_le _, Nat.zero_le _⟩ ?_
  refine nr_imul hx hb dX3_sources_28 ?_
  refine lv_aload_n hx hb dX3_sources_29 rfl (lv_at hl 0 rfl) ?_
  refine lv_iload_n hx hb dX3_sources_30 rfl (lv_at hl 1 rfl) ?_
  refine lv_iconst (v := (nI (1))) hx hb dX3_sources_31 (by decide +kernel) ?_
  refine Rd.callV (r := (nI (sT (gt rs (i))))) (As := [.int (nI (i)), .int (nI (1))]) S (k_ofR l hP hf (i := i) (w := 1) (by omega) (by omega)) (cwV 2 hts gX3_sources_X3_of rfl rfl rfl (by decide +kernel) ⟨Nat.le_of_ble_eq_true rfl, Nat.le_of_ble_eq_true rfl⟩) hK (va_recv hK.1 hP (ci := 3) (q0 := 0) rfl rfl) rfl hl.1 rfl (Nat.le_of_ble_eq_true rfl) dX3_sources_32 ⟨Nat.zero_le _, Nat.zero_le _⟩ ?_
  refine nr_iadd hx hb dX3_sources_35 ?_
  refine lv_goto (tgt := 40) hx hb dX3_sources_36 (by decide) ?_
  exact hE _ _ _ _ _ dX3_sources_40 (vp_nar_int _) (rfl) (⟨f, bf, ca, bg, sz, hf, hP⟩) hS
set_option maxHeartbeats 4000000 in
set_option maxRecDepth 100000 in
theorem k_X3_sources_x (l : Launch) {D : va_G} {Y : Nat → ClassId} {A : Nat → Nat} {th mi ju lo : Int32} {f bf ca bg sz : Nat → Int32} {rs : List RV}  (hf : mrep rs f) {pl : Int32} (hpl : plI pl rs.length = false) : MuI l yX3_sources wsX3_sources 2 D Y [.ref (A 0), .int (pl)] (wM Y A (th) (nI (rs.length)) (mi) (ju) (lo) f bf ca bg sz) (mdB D Y A (nI 1) (mi) (ju) (lo) (rs)) (nI 0) := by
  refine MuI.start (cc := cX3_sources) (maxL := 2) (rt := .int) (by decide) rfl (Nat.le_of_ble_eq_true rfl) ?_
  intro p e s m args below meth c ls AA H0 H locs Q S hK hP hD hS hl hE
  have S : CallFix p m c cX3_sources 2 s args wsX3_sources RX3 := S
  have hx := S.1
  have hb := S.2.1
  have hts := S.2.2.2.2
  have hl : lv_has ls 2 [(0, .ref (A 0)), (1, .int (pl))] := hl
  refine lv_aload_n hx hb dX3_sources_0 rfl (lv_at hl 0 rfl) ?_
  refine lv_aload_n hx hb dX3_sources_1 rfl (lv_at hl 0 rfl) ?_
  refine lv_iload_n hx hb dX3_sources_2 rfl (lv_at hl 1 rfl) ?_
  refine Rd.callV (r := (bI (plI (pl) rs.length))) (As := [.int (pl)]) S (k_X3_isPlace l hP (pl := (pl))) (cwV 1 hts gX3_sources_X3_isPlace rfl rfl rfl (by decide +kernel) ⟨Nat.le_of_ble_eq_true rfl, Nat.le_of_ble_eq_true rfl⟩) hK (va_recv hK.1 hP (ci := 3) (q0 := 0) rfl rfl) rfl hl.1 rfl (Nat.le_of_ble_eq_true rfl) dX3_sources_3 ⟨Nat.zero_le _, Nat.zero_le _⟩ ?_
  refine nr_ifB_eq (tgt := 13) hx hb dX3_sources_6 (by decide) (fun c_6 => ?_) (fun c_6 => absurd c_6 (by rw [hpl]; decide))
  refine lv_iconst (v := (nI (1))) hx hb dX3_sources_13 (by decide +kernel) ?_
  refine MuI.callV (r := (nI (0))) (As := [.int (nI (1))]) S (k_holdsN l (by decide)) (cwV 1 hts gX3_sources_X3_holds rfl rfl rfl (by decide +kernel) ⟨Nat.le_of_ble_eq_true rfl, Nat.le_of_ble_eq_true rfl⟩) hK hP hD hS (va_recv hK.1 hP (ci := 3) (q0 := 0) rfl rfl) rfl hl.1 rfl (Nat.le_of_ble_eq_true rfl) dX3_sources_14 ⟨Nat.zero_le _, Nat.zero_le _⟩ (fun H locs hB hS _ hkp => ?_)
  have hP : va_P D aCl (wM Y A (nI (1)) (nI (rs.length)) (mi) (ju) (lo) f bf ca bg sz) H := hB
  have hD : va_D AA (wM Y A (nI (1)) (nI (rs.length)) (mi) (ju) (lo) f bf ca bg sz) := va_D.same hD rfl
  refine nr_if_eq (tgt := 39) hx hb (by omega) dX3_sources_17 (by decide) (fun c_17 => ?_) (fun c_17 => absurd c_17 (by decide))
  refine lv_iconst (v := (nI (0))) hx hb dX3_sources_39 (by decide +kernel) ?_
  exact hE _ _ _ _ _ dX3_sources_40 (vp_nar_int _) (rfl) (⟨f, bf, ca, bg, sz, hf, hP⟩) hS
set_option maxHeartbeats 4000000 in
set_option maxRecDepth 100000 in
theorem k_X3_destinations (l : Launch) {D : va_G} {Y : Nat → ClassId} {A : Nat → Nat} {th mi ju lo : Int32} {f bf ca bg sz : Nat → Int32} {rs : List RV}  (hf : mrep rs f) {i : Nat} (hi : i < rs.length) : MuI l yX3_destinations wsX3_destinations 2 D Y [.ref (A 0), .int (nI (i))] (wM Y A (th) (nI (rs.length)) (mi) (ju) (lo) f bf ca bg sz) (mdB D Y A (nI 0) (mi) (ju) (lo) (rs)) (nI (100 * dF (gt rs i) + dT (gt rs i))) := by
  refine MuI.start (cc := cX3_destinations) (maxL := 2) (rt := .int) (by decide) rfl (Nat.le_of_ble_eq_true rfl) ?_
  intro p e s m args below meth c ls AA H0 H locs Q S hK hP hD hS hl hE
  have S : CallFix p m c cX3_destinations 2 s args wsX3_destinations RX3 := S
  have hx := S.1
  have hb := S.2.1
  have hts := S.2.2.2.2
  have hl : lv_has ls 2 [(0, .ref (A 0)), (1, .int (nI (i)))] := hl
  have hn := hf.1.1
  refine lv_aload_n hx hb dX3_destinations_0 rfl (lv_at hl 0 rfl) ?_
  refine lv_aload_n hx hb dX3_destinations_1 rfl (lv_at hl 0 rfl) ?_
  refine lv_iload_n hx hb dX3_destinations_2 rfl (lv_at hl 1 rfl) ?_
  refine Rd.callV (r := (nI (1))) (As := [.int (nI (i))]) S (k_isPl1 l hP hn (i := i) (by omega)) (cwV 1 hts gX3_destinations_X3_isPlace rfl rfl rfl (by decide +kernel) ⟨Nat.le_of_ble_eq_true rfl, Nat.le_of_ble_eq_true rfl⟩) hK (va_recv hK.1 hP (ci := 3) (q0 := 0) rfl rfl) rfl hl.1 rfl (Nat.le_of_ble_eq_true rfl) dX3_destinations_3 ⟨Nat.zero_le _, Nat.zero_le _⟩ ?_
  refine nr_if_eq (tgt := 13) hx hb (by omega) dX3_destinations_6 (by decide) (fun c_6 => absurd c_6 (by decide)) (fun c_6 => ?_)
  refine lv_iconst (v := (nI (0))) hx hb dX3_destinations_9 (by decide +kernel) ?_
  refine lv_goto (tgt := 14) hx hb dX3_destinations_10 (by decide) ?_
  refine MuI.callV (r := (nI (1))) (As := [.int (nI (0))]) S (k_holds0 l) (cwV 1 hts gX3_destinations_X3_holds rfl rfl rfl (by decide +kernel) ⟨Nat.le_of_ble_eq_true rfl, Nat.le_of_ble_eq_true rfl⟩) hK hP hD hS (va_recv hK.1 hP (ci := 3) (q0 := 0) rfl rfl) rfl hl.1 rfl (Nat.le_of_ble_eq_true rfl) dX3_destinations_14 ⟨Nat.zero_le _, Nat.zero_le _⟩ (fun H locs hB hS _ hkp => ?_)
  have hP : va_P D aCl (wM Y A (nI (0)) (nI (rs.length)) (mi) (ju) (lo) f bf ca bg sz) H := hB
  have hD : va_D AA (wM Y A (nI (0)) (nI (rs.length)) (mi) (ju) (lo) f bf ca bg sz) := va_D.same hD rfl
  refine nr_if_eq (tgt := 39) hx hb (by omega) dX3_destinations_17 (by decide) (fun c_17 => absurd c_17 (by decide)) (fun c_17 => ?_)
  refine lv_bipush (v := (nI (100))) hx hb dX3_destinations_20 (by decide +kernel) ?_
  refine lv_aload_n hx hb dX3_destinations_22 rfl (lv_at hl 0 rfl) ?_
  refine lv_iload_n hx hb dX3_destinations_23 rfl (lv_at hl 1 rfl) ?_
  refine lv_iconst (v := (nI (2))) hx hb dX3_destinations_24 (by decide +kernel) ?_
  refine Rd.callV (r := (nI (dF (gt rs (i))))) (As := [.int (nI (i)), .int (nI (2))]) S (k_ofR l hP hf (i := i) (w := 2) (by omega) (by omega)) (cwV 2 hts gX3_destinations_X3_of rfl rfl rfl (by decide +kernel) ⟨Nat.le_of_ble_eq_true rfl, Nat.le_of_ble_eq_true rfl⟩) hK (va_recv hK.1 hP (ci := 3) (q0 := 0) rfl rfl) rfl hl.1 rfl (Nat.le_of_ble_eq_true rfl) dX3_destinations_25 ⟨Nat.zero_le _, Nat.zero_le _⟩ ?_
  refine nr_imul hx hb dX3_destinations_28 ?_
  refine lv_aload_n hx hb dX3_destinations_29 rfl (lv_at hl 0 rfl) ?_
  refine lv_iload_n hx hb dX3_destinations_30 rfl (lv_at hl 1 rfl) ?_
  refine lv_iconst (v := (nI (3))) hx hb dX3_destinations_31 (by decide +kernel) ?_
  refine Rd.callV (r := (nI (dT (gt rs (i))))) (As := [.int (nI (i)), .int (nI (3))]) S (k_ofR l hP hf (i := i) (w := 3) (by omega) (by omega)) (cwV 2 hts gX3_destinations_X3_of rfl rfl rfl (by decide +kernel) ⟨Nat.le_of_ble_eq_true rfl, Nat.le_of_ble_eq_true rfl⟩) hK (va_recv hK.1 hP (ci := 3) (q0 := 0) rfl rfl) rfl hl.1 rfl (Nat.le_of_ble_eq_true rfl) dX3_destinations_32 ⟨Nat.zero_le _, Nat.zero_le _⟩ ?_
  refine nr_iadd hx hb dX3_destinations_35 ?_
  refine lv_goto (tgt := 40) hx hb dX3_destinations_36 (by decide) ?_
  exact hE _ _ _ _ _ dX3_destinations_40 (vp_nar_int _) (rfl) (⟨f, bf, ca, bg, sz, hf, hP⟩) hS
set_option maxHeartbeats 4000000 in
set_option maxRecDepth 100000 in
theorem k_X3_destinations_x (l : Launch) {D : va_G} {Y : Nat → ClassId} {A : Nat → Nat} {th mi ju lo : Int32} {f bf ca bg sz : Nat → Int32} {rs : List RV}  (hf : mrep rs f) {pl : Int32} (hpl : plI pl rs.length = false) : MuI l yX3_destinations wsX3_destinations 2 D Y [.ref (A 0), .int (pl)] (wM Y A (th) (nI (rs.length)) (mi) (ju) (lo) f bf ca bg sz) (mdB D Y A (nI 1) (mi) (ju) (lo) (rs)) (nI 0) := by
  refine MuI.start (cc := cX3_destinations) (maxL := 2) (rt := .int) (by decide) rfl (Nat.le_of_ble_eq_true rfl) ?_
  intro p e s m args below meth c ls AA H0 H locs Q S hK hP hD hS hl hE
  have S : CallFix p m c cX3_destinations 2 s args wsX3_destinations RX3 := S
  have hx := S.1
  have hb := S.2.1
  have hts := S.2.2.2.2
  have hl : lv_has ls 2 [(0, .ref (A 0)), (1, .int (pl))] := hl
  refine lv_aload_n hx hb dX3_destinations_0 rfl (lv_at hl 0 rfl) ?_
  refine lv_aload_n hx hb dX3_destinations_1 rfl (lv_at hl 0 rfl) ?_
  refine lv_iload_n hx hb dX3_destinations_2 rfl (lv_at hl 1 rfl) ?_
  refine Rd.callV (r := (bI (plI (pl) rs.length))) (As := [.int (pl)]) S (k_X3_isPlace l hP (pl := (pl))) (cwV 1 hts gX3_destinations_X3_isPlace rfl rfl rfl (by decide +kernel) ⟨Nat.le_of_ble_eq_true rfl, Nat.le_of_ble_eq_true rfl⟩) hK (va_recv hK.1 hP (ci := 3) (q0 := 0) rfl rfl) rfl hl.1 rfl (Nat.le_of_ble_eq_true rfl) dX3_destinations_3 ⟨Nat.zero_le _, Nat.zero_le _⟩ ?_
  refine nr_ifB_eq (tgt := 13) hx hb dX3_destinations_6 (by decide) (fun c_6 => ?_) (fun c_6 => absurd c_6 (by rw [hpl]; decide))
  refine lv_iconst (v := (nI (1))) hx hb dX3_destinations_13 (by decide +kernel) ?_
  refine MuI.callV (r := (nI (0))) (As := [.int (nI (1))]) S (k_holdsN l (by decide)) (cwV 1 hts gX3_destinations_X3_holds rfl rfl rfl (by decide +kernel) ⟨Nat.le_of_ble_eq_true rfl, Nat.le_of_ble_eq_true rfl⟩) hK hP hD hS (va_recv hK.1 hP (ci := 3) (q0 := 0) rfl rfl) rfl hl.1 rfl (Nat.le_of_ble_eq_true rfl) dX3_destinations_14 ⟨Nat.zero_le _, Nat.zero_le _⟩ (fun H locs hB hS _ hkp => ?_)
  have hP : va_P D aCl (wM Y A (nI (1)) (nI (rs.length)) (mi) (ju) (lo) f bf ca bg sz) H := hB
  have hD : va_D AA (wM Y A (nI (1)) (nI (rs.length)) (mi) (ju) (lo) f bf ca bg sz) := va_D.same hD rfl
  refine nr_if_eq (tgt := 39) hx hb (by omega) dX3_destinations_17 (by decide) (fun c_17 => ?_) (fun c_17 => absurd c_17 (by decide))
  refine lv_iconst (v := (nI (0))) hx hb dX3_destinations_39 (by decide +kernel) ?_
  exact hE _ _ _ _ _ dX3_destinations_40 (vp_nar_int _) (rfl) (⟨f, bf, ca, bg, sz, hf, hP⟩) hS
set_option maxHeartbeats 4000000 in
set_option maxRecDepth 100000 in
theorem k_X3_protocols (l : Launch) {D : va_G} {Y : Nat → ClassId} {A : Nat → Nat} {th mi ju lo : Int32} {f bf ca bg sz : Nat → Int32} {rs : List RV}  (hf : mrep rs f) {i : Nat} (hi : i < rs.length) : MuI l yX3_protocols wsX3_protocols 2 D Y [.ref (A 0), .int (nI (i))] (wM Y A (th) (nI (rs.length)) (mi) (ju) (lo) f bf ca bg sz) (mdB D Y A (nI 0) (mi) (ju) (lo) (rs)) (nI (pR (gt rs i))) := by
  refine MuI.start (cc := cX3_protocols) (maxL := 2) (rt := .int) (by decide) rfl (Nat.le_of_ble_eq_true rfl) ?_
  intro p e s m args below meth c ls AA H0 H locs Q S hK hP hD hS hl hE
  have S : CallFix p m c cX3_protocols 2 s args wsX3_protocols RX3 := S
  have hx := S.1
  have hb := S.2.1
  have hts := S.2.2.2.2
  have hl : lv_has ls 2 [(0, .ref (A 0)), (1, .int (nI (i)))] := hl
  have hn := hf.1.1
  refine lv_aload_n hx hb dX3_protocols_0 rfl (lv_at hl 0 rfl) ?_
  refine lv_aload_n hx hb dX3_protocols_1 rfl (lv_at hl 0 rfl) ?_
  refine lv_iload_n hx hb dX3_protocols_2 rfl (lv_at hl 1 rfl) ?_
  refine Rd.callV (r := (nI (1))) (As := [.int (nI (i))]) S (k_isPl1 l hP hn (i := i) (by omega)) (cwV 1 hts gX3_protocols_X3_isPlace rfl rfl rfl (by decide +kernel) ⟨Nat.le_of_ble_eq_true rfl, Nat.le_of_ble_eq_true rfl⟩) hK (va_recv hK.1 hP (ci := 3) (q0 := 0) rfl rfl) rfl hl.1 rfl (Nat.le_of_ble_eq_true rfl) dX3_protocols_3 ⟨Nat.zero_le _, Nat.zero_le _⟩ ?_
  refine nr_if_eq (tgt := 13) hx hb (by omega) dX3_protocols_6 (by decide) (fun c_6 => absurd c_6 (by decide)) (fun c_6 => ?_)
  refine lv_iconst (v := (nI (0))) hx hb dX3_protocols_9 (by decide +kernel) ?_
  refine lv_goto (tgt := 14) hx hb dX3_protocols_10 (by decide) ?_
  refine MuI.callV (r := (nI (1))) (As := [.int (nI (0))]) S (k_holds0 l) (cwV 1 hts gX3_protocols_X3_holds rfl rfl rfl (by decide +kernel) ⟨Nat.le_of_ble_eq_true rfl, Nat.le_of_ble_eq_true rfl⟩) hK hP hD hS (va_recv hK.1 hP (ci := 3) (q0 := 0) rfl rfl) rfl hl.1 rfl (Nat.le_of_ble_eq_true rfl) dX3_protocols_14 ⟨Nat.zero_le _, Nat.zero_le _⟩ (fun H locs hB hS _ hkp => ?_)
  have hP : va_P D aCl (wM Y A (nI (0)) (nI (rs.length)) (mi) (ju) (lo) f bf ca bg sz) H := hB
  have hD : va_D AA (wM Y A (nI (0)) (nI (rs.length)) (mi) (ju) (lo) f bf ca bg sz) := va_D.same hD rfl
  refine nr_if_eq (tgt := 29) hx hb (by omega) dX3_protocols_17 (by decide) (fun c_17 => absurd c_17 (by decide)) (fun c_17 => ?_)
  refine lv_aload_n hx hb dX3_protocols_20 rfl (lv_at hl 0 rfl) ?_
  refine lv_iload_n hx hb dX3_protocols_21 rfl (lv_at hl 1 rfl) ?_
  refine lv_iconst (v := (nI (4))) hx hb dX3_protocols_22 (by decide +kernel) ?_
  refine Rd.callV (r := (nI (pR (gt rs (i))))) (As := [.int (nI (i)), .int (nI (4))]) S (k_ofR l hP hf (i := i) (w := 4) (by omega) (by omega)) (cwV 2 hts gX3_protocols_X3_of rfl rfl rfl (by decide +kernel) ⟨Nat.le_of_ble_eq_true rfl, Nat.le_of_ble_eq_true rfl⟩) hK (va_recv hK.1 hP (ci := 3) (q0 := 0) rfl rfl) rfl hl.1 rfl (Nat.le_of_ble_eq_true rfl) dX3_protocols_23 ⟨Nat.zero_le _, Nat.zero_le _⟩ ?_
  refine lv_goto (tgt := 30) hx hb dX3_protocols_26 (by decide) ?_
  exact hE _ _ _ _ _ dX3_protocols_30 (vp_nar_int _) (rfl) (⟨f, bf, ca, bg, sz, hf, hP⟩) hS
set_option maxHeartbeats 4000000 in
set_option maxRecDepth 100000 in
theorem k_X3_protocols_x (l : Launch) {D : va_G} {Y : Nat → ClassId} {A : Nat → Nat} {th mi ju lo : Int32} {f bf ca bg sz : Nat → Int32} {rs : List RV}  (hf : mrep rs f) {pl : Int32} (hpl : plI pl rs.length = false) : MuI l yX3_protocols wsX3_protocols 2 D Y [.ref (A 0), .int (pl)] (wM Y A (th) (nI (rs.length)) (mi) (ju) (lo) f bf ca bg sz) (mdB D Y A (nI 1) (mi) (ju) (lo) (rs)) (nI 0) := by
  refine MuI.start (cc := cX3_protocols) (maxL := 2) (rt := .int) (by decide) rfl (Nat.le_of_ble_eq_true rfl) ?_
  intro p e s m args below meth c ls AA H0 H locs Q S hK hP hD hS hl hE
  have S : CallFix p m c cX3_protocols 2 s args wsX3_protocols RX3 := S
  have hx := S.1
  have hb := S.2.1
  have hts := S.2.2.2.2
  have hl : lv_has ls 2 [(0, .ref (A 0)), (1, .int (pl))] := hl
  refine lv_aload_n hx hb dX3_protocols_0 rfl (lv_at hl 0 rfl) ?_
  refine lv_aload_n hx hb dX3_protocols_1 rfl (lv_at hl 0 rfl) ?_
  refine lv_iload_n hx hb dX3_protocols_2 rfl (lv_at hl 1 rfl) ?_
  refine Rd.callV (r := (bI (plI (pl) rs.length))) (As := [.int (pl)]) S (k_X3_isPlace l hP (pl := (pl))) (cwV 1 hts gX3_protocols_X3_isPlace rfl rfl rfl (by decide +kernel) ⟨Nat.le_of_ble_eq_true rfl, Nat.le_of_ble_eq_true rfl⟩) hK (va_recv hK.1 hP (ci := 3) (q0 := 0) rfl rfl) rfl hl.1 rfl (Nat.le_of_ble_eq_true rfl) dX3_protocols_3 ⟨Nat.zero_le _, Nat.zero_le _⟩ ?_
  refine nr_ifB_eq (tgt := 13) hx hb dX3_protocols_6 (by decide) (fun c_6 => ?_) (fun c_6 => absurd c_6 (by rw [hpl]; decide))
  refine lv_iconst (v := (nI (1))) hx hb dX3_protocols_13 (by decide +kernel) ?_
  refine MuI.callV (r := (nI (0))) (As := [.int (nI (1))]) S (k_holdsN l (by decide)) (cwV 1 hts gX3_protocols_X3_holds rfl rfl rfl (by decide +kernel) ⟨Nat.le_of_ble_eq_true rfl, Nat.le_of_ble_eq_true rfl⟩) hK hP hD hS (va_recv hK.1 hP (ci := 3) (q0 := 0) rfl rfl) rfl hl.1 rfl (Nat.le_of_ble_eq_true rfl) dX3_protocols_14 ⟨Nat.zero_le _, Nat.zero_le _⟩ (fun H locs hB hS _ hkp => ?_)
  have hP : va_P D aCl (wM Y A (nI (1)) (nI (rs.length)) (mi) (ju) (lo) f bf ca bg sz) H := hB
  have hD : va_D AA (wM Y A (nI (1)) (nI (rs.length)) (mi) (ju) (lo) f bf ca bg sz) := va_D.same hD rfl
  refine nr_if_eq (tgt := 29) hx hb (by omega) dX3_protocols_17 (by decide) (fun c_17 => ?_) (fun c_17 => absurd c_17 (by decide))
  refine lv_iconst (v := (nI (0))) hx hb dX3_protocols_29 (by decide +kernel) ?_
  exact hE _ _ _ _ _ dX3_protocols_30 (vp_nar_int _) (rfl) (⟨f, bf, ca, bg, sz, hf, hP⟩) hS
set_option maxHeartbeats 4000000 in
set_option maxRecDepth 100000 in
theorem k_X3_permits (l : Launch) {D : va_G} {Y : Nat → ClassId} {A : Nat → Nat} {th mi ju lo : Int32} {f bf ca bg sz : Nat → Int32} {rs : List RV}  (hf : mrep rs f) {i : Nat} (hi : i < rs.length) : MuI l yX3_permits wsX3_permits 2 D Y [.ref (A 0), .int (nI (i))] (wM Y A (th) (nI (rs.length)) (mi) (ju) (lo) f bf ca bg sz) (mdB D Y A (nI 0) (mi) (ju) (lo) (rs)) (bI (pM (gt rs i))) := by
  refine MuI.start (cc := cX3_permits) (maxL := 2) (rt := .boolean) (by decide) rfl (Nat.le_of_ble_eq_true rfl) ?_
  intro p e s m args below meth c ls AA H0 H locs Q S hK hP hD hS hl hE
  have S : CallFix p m c cX3_permits 2 s args wsX3_permits RX3 := S
  have hx := S.1
  have hb := S.2.1
  have hts := S.2.2.2.2
  have hl : lv_has ls 2 [(0, .ref (A 0)), (1, .int (nI (i)))] := hl
  have hn := hf.1.1
  refine lv_aload_n hx hb dX3_permits_0 rfl (lv_at hl 0 rfl) ?_
  refine lv_aload_n hx hb dX3_permits_1 rfl (lv_at hl 0 rfl) ?_
  refine lv_iload_n hx hb dX3_permits_2 rfl (lv_at hl 1 rfl) ?_
  refine Rd.callV (r := (nI (1))) (As := [.int (nI (i))]) S (k_isPl1 l hP hn (i := i) (by omega)) (cwV 1 hts gX3_permits_X3_isPlace rfl rfl rfl (by decide +kernel) ⟨Nat.le_of_ble_eq_true rfl, Nat.le_of_ble_eq_true rfl⟩) hK (va_recv hK.1 hP (ci := 3) (q0 := 0) rfl rfl) rfl hl.1 rfl (Nat.le_of_ble_eq_true rfl) dX3_permits_3 ⟨Nat.zero_le _, Nat.zero_le _⟩ ?_
  refine nr_if_eq (tgt := 13) hx hb (by omega) dX3_permits_6 (by decide) (fun c_6 => absurd c_6 (by decide)) (fun c_6 => ?_)
  refine lv_iconst (v := (nI (0))) hx hb dX3_permits_9 (by decide +kernel) ?_
  refine lv_goto (tgt := 14) hx hb dX3_permits_10 (by decide) ?_
  refine MuI.callV (r := (nI (1))) (As := [.int (nI (0))]) S (k_holds0 l) (cwV 1 hts gX3_permits_X3_holds rfl rfl rfl (by decide +kernel) ⟨Nat.le_of_ble_eq_true rfl, Nat.le_of_ble_eq_true rfl⟩) hK hP hD hS (va_recv hK.1 hP (ci := 3) (q0 := 0) rfl rfl) rfl hl.1 rfl (Nat.le_of_ble_eq_true rfl) dX3_permits_14 ⟨Nat.zero_le _, Nat.zero_le _⟩ (fun H locs hB hS _ hkp => ?_)
  have hP : va_P D aCl (wM Y A (nI (0)) (nI (rs.length)) (mi) (ju) (lo) f bf ca bg sz) H := hB
  have hD : va_D AA (wM Y A (nI (0)) (nI (rs.length)) (mi) (ju) (lo) f bf ca bg sz) := va_D.same hD rfl
  refine nr_if_eq (tgt := 34) hx hb (by omega) dX3_permits_17 (by decide) (fun c_17 => absurd c_17 (by decide)) (fun c_17 => ?_)
  refine lv_aload_n hx hb dX3_permits_20 rfl (lv_at hl 0 rfl) ?_
  refine lv_iload_n hx hb dX3_permits_21 rfl (lv_at hl 1 rfl) ?_
  refine lv_iconst (v := (nI (5))) hx hb dX3_permits_22 (by decide +kernel) ?_
  refine Rd.callV (r := (nI (bN (pM (gt rs (i)))))) (As := [.int (nI (i)), .int (nI (5))]) S (k_ofR l hP hf (i := i) (w := 5) (by omega) (by omega)) (cwV 2 hts gX3_permits_X3_of rfl rfl rfl (by decide +kernel) ⟨Nat.le_of_ble_eq_true rfl, Nat.le_of_ble_eq_true rfl⟩) hK (va_recv hK.1 hP (ci := 3) (q0 := 0) rfl rfl) rfl hl.1 rfl (Nat.le_of_ble_eq_true rfl) dX3_permits_23 ⟨Nat.zero_le _, Nat.zero_le _⟩ ?_
  refine lv_iconst (v := (nI (1))) hx hb dX3_permits_26 (by decide +kernel) ?_
  refine nr_icmp_ne (tgt := 34) hx hb (Nat.lt_trans (bN_lt _) (by decide)) (by decide) dX3_permits_27 (by decide) (fun c_27 => ?_) (fun c_27 => ?_)
  · refine lv_iconst (v := (nI (0))) hx hb dX3_permits_34 (by decide +kernel) ?_
    exact hE _ _ _ _ _ dX3_permits_35 (rfl) (bI_f (bN_f c_27)) (⟨f, bf, ca, bg, sz, hf, hP⟩) hS
  · refine lv_iconst (v := (nI (1))) hx hb dX3_permits_30 (by decide +kernel) ?_
    refine lv_goto (tgt := 35) hx hb dX3_permits_31 (by decide) ?_
    exact hE _ _ _ _ _ dX3_permits_35 (rfl) (bI_t (bN_t c_27)) (⟨f, bf, ca, bg, sz, hf, hP⟩) hS
set_option maxHeartbeats 4000000 in
set_option maxRecDepth 100000 in
theorem k_X3_permits_x (l : Launch) {D : va_G} {Y : Nat → ClassId} {A : Nat → Nat} {th mi ju lo : Int32} {f bf ca bg sz : Nat → Int32} {rs : List RV}  (hf : mrep rs f) {pl : Int32} (hpl : plI pl rs.length = false) : MuI l yX3_permits wsX3_permits 2 D Y [.ref (A 0), .int (pl)] (wM Y A (th) (nI (rs.length)) (mi) (ju) (lo) f bf ca bg sz) (mdB D Y A (nI 1) (mi) (ju) (lo) (rs)) (nI 0) := by
  refine MuI.start (cc := cX3_permits) (maxL := 2) (rt := .boolean) (by decide) rfl (Nat.le_of_ble_eq_true rfl) ?_
  intro p e s m args below meth c ls AA H0 H locs Q S hK hP hD hS hl hE
  have S : CallFix p m c cX3_permits 2 s args wsX3_permits RX3 := S
  have hx := S.1
  have hb := S.2.1
  have hts := S.2.2.2.2
  have hl : lv_has ls 2 [(0, .ref (A 0)), (1, .int (pl))] := hl
  refine lv_aload_n hx hb dX3_permits_0 rfl (lv_at hl 0 rfl) ?_
  refine lv_aload_n hx hb dX3_permits_1 rfl (lv_at hl 0 rfl) ?_
  refine lv_iload_n hx hb dX3_permits_2 rfl (lv_at hl 1 rfl) ?_
  refine Rd.callV (r := (bI (plI (pl) rs.length))) (As := [.int (pl)]) S (k_X3_isPlace l hP (pl := (pl))) (cwV 1 hts gX3_permits_X3_isPlace rfl rfl rfl (by decide +kernel) ⟨Nat.le_of_ble_eq_true rfl, Nat.le_of_ble_eq_true rfl⟩) hK (va_recv hK.1 hP (ci := 3) (q0 := 0) rfl rfl) rfl hl.1 rfl (Nat.le_of_ble_eq_true rfl) dX3_permits_3 ⟨Nat.zero_le _, Nat.zero_le _⟩ ?_
  refine nr_ifB_eq (tgt := 13) hx hb dX3_permits_6 (by decide) (fun c_6 => ?_) (fun c_6 => absurd c_6 (by rw [hpl]; decide))
  refine lv_iconst (v := (nI (1))) hx hb dX3_permits_13 (by decide +kernel) ?_
  refine MuI.callV (r := (nI (0))) (As := [.int (nI (1))]) S (k_holdsN l (by decide)) (cwV 1 hts gX3_permits_X3_holds rfl rfl rfl (by decide +kernel) ⟨Nat.le_of_ble_eq_true rfl, Nat.le_of_ble_eq_true rfl⟩) hK hP hD hS (va_recv hK.1 hP (ci := 3) (q0 := 0) rfl rfl) rfl hl.1 rfl (Nat.le_of_ble_eq_true rfl) dX3_permits_14 ⟨Nat.zero_le _, Nat.zero_le _⟩ (fun H locs hB hS _ hkp => ?_)
  have hP : va_P D aCl (wM Y A (nI (1)) (nI (rs.length)) (mi) (ju) (lo) f bf ca bg sz) H := hB
  have hD : va_D AA (wM Y A (nI (1)) (nI (rs.length)) (mi) (ju) (lo) f bf ca bg sz) := va_D.same hD rfl
  refine nr_if_eq (tgt := 34) hx hb (by omega) dX3_permits_17 (by decide) (fun c_17 => ?_) (fun c_17 => absurd c_17 (by decide))
  refine lv_iconst (v := (nI (0))) hx hb dX3_permits_34 (by decide +kernel) ?_
  exact hE _ _ _ _ _ dX3_permits_35 (rfl) (rfl) (⟨f, bf, ca, bg, sz, hf, hP⟩) hS
set_option maxHeartbeats 4000000 in
set_option maxRecDepth 100000 in
theorem k_X3_hits (l : Launch) {D : va_G} {Y : Nat → ClassId} {A : Nat → Nat} {th mi ju lo : Int32} {f bf ca bg sz : Nat → Int32} {rs : List RV}  (hf : mrep rs f) {i : Nat} (hi : i < rs.length) : MuI l yX3_hits wsX3_hits 2 D Y [.ref (A 0), .int (nI (i))] (wM Y A (th) (nI (rs.length)) (mi) (ju) (lo) f bf ca bg sz) (mdB D Y A (nI 0) (mi) (ju) (lo) (rs)) (hT (gt rs i)) := by
  refine MuI.start (cc := cX3_hits) (maxL := 2) (rt := .int) (by decide) rfl (Nat.le_of_ble_eq_true rfl) ?_
  intro p e s m args below meth c ls AA H0 H locs Q S hK hP hD hS hl hE
  have S : CallFix p m c cX3_hits 2 s args wsX3_hits RX3 := S
  have hx := S.1
  have hb := S.2.1
  have hts := S.2.2.2.2
  have hl : lv_has ls 2 [(0, .ref (A 0)), (1, .int (nI (i)))] := hl
  have hn := hf.1.1
  refine lv_aload_n hx hb dX3_hits_0 rfl (lv_at hl 0 rfl) ?_
  refine lv_aload_n hx hb dX3_hits_1 rfl (lv_at hl 0 rfl) ?_
  refine lv_iload_n hx hb dX3_hits_2 rfl (lv_at hl 1 rfl) ?_
  refine Rd.callV (r := (nI (1))) (As := [.int (nI (i))]) S (k_isPl1 l hP hn (i := i) (by omega)) (cwV 1 hts gX3_hits_X3_isPlace rfl rfl rfl (by decide +kernel) ⟨Nat.le_of_ble_eq_true rfl, Nat.le_of_ble_eq_true rfl⟩) hK (va_recv hK.1 hP (ci := 3) (q0 := 0) rfl rfl) rfl hl.1 rfl (Nat.le_of_ble_eq_true rfl) dX3_hits_3 ⟨Nat.zero_le _, Nat.zero_le _⟩ ?_
  refine nr_if_eq (tgt := 13) hx hb (by omega) dX3_hits_6 (by decide) (fun c_6 => absurd c_6 (by decide)) (fun c_6 => ?_)
  refine lv_iconst (v := (nI (0))) hx hb dX3_hits_9 (by decide +kernel) ?_
  refine lv_goto (tgt := 14) hx hb dX3_hits_10 (by decide) ?_
  refine MuI.callV (r := (nI (1))) (As := [.int (nI (0))]) S (k_holds0 l) (cwV 1 hts gX3_hits_X3_holds rfl rfl rfl (by decide +kernel) ⟨Nat.le_of_ble_eq_true rfl, Nat.le_of_ble_eq_true rfl⟩) hK hP hD hS (va_recv hK.1 hP (ci := 3) (q0 := 0) rfl rfl) rfl hl.1 rfl (Nat.le_of_ble_eq_true rfl) dX3_hits_14 ⟨Nat.zero_le _, Nat.zero_le _⟩ (fun H locs hB hS _ hkp => ?_)
  have hP : va_P D aCl (wM Y A (nI (0)) (nI (rs.length)) (mi) (ju) (lo) f bf ca bg sz) H := hB
  have hD : va_D AA (wM Y A (nI (0)) (nI (rs.length)) (mi) (ju) (lo) f bf ca bg sz) := va_D.same hD rfl
  refine nr_if_eq (tgt := 30) hx hb (by omega) dX3_hits_17 (by decide) (fun c_17 => absurd c_17 (by decide)) (fun c_17 => ?_)
  refine lv_aload_n hx hb dX3_hits_20 rfl (lv_at hl 0 rfl) ?_
  refine lv_iload_n hx hb dX3_hits_21 rfl (lv_at hl 1 rfl) ?_
  refine lv_bipush (v := (nI (6))) hx hb dX3_hits_22 (by decide +kernel) ?_
  refine Rd.callV (r := (hT (gt rs (i)))) (As := [.int (nI (i)), .int (nI (6))]) S (k_ofR l hP hf (i := i) (w := 6) (by omega) (by omega)) (cwV 2 hts gX3_hits_X3_of rfl rfl rfl (by decide +kernel) ⟨Nat.le_of_ble_eq_true rfl, Nat.le_of_ble_eq_true rfl⟩) hK (va_recv hK.1 hP (ci := 3) (q0 := 0) rfl rfl) rfl hl.1 rfl (Nat.le_of_ble_eq_true rfl) dX3_hits_24 ⟨Nat.zero_le _, Nat.zero_le _⟩ ?_
  refine lv_goto (tgt := 31) hx hb dX3_hits_27 (by decide) ?_
  exact hE _ _ _ _ _ dX3_hits_31 (vp_nar_int _) (rfl) (⟨f, bf, ca, bg, sz, hf, hP⟩) hS
set_option maxHeartbeats 4000000 in
set_option maxRecDepth 100000 in
theorem k_X3_hits_x (l : Launch) {D : va_G} {Y : Nat → ClassId} {A : Nat → Nat} {th mi ju lo : Int32} {f bf ca bg sz : Nat → Int32} {rs : List RV}  (hf : mrep rs f) {pl : Int32} (hpl : plI pl rs.length = false) : MuI l yX3_hits wsX3_hits 2 D Y [.ref (A 0), .int (pl)] (wM Y A (th) (nI (rs.length)) (mi) (ju) (lo) f bf ca bg sz) (mdB D Y A (nI 1) (mi) (ju) (lo) (rs)) (nI 0) := by
  refine MuI.start (cc := cX3_hits) (maxL := 2) (rt := .int) (by decide) rfl (Nat.le_of_ble_eq_true rfl) ?_
  intro p e s m args below meth c ls AA H0 H locs Q S hK hP hD hS hl hE
  have S : CallFix p m c cX3_hits 2 s args wsX3_hits RX3 := S
  have hx := S.1
  have hb := S.2.1
  have hts := S.2.2.2.2
  have hl : lv_has ls 2 [(0, .ref (A 0)), (1, .int (pl))] := hl
  refine lv_aload_n hx hb dX3_hits_0 rfl (lv_at hl 0 rfl) ?_
  refine lv_aload_n hx hb dX3_hits_1 rfl (lv_at hl 0 rfl) ?_
  refine lv_iload_n hx hb dX3_hits_2 rfl (lv_at hl 1 rfl) ?_
  refine Rd.callV (r := (bI (plI (pl) rs.length))) (As := [.int (pl)]) S (k_X3_isPlace l hP (pl := (pl))) (cwV 1 hts gX3_hits_X3_isPlace rfl rfl rfl (by decide +kernel) ⟨Nat.le_of_ble_eq_true rfl, Nat.le_of_ble_eq_true rfl⟩) hK (va_recv hK.1 hP (ci := 3) (q0 := 0) rfl rfl) rfl hl.1 rfl (Nat.le_of_ble_eq_true rfl) dX3_hits_3 ⟨Nat.zero_le _, Nat.zero_le _⟩ ?_
  refine nr_ifB_eq (tgt := 13) hx hb dX3_hits_6 (by decide) (fun c_6 => ?_) (fun c_6 => absurd c_6 (by rw [hpl]; decide))
  refine lv_iconst (v := (nI (1))) hx hb dX3_hits_13 (by decide +kernel) ?_
  refine MuI.callV (r := (nI (0))) (As := [.int (nI (1))]) S (k_holdsN l (by decide)) (cwV 1 hts gX3_hits_X3_holds rfl rfl rfl (by decide +kernel) ⟨Nat.le_of_ble_eq_true rfl, Nat.le_of_ble_eq_true rfl⟩) hK hP hD hS (va_recv hK.1 hP (ci := 3) (q0 := 0) rfl rfl) rfl hl.1 rfl (Nat.le_of_ble_eq_true rfl) dX3_hits_14 ⟨Nat.zero_le _, Nat.zero_le _⟩ (fun H locs hB hS _ hkp => ?_)
  have hP : va_P D aCl (wM Y A (nI (1)) (nI (rs.length)) (mi) (ju) (lo) f bf ca bg sz) H := hB
  have hD : va_D AA (wM Y A (nI (1)) (nI (rs.length)) (mi) (ju) (lo) f bf ca bg sz) := va_D.same hD rfl
  refine nr_if_eq (tgt := 30) hx hb (by omega) dX3_hits_17 (by decide) (fun c_17 => ?_) (fun c_17 => absurd c_17 (by decide))
  refine lv_iconst (v := (nI (0))) hx hb dX3_hits_30 (by decide +kernel) ?_
  exact hE _ _ _ _ _ dX3_hits_31 (vp_nar_int _) (rfl) (⟨f, bf, ca, bg, sz, hf, hP⟩) hS
set_option maxHeartbeats 4000000 in
set_option maxRecDepth 100000 in
theorem k_X3_decides (l : Launch) {D : va_G} {Y : Nat → ClassId} {A : Nat → Nat} {th mi ju lo : Int32} {f bf ca bg sz : Nat → Int32} {rs : List RV}  (hf : mrep rs f) {i : Nat} (hi : i < rs.length) : MuI l yX3_decides wsX3_decides 5 D Y [.ref (A 0), .int (nI (i))] (wM Y A (th) (nI (rs.length)) (mi) (ju) (lo) f bf ca bg sz) (mdB D Y A (nI 0) (mi) (ju) (lo) (rs)) (nI (dcN rs i)) := by
  refine MuI.start (cc := cX3_decides) (maxL := 2) (rt := .int) (by decide) rfl (Nat.le_of_ble_eq_true rfl) ?_
  intro p e s m args below meth c ls AA H0 H locs Q S hK hP hD hS hl hE
  have S : CallFix p m c cX3_decides 2 s args wsX3_decides RX3 := S
  have hx := S.1
  have hb := S.2.1
  have hts := S.2.2.2.2
  have hl : lv_has ls 2 [(0, .ref (A 0)), (1, .int (nI (i)))] := hl
  have hn := hf.1.1
  refine lv_aload_n hx hb dX3_decides_0 rfl (lv_at hl 0 rfl) ?_
  refine lv_aload_n hx hb dX3_decides_1 rfl (lv_at hl 0 rfl) ?_
  refine lv_iload_n hx hb dX3_decides_2 rfl (lv_at hl 1 rfl) ?_
  refine Rd.callV (r := (nI (1))) (As := [.int (nI (i))]) S (k_isPl1 l hP hn (i := i) (by omega)) (cwV 1 hts gX3_decides_X3_isPlace rfl rfl rfl (by decide +kernel) ⟨Nat.le_of_ble_eq_true rfl, Nat.le_of_ble_eq_true rfl⟩) hK (va_recv hK.1 hP (ci := 3) (q0 := 0) rfl rfl) rfl hl.1 rfl (Nat.le_of_ble_eq_true rfl) dX3_decides_3 ⟨Nat.zero_le _, Nat.zero_le _⟩ ?_
  refine nr_if_eq (tgt := 13) hx hb (by omega) dX3_decides_6 (by decide) (fun c_6 => absurd c_6 (by decide)) (fun c_6 => ?_)
  refine lv_iconst (v := (nI (0))) hx hb dX3_decides_9 (by decide +kernel) ?_
  refine lv_goto (tgt := 14) hx hb dX3_decides_10 (by decide) ?_
  refine MuI.callV (r := (nI (1))) (As := [.int (nI (0))]) S (k_holds0 l) (cwV 1 hts gX3_decides_X3_holds rfl rfl rfl (by decide +kernel) ⟨Nat.le_of_ble_eq_true rfl, Nat.le_of_ble_eq_true rfl⟩) hK hP hD hS (va_recv hK.1 hP (ci := 3) (q0 := 0) rfl rfl) rfl hl.1 rfl (Nat.le_of_ble_eq_true rfl) dX3_decides_14 ⟨Nat.zero_le _, Nat.zero_le _⟩ (fun H locs hB hS _ hkp => ?_)
  have hP : va_P D aCl (wM Y A (nI (0)) (nI (rs.length)) (mi) (ju) (lo) f bf ca bg sz) H := hB
  have hD : va_D AA (wM Y A (nI (0)) (nI (rs.length)) (mi) (ju) (lo) f bf ca bg sz) := va_D.same hD rfl
  refine nr_if_eq (tgt := 28) hx hb (by omega) dX3_decides_17 (by decide) (fun c_17 => absurd c_17 (by decide)) (fun c_17 => ?_)
  refine lv_aload_n hx hb dX3_decides_20 rfl (lv_at hl 0 rfl) ?_
  refine lv_iload_n hx hb dX3_decides_21 rfl (lv_at hl 1 rfl) ?_
  refine Rd.callV (r := (nI (dcN rs (i)))) (As := [.int (nI (i))]) S (k_X3_decided l hP hf (pl := i) (by omega)) (cwV 1 hts gX3_decides_X3_decided rfl rfl rfl (by decide +kernel) ⟨Nat.le_of_ble_eq_true rfl, Nat.le_of_ble_eq_true rfl⟩) hK (va_recv hK.1 hP (ci := 3) (q0 := 0) rfl rfl) rfl hl.1 rfl (Nat.le_of_ble_eq_true rfl) dX3_decides_22 ⟨Nat.zero_le _, Nat.zero_le _⟩ ?_
  refine lv_goto (tgt := 29) hx hb dX3_decides_25 (by decide) ?_
  exact hE _ _ _ _ _ dX3_decides_29 (vp_nar_int _) (rfl) (⟨f, bf, ca, bg, sz, hf, hP⟩) hS
set_option maxHeartbeats 4000000 in
set_option maxRecDepth 100000 in
theorem k_X3_decides_x (l : Launch) {D : va_G} {Y : Nat → ClassId} {A : Nat → Nat} {th mi ju lo : Int32} {f bf ca bg sz : Nat → Int32} {rs : List RV}  (hf : mrep rs f) {pl : Int32} (hpl : plI pl rs.length = false) : MuI l yX3_decides wsX3_decides 5 D Y [.ref (A 0), .int (pl)] (wM Y A (th) (nI (rs.length)) (mi) (ju) (lo) f bf ca bg sz) (mdB D Y A (nI 1) (mi) (ju) (lo) (rs)) (nI 0) := by
  refine MuI.start (cc := cX3_decides) (maxL := 2) (rt := .int) (by decide) rfl (Nat.le_of_ble_eq_true rfl) ?_
  intro p e s m args below meth c ls AA H0 H locs Q S hK hP hD hS hl hE
  have S : CallFix p m c cX3_decides 2 s args wsX3_decides RX3 := S
  have hx := S.1
  have hb := S.2.1
  have hts := S.2.2.2.2
  have hl : lv_has ls 2 [(0, .ref (A 0)), (1, .int (pl))] := hl
  refine lv_aload_n hx hb dX3_decides_0 rfl (lv_at hl 0 rfl) ?_
  refine lv_aload_n hx hb dX3_decides_1 rfl (lv_at hl 0 rfl) ?_
  refine lv_iload_n hx hb dX3_decides_2 rfl (lv_at hl 1 rfl) ?_
  refine Rd.callV (r := (bI (plI (pl) rs.length))) (As := [.int (pl)]) S (k_X3_isPlace l hP (pl := (pl))) (cwV 1 hts gX3_decides_X3_isPlace rfl rfl rfl (by decide +kernel) ⟨Nat.le_of_ble_eq_true rfl, Nat.le_of_ble_eq_true rfl⟩) hK (va_recv hK.1 hP (ci := 3) (q0 := 0) rfl rfl) rfl hl.1 rfl (Nat.le_of_ble_eq_true rfl) dX3_decides_3 ⟨Nat.zero_le _, Nat.zero_le _⟩ ?_
  refine nr_ifB_eq (tgt := 13) hx hb dX3_decides_6 (by decide) (fun c_6 => ?_) (fun c_6 => absurd c_6 (by rw [hpl]; decide))
  refine lv_iconst (v := (nI (1))) hx hb dX3_decides_13 (by decide +kernel) ?_
  refine MuI.callV (r := (nI (0))) (As := [.int (nI (1))]) S (k_holdsN l (by decide)) (cwV 1 hts gX3_decides_X3_holds rfl rfl rfl (by decide +kernel) ⟨Nat.le_of_ble_eq_true rfl, Nat.le_of_ble_eq_true rfl⟩) hK hP hD hS (va_recv hK.1 hP (ci := 3) (q0 := 0) rfl rfl) rfl hl.1 rfl (Nat.le_of_ble_eq_true rfl) dX3_decides_14 ⟨Nat.zero_le _, Nat.zero_le _⟩ (fun H locs hB hS _ hkp => ?_)
  have hP : va_P D aCl (wM Y A (nI (1)) (nI (rs.length)) (mi) (ju) (lo) f bf ca bg sz) H := hB
  have hD : va_D AA (wM Y A (nI (1)) (nI (rs.length)) (mi) (ju) (lo) f bf ca bg sz) := va_D.same hD rfl
  refine nr_if_eq (tgt := 28) hx hb (by omega) dX3_decides_17 (by decide) (fun c_17 => ?_) (fun c_17 => absurd c_17 (by decide))
  refine lv_iconst (v := (nI (0))) hx hb dX3_decides_28 (by decide +kernel) ?_
  exact hE _ _ _ _ _ dX3_decides_29 (vp_nar_int _) (rfl) (⟨f, bf, ca, bg, sz, hf, hP⟩) hS
set_option maxHeartbeats 4000000 in
set_option maxRecDepth 100000 in
theorem k_X3_isShadowed (l : Launch) {D : va_G} {Y : Nat → ClassId} {A : Nat → Nat} {th mi ju lo : Int32} {f bf ca bg sz : Nat → Int32} {rs : List RV}  (hf : mrep rs f) {i : Nat} (hi : i < rs.length) : MuI l yX3_isShadowed wsX3_isShadowed 5 D Y [.ref (A 0), .int (nI (i))] (wM Y A (th) (nI (rs.length)) (mi) (ju) (lo) f bf ca bg sz) (mdB D Y A (nI 0) (mi) (ju) (lo) (rs)) (bI (decide (dcN rs i = 0))) := by
  refine MuI.start (cc := cX3_isShadowed) (maxL := 2) (rt := .boolean) (by decide) rfl (Nat.le_of_ble_eq_true rfl) ?_
  intro p e s m args below meth c ls AA H0 H locs Q S hK hP hD hS hl hE
  have S : CallFix p m c cX3_isShadowed 2 s args wsX3_isShadowed RX3 := S
  have hx := S.1
  have hb := S.2.1
  have hts := S.2.2.2.2
  have hl : lv_has ls 2 [(0, .ref (A 0)), (1, .int (nI (i)))] := hl
  have hn := hf.1.1
  refine lv_aload_n hx hb dX3_isShadowed_0 rfl (lv_at hl 0 rfl) ?_
  refine lv_aload_n hx hb dX3_isShadowed_1 rfl (lv_at hl 0 rfl) ?_
  refine lv_iload_n hx hb dX3_isShadowed_2 rfl (lv_at hl 1 rfl) ?_
  refine Rd.callV (r := (nI (1))) (As := [.int (nI (i))]) S (k_isPl1 l hP hn (i := i) (by omega)) (cwV 1 hts gX3_isShadowed_X3_isPlace rfl rfl rfl (by decide +kernel) ⟨Nat.le_of_ble_eq_true rfl, Nat.le_of_ble_eq_true rfl⟩) hK (va_recv hK.1 hP (ci := 3) (q0 := 0) rfl rfl) rfl hl.1 rfl (Nat.le_of_ble_eq_true rfl) dX3_isShadowed_3 ⟨Nat.zero_le _, Nat.zero_le _⟩ ?_
  refine nr_if_eq (tgt := 13) hx hb (by omega) dX3_isShadowed_6 (by decide) (fun c_6 => absurd c_6 (by decide)) (fun c_6 => ?_)
  refine lv_iconst (v := (nI (0))) hx hb dX3_isShadowed_9 (by decide +kernel) ?_
  refine lv_goto (tgt := 14) hx hb dX3_isShadowed_10 (by decide) ?_
  refine MuI.callV (r := (nI (1))) (As := [.int (nI (0))]) S (k_holds0 l) (cwV 1 hts gX3_isShadowed_X3_holds rfl rfl rfl (by decide +kernel) ⟨Nat.le_of_ble_eq_true rfl, Nat.le_of_ble_eq_true rfl⟩) hK hP hD hS (va_recv hK.1 hP (ci := 3) (q0 := 0) rfl rfl) rfl hl.1 rfl (Nat.le_of_ble_eq_true rfl) dX3_isShadowed_14 ⟨Nat.zero_le _, Nat.zero_le _⟩ (fun H locs hB hS _ hkp => ?_)
  have hP : va_P D aCl (wM Y A (nI (0)) (nI (rs.length)) (mi) (ju) (lo) f bf ca bg sz) H := hB
  have hD : va_D AA (wM Y A (nI (0)) (nI (rs.length)) (mi) (ju) (lo) f bf ca bg sz) := va_D.same hD rfl
  refine nr_if_eq (tgt := 32) hx hb (by omega) dX3_isShadowed_17 (by decide) (fun c_17 => absurd c_17 (by decide)) (fun c_17 => ?_)
  refine lv_aload_n hx hb dX3_isShadowed_20 rfl (lv_at hl 0 rfl) ?_
  refine lv_iload_n hx hb dX3_isShadowed_21 rfl (lv_at hl 1 rfl) ?_
  refine Rd.callV (r := (nI (dcN rs (i)))) (As := [.int (nI (i))]) S (k_X3_decided l hP hf (pl := i) (by omega)) (cwV 1 hts gX3_isShadowed_X3_decided rfl rfl rfl (by decide +kernel) ⟨Nat.le_of_ble_eq_true rfl, Nat.le_of_ble_eq_true rfl⟩) hK (va_recv hK.1 hP (ci := 3) (q0 := 0) rfl rfl) rfl hl.1 rfl (Nat.le_of_ble_eq_true rfl) dX3_isShadowed_22 ⟨Nat.zero_le _, Nat.zero_le _⟩ ?_
  refine nr_if_ne (tgt := 32) hx hb (dcN_lt _ _) dX3_isShadowed_25 (by decide) (fun c_25 => ?_) (fun c_25 => ?_)
  · refine lv_iconst (v := (nI (0))) hx hb dX3_isShadowed_32 (by decide +kernel) ?_
    exact hE _ _ _ _ _ dX3_isShadowed_33 (rfl) (bI_f (decide_eq_false (Nat.ne_of_gt c_25))) (⟨f, bf, ca, bg, sz, hf, hP⟩) hS
  · refine lv_iconst (v := (nI (1))) hx hb dX3_isShadowed_28 (by decide +kernel) ?_
    refine lv_goto (tgt := 33) hx hb dX3_isShadowed_29 (by decide) ?_
    exact hE _ _ _ _ _ dX3_isShadowed_33 (rfl) (bI_t (decide_eq_true c_25)) (⟨f, bf, ca, bg, sz, hf, hP⟩) hS
set_option maxHeartbeats 4000000 in
set_option maxRecDepth 100000 in
theorem k_X3_isShadowed_x (l : Launch) {D : va_G} {Y : Nat → ClassId} {A : Nat → Nat} {th mi ju lo : Int32} {f bf ca bg sz : Nat → Int32} {rs : List RV}  (hf : mrep rs f) {pl : Int32} (hpl : plI pl rs.length = false) : MuI l yX3_isShadowed wsX3_isShadowed 5 D Y [.ref (A 0), .int (pl)] (wM Y A (th) (nI (rs.length)) (mi) (ju) (lo) f bf ca bg sz) (mdB D Y A (nI 1) (mi) (ju) (lo) (rs)) (nI 0) := by
  refine MuI.start (cc := cX3_isShadowed) (maxL := 2) (rt := .boolean) (by decide) rfl (Nat.le_of_ble_eq_true rfl) ?_
  intro p e s m args below meth c ls AA H0 H locs Q S hK hP hD hS hl hE
  have S : CallFix p m c cX3_isShadowed 2 s args wsX3_isShadowed RX3 := S
  have hx := S.1
  have hb := S.2.1
  have hts := S.2.2.2.2
  have hl : lv_has ls 2 [(0, .ref (A 0)), (1, .int (pl))] := hl
  refine lv_aload_n hx hb dX3_isShadowed_0 rfl (lv_at hl 0 rfl) ?_
  refine lv_aload_n hx hb dX3_isShadowed_1 rfl (lv_at hl 0 rfl) ?_
  refine lv_iload_n hx hb dX3_isShadowed_2 rfl (lv_at hl 1 rfl) ?_
  refine Rd.callV (r := (bI (plI (pl) rs.length))) (As := [.int (pl)]) S (k_X3_isPlace l hP (pl := (pl))) (cwV 1 hts gX3_isShadowed_X3_isPlace rfl rfl rfl (by decide +kernel) ⟨Nat.le_of_ble_eq_true rfl, Nat.le_of_ble_eq_true rfl⟩) hK (va_recv hK.1 hP (ci := 3) (q0 := 0) rfl rfl) rfl hl.1 rfl (Nat.le_of_ble_eq_true rfl) dX3_isShadowed_3 ⟨Nat.zero_le _, Nat.zero_le _⟩ ?_
  refine nr_ifB_eq (tgt := 13) hx hb dX3_isShadowed_6 (by decide) (fun c_6 => ?_) (fun c_6 => absurd c_6 (by rw [hpl]; decide))
  refine lv_iconst (v := (nI (1))) hx hb dX3_isShadowed_13 (by decide +kernel) ?_
  refine MuI.callV (r := (nI (0))) (As := [.int (nI (1))]) S (k_holdsN l (by decide)) (cwV 1 hts gX3_isShadowed_X3_holds rfl rfl rfl (by decide +kernel) ⟨Nat.le_of_ble_eq_true rfl, Nat.le_of_ble_eq_true rfl⟩) hK hP hD hS (va_recv hK.1 hP (ci := 3) (q0 := 0) rfl rfl) rfl hl.1 rfl (Nat.le_of_ble_eq_true rfl) dX3_isShadowed_14 ⟨Nat.zero_le _, Nat.zero_le _⟩ (fun H locs hB hS _ hkp => ?_)
  have hP : va_P D aCl (wM Y A (nI (1)) (nI (rs.length)) (mi) (ju) (lo) f bf ca bg sz) H := hB
  have hD : va_D AA (wM Y A (nI (1)) (nI (rs.length)) (mi) (ju) (lo) f bf ca bg sz) := va_D.same hD rfl
  refine nr_if_eq (tgt := 32) hx hb (by omega) dX3_isShadowed_17 (by decide) (fun c_17 => ?_) (fun c_17 => absurd c_17 (by decide))
  refine lv_iconst (v := (nI (0))) hx hb dX3_isShadowed_32 (by decide +kernel) ?_
  exact hE _ _ _ _ _ dX3_isShadowed_33 (rfl) (rfl) (⟨f, bf, ca, bg, sz, hf, hP⟩) hS
set_option maxHeartbeats 4000000 in
set_option maxRecDepth 100000 in
theorem k_X3_isRedundant (l : Launch) {D : va_G} {Y : Nat → ClassId} {A : Nat → Nat} {th mi ju lo : Int32} {f bf ca bg sz : Nat → Int32} {rs : List RV}  (hf : mrep rs f) {i : Nat} (hi : i < rs.length) : MuI l yX3_isRedundant wsX3_isRedundant 6 D Y [.ref (A 0), .int (nI (i))] (wM Y A (th) (nI (rs.length)) (mi) (ju) (lo) f bf ca bg sz) (mdB D Y A (nI 0) (mi) (ju) (lo) (rs)) (bI (ndB rs i)) := by
  refine MuI.start (cc := cX3_isRedundant) (maxL := 2) (rt := .boolean) (by decide) rfl (Nat.le_of_ble_eq_true rfl) ?_
  intro p e s m args below meth c ls AA H0 H locs Q S hK hP hD hS hl hE
  have S : CallFix p m c cX3_isRedundant 2 s args wsX3_isRedundant RX3 := S
  have hx := S.1
  have hb := S.2.1
  have hts := S.2.2.2.2
  have hl : lv_has ls 2 [(0, .ref (A 0)), (1, .int (nI (i)))] := hl
  have hn := hf.1.1
  refine lv_aload_n hx hb dX3_isRedundant_0 rfl (lv_at hl 0 rfl) ?_
  refine lv_aload_n hx hb dX3_isRedundant_1 rfl (lv_at hl 0 rfl) ?_
  refine lv_iload_n hx hb dX3_isRedundant_2 rfl (lv_at hl 1 rfl) ?_
  refine Rd.callV (r := (nI (1))) (As := [.int (nI (i))]) S (k_isPl1 l hP hn (i := i) (by omega)) (cwV 1 hts gX3_isRedundant_X3_isPlace rfl rfl rfl (by decide +kernel) ⟨Nat.le_of_ble_eq_true rfl, Nat.le_of_ble_eq_true rfl⟩) hK (va_recv hK.1 hP (ci := 3) (q0 := 0) rfl rfl) rfl hl.1 rfl (Nat.le_of_ble_eq_true rfl) dX3_isRedundant_3 ⟨Nat.zero_le _, Nat.zero_le _⟩ ?_
  refine nr_if_eq (tgt := 13) hx hb (by omega) dX3_isRedundant_6 (by decide) (fun c_6 => absurd c_6 (by decide)) (fun c_6 => ?_)
  refine lv_iconst (v := (nI (0))) hx hb dX3_isRedundant_9 (by decide +kernel) ?_
  refine lv_goto (tgt := 14) hx hb dX3_isRedundant_10 (by decide) ?_
  refine MuI.callV (r := (nI (1))) (As := [.int (nI (0))]) S (k_holds0 l) (cwV 1 hts gX3_isRedundant_X3_holds rfl rfl rfl (by decide +kernel) ⟨Nat.le_of_ble_eq_true rfl, Nat.le_of_ble_eq_true rfl⟩) hK hP hD hS (va_recv hK.1 hP (ci := 3) (q0 := 0) rfl rfl) rfl hl.1 rfl (Nat.le_of_ble_eq_true rfl) dX3_isRedundant_14 ⟨Nat.zero_le _, Nat.zero_le _⟩ (fun H locs hB hS _ hkp => ?_)
  have hP : va_P D aCl (wM Y A (nI (0)) (nI (rs.length)) (mi) (ju) (lo) f bf ca bg sz) H := hB
  have hD : va_D AA (wM Y A (nI (0)) (nI (rs.length)) (mi) (ju) (lo) f bf ca bg sz) := va_D.same hD rfl
  refine nr_if_eq (tgt := 32) hx hb (by omega) dX3_isRedundant_17 (by decide) (fun c_17 => absurd c_17 (by decide)) (fun c_17 => ?_)
  refine lv_aload_n hx hb dX3_isRedundant_20 rfl (lv_at hl 0 rfl) ?_
  refine lv_iload_n hx hb dX3_isRedundant_21 rfl (lv_at hl 1 rfl) ?_
  refine Rd.callV (r := (bI (ndB rs (i)))) (As := [.int (nI (i))]) S (k_X3_isNeedless l hP hf (pl := i) (by omega)) (cwV 1 hts gX3_isRedundant_X3_isNeedless rfl rfl rfl (by decide +kernel) ⟨Nat.le_of_ble_eq_true rfl, Nat.le_of_ble_eq_true rfl⟩) hK (va_recv hK.1 hP (ci := 3) (q0 := 0) rfl rfl) rfl hl.1 rfl (Nat.le_of_ble_eq_true rfl) dX3_isRedundant_22 ⟨Nat.zero_le _, Nat.zero_le _⟩ ?_
  refine nr_ifB_eq (tgt := 32) hx hb dX3_isRedundant_25 (by decide) (fun c_25 => ?_) (fun c_25 => ?_)
  · refine lv_iconst (v := (nI (0))) hx hb dX3_isRedundant_32 (by decide +kernel) ?_
    exact hE _ _ _ _ _ dX3_isRedundant_33 (rfl) (bI_f c_25) (⟨f, bf, ca, bg, sz, hf, hP⟩) hS
  · refine lv_iconst (v := (nI (1))) hx hb dX3_isRedundant_28 (by decide +kernel) ?_
    refine lv_goto (tgt := 33) hx hb dX3_isRedundant_29 (by decide) ?_
    exact hE _ _ _ _ _ dX3_isRedundant_33 (rfl) (bI_t c_25) (⟨f, bf, ca, bg, sz, hf, hP⟩) hS
set_option maxHeartbeats 4000000 in
set_option maxRecDepth 100000 in
theorem k_X3_isRedundant_x (l : Launch) {D : va_G} {Y : Nat → ClassId} {A : Nat → Nat} {th mi ju lo : Int32} {f bf ca bg sz : Nat → Int32} {rs : List RV}  (hf : mrep rs f) {pl : Int32} (hpl : plI pl rs.length = false) : MuI l yX3_isRedundant wsX3_isRedundant 6 D Y [.ref (A 0), .int (pl)] (wM Y A (th) (nI (rs.length)) (mi) (ju) (lo) f bf ca bg sz) (mdB D Y A (nI 1) (mi) (ju) (lo) (rs)) (nI 0) := by
  refine MuI.start (cc := cX3_isRedundant) (maxL := 2) (rt := .boolean) (by decide) rfl (Nat.le_of_ble_eq_true rfl) ?_
  intro p e s m args below meth c ls AA H0 H locs Q S hK hP hD hS hl hE
  have S : CallFix p m c cX3_isRedundant 2 s args wsX3_isRedundant RX3 := S
  have hx := S.1
  have hb := S.2.1
  have hts := S.2.2.2.2
  have hl : lv_has ls 2 [(0, .ref (A 0)), (1, .int (pl))] := hl
  refine lv_aload_n hx hb dX3_isRedundant_0 rfl (lv_at hl 0 rfl) ?_
  refine lv_aload_n hx hb dX3_isRedundant_1 rfl (lv_at hl 0 rfl) ?_
  refine lv_iload_n hx hb dX3_isRedundant_2 rfl (lv_at hl 1 rfl) ?_
  refine Rd.callV (r := (bI (plI (pl) rs.length))) (As := [.int (pl)]) S (k_X3_isPlace l hP (pl := (pl))) (cwV 1 hts gX3_isRedundant_X3_isPlace rfl rfl rfl (by decide +kernel) ⟨Nat.le_of_ble_eq_true rfl, Nat.le_of_ble_eq_true rfl⟩) hK (va_recv hK.1 hP (ci := 3) (q0 := 0) rfl rfl) rfl hl.1 rfl (Nat.le_of_ble_eq_true rfl) dX3_isRedundant_3 ⟨Nat.zero_le _, Nat.zero_le _⟩ ?_
  refine nr_ifB_eq (tgt := 13) hx hb dX3_isRedundant_6 (by decide) (fun c_6 => ?_) (fun c_6 => absurd c_6 (by rw [hpl]; decide))
  refine lv_iconst (v := (nI (1))) hx hb dX3_isRedundant_13 (by decide +kernel) ?_
  refine MuI.callV (r := (nI (0))) (As := [.int (nI (1))]) S (k_holdsN l (by decide)) (cwV 1 hts gX3_isRedundant_X3_holds rfl rfl rfl (by decide +kernel) ⟨Nat.le_of_ble_eq_true rfl, Nat.le_of_ble_eq_true rfl⟩) hK hP hD hS (va_recv hK.1 hP (ci := 3) (q0 := 0) rfl rfl) rfl hl.1 rfl (Nat.le_of_ble_eq_true rfl) dX3_isRedundant_14 ⟨Nat.zero_le _, Nat.zero_le _⟩ (fun H locs hB hS _ hkp => ?_)
  have hP : va_P D aCl (wM Y A (nI (1)) (nI (rs.length)) (mi) (ju) (lo) f bf ca bg sz) H := hB
  have hD : va_D AA (wM Y A (nI (1)) (nI (rs.length)) (mi) (ju) (lo) f bf ca bg sz) := va_D.same hD rfl
  refine nr_if_eq (tgt := 32) hx hb (by omega) dX3_isRedundant_17 (by decide) (fun c_17 => ?_) (fun c_17 => absurd c_17 (by decide))
  refine lv_iconst (v := (nI (0))) hx hb dX3_isRedundant_32 (by decide +kernel) ?_
  exact hE _ _ _ _ _ dX3_isRedundant_33 (rfl) (rfl) (⟨f, bf, ca, bg, sz, hf, hP⟩) hS
set_option maxHeartbeats 4000000 in
set_option maxRecDepth 100000 in
theorem k_X3_overlap (l : Launch) {D : va_G} {Y : Nat → ClassId} {A : Nat → Nat} {th mi ju lo : Int32} {f bf ca bg sz : Nat → Int32} {rs : List RV}  (hf : mrep rs f) {i j : Nat} (hi : i < rs.length) (hj : j < rs.length) : MuI l yX3_overlap wsX3_overlap 5 D Y [.ref (A 0), .int (nI (i)), .int (nI (j))] (wM Y A (th) (nI (rs.length)) (mi) (ju) (lo) f bf ca bg sz) (mdB D Y A (nI 0) (mi) (ju) (lo) (rs)) (nI (cmN (gt rs i) (gt rs j))) := by
  refine MuI.start (cc := cX3_overlap) (maxL := 3) (rt := .int) (by decide) rfl (Nat.le_of_ble_eq_true rfl) ?_
  intro p e s m args below meth c ls AA H0 H locs Q S hK hP hD hS hl hE
  have S : CallFix p m c cX3_overlap 3 s args wsX3_overlap RX3 := S
  have hx := S.1
  have hb := S.2.1
  have hts := S.2.2.2.2
  have hl : lv_has ls 3 [(0, .ref (A 0)), (1, .int (nI (i))), (2, .int (nI (j)))] := hl
  have hn := hf.1.1
  refine lv_aload_n hx hb dX3_overlap_0 rfl (lv_at hl 0 rfl) ?_
  refine lv_aload_n hx hb dX3_overlap_1 rfl (lv_at hl 0 rfl) ?_
  refine lv_iload_n hx hb dX3_overlap_2 rfl (lv_at hl 1 rfl) ?_
  refine Rd.callV (r := (nI (1))) (As := [.int (nI (i))]) S (k_isPl1 l hP hn (i := i) (by omega)) (cwV 1 hts gX3_overlap_X3_isPlace rfl rfl rfl (by decide +kernel) ⟨Nat.le_of_ble_eq_true rfl, Nat.le_of_ble_eq_true rfl⟩) hK (va_recv hK.1 hP (ci := 3) (q0 := 0) rfl rfl) rfl hl.1 rfl (Nat.le_of_ble_eq_true rfl) dX3_overlap_3 ⟨Nat.zero_le _, Nat.zero_le _⟩ ?_
  refine nr_if_eq (tgt := 21) hx hb (by omega) dX3_overlap_6 (by decide) (fun c_6 => absurd c_6 (by decide)) (fun c_6 => ?_)
  refine lv_aload_n hx hb dX3_overlap_9 rfl (lv_at hl 0 rfl) ?_
  refine lv_iload_n hx hb dX3_overlap_10 rfl (lv_at hl 2 rfl) ?_
  refine Rd.callV (r := (nI (1))) (As := [.int (nI (j))]) S (k_isPl1 l hP hn (i := j) (by omega)) (cwV 1 hts gX3_overlap_X3_isPlace rfl rfl rfl (by decide +kernel) ⟨Nat.le_of_ble_eq_true rfl, Nat.le_of_ble_eq_true rfl⟩) hK (va_recv hK.1 hP (ci := 3) (q0 := 0) rfl rfl) rfl hl.1 rfl (Nat.le_of_ble_eq_true rfl) dX3_overlap_11 ⟨Nat.zero_le _, Nat.zero_le _⟩ ?_
  refine nr_if_eq (tgt := 21) hx hb (by omega) dX3_overlap_14 (by decide) (fun c_14 => absurd c_14 (by decide)) (fun c_14 => ?_)
  refine lv_iconst (v := (nI (0))) hx hb dX3_overlap_17 (by decide +kernel) ?_
  refine lv_goto (tgt := 22) hx hb dX3_overlap_18 (by decide) ?_
  refine MuI.callV (r := (nI (1))) (As := [.int (nI (0))]) S (k_holds0 l) (cwV 1 hts gX3_overlap_X3_holds rfl rfl rfl (by decide +kernel) ⟨Nat.le_of_ble_eq_true rfl, Nat.le_of_ble_eq_true rfl⟩) hK hP hD hS (va_recv hK.1 hP (ci := 3) (q0 := 0) rfl rfl) rfl hl.1 rfl (Nat.le_of_ble_eq_true rfl) dX3_overlap_22 ⟨Nat.zero_le _, Nat.zero_le _⟩ (fun H locs hB hS _ hkp => ?_)
  have hP : va_P D aCl (wM Y A (nI (0)) (nI (rs.length)) (mi) (ju) (lo) f bf ca bg sz) H := hB
  have hD : va_D AA (wM Y A (nI (0)) (nI (rs.length)) (mi) (ju) (lo) f bf ca bg sz) := va_D.same hD rfl
  refine nr_if_eq (tgt := 37) hx hb (by omega) dX3_overlap_25 (by decide) (fun c_25 => absurd c_25 (by decide)) (fun c_25 => ?_)
  refine lv_aload_n hx hb dX3_overlap_28 rfl (lv_at hl 0 rfl) ?_
  refine lv_iload_n hx hb dX3_overlap_29 rfl (lv_at hl 1 rfl) ?_
  refine lv_iload_n hx hb dX3_overlap_30 rfl (lv_at hl 2 rfl) ?_
  refine Rd.callV (r := (nI (cmN (gt rs (i)) (gt rs (j))))) (As := [.int (nI (i)), .int (nI (j))]) S (k_X3_common l hP hf (i := i) (j := j) (by omega) (by omega)) (cwV 2 hts gX3_overlap_X3_common rfl rfl rfl (by decide +kernel) ⟨Nat.le_of_ble_eq_true rfl, Nat.le_of_ble_eq_true rfl⟩) hK (va_recv hK.1 hP (ci := 3) (q0 := 0) rfl rfl) rfl hl.1 rfl (Nat.le_of_ble_eq_true rfl) dX3_overlap_31 ⟨Nat.zero_le _, Nat.zero_le _⟩ ?_
  refine lv_goto (tgt := 38) hx hb dX3_overlap_34 (by decide) ?_
  exact hE _ _ _ _ _ dX3_overlap_38 (vp_nar_int _) (rfl) (⟨f, bf, ca, bg, sz, hf, hP⟩) hS
set_option maxHeartbeats 4000000 in
set_option maxRecDepth 100000 in
theorem k_X3_overlap_x (l : Launch) {D : va_G} {Y : Nat → ClassId} {A : Nat → Nat} {th mi ju lo : Int32} {f bf ca bg sz : Nat → Int32} {rs : List RV}  (hf : mrep rs f) {pl p2 : Int32} (hpl : (plI pl rs.length && plI p2 rs.length) = false) : MuI l yX3_overlap wsX3_overlap 5 D Y [.ref (A 0), .int (pl), .int (p2)] (wM Y A (th) (nI (rs.length)) (mi) (ju) (lo) f bf ca bg sz) (mdB D Y A (nI 1) (mi) (ju) (lo) (rs)) (nI 0) := by
  refine MuI.start (cc := cX3_overlap) (maxL := 3) (rt := .int) (by decide) rfl (Nat.le_of_ble_eq_true rfl) ?_
  intro p e s m args below meth c ls AA H0 H locs Q S hK hP hD hS hl hE
  have S : CallFix p m c cX3_overlap 3 s args wsX3_overlap RX3 := S
  have hx := S.1
  have hb := S.2.1
  have hts := S.2.2.2.2
  have hl : lv_has ls 3 [(0, .ref (A 0)), (1, .int (pl)), (2, .int (p2))] := hl
  refine lv_aload_n hx hb dX3_overlap_0 rfl (lv_at hl 0 rfl) ?_
  refine lv_aload_n hx hb dX3_overlap_1 rfl (lv_at hl 0 rfl) ?_
  refine lv_iload_n hx hb dX3_overlap_2 rfl (lv_at hl 1 rfl) ?_
  refine Rd.callV (r := (bI (plI (pl) rs.length))) (As := [.int (pl)]) S (k_X3_isPlace l hP (pl := (pl))) (cwV 1 hts gX3_overlap_X3_isPlace rfl rfl rfl (by decide +kernel) ⟨Nat.le_of_ble_eq_true rfl, Nat.le_of_ble_eq_true rfl⟩) hK (va_recv hK.1 hP (ci := 3) (q0 := 0) rfl rfl) rfl hl.1 rfl (Nat.le_of_ble_eq_true rfl) dX3_overlap_3 ⟨Nat.zero_le _, Nat.zero_le _⟩ ?_
  refine nr_ifB_eq (tgt := 21) hx hb dX3_overlap_6 (by decide) (fun c_6 => ?_) (fun c_6 => ?_)
  · refine lv_iconst (v := (nI (1))) hx hb dX3_overlap_21 (by decide +kernel) ?_
    refine MuI.callV (r := (nI (0))) (As := [.int (nI (1))]) S (k_holdsN l (by decide)) (cwV 1 hts gX3_overlap_X3_holds rfl rfl rfl (by decide +kernel) ⟨Nat.le_of_ble_eq_true rfl, Nat.le_of_ble_eq_true rfl⟩) hK hP hD hS (va_recv hK.1 hP (ci := 3) (q0 := 0) rfl rfl) rfl hl.1 rfl (Nat.le_of_ble_eq_true rfl) dX3_overlap_22 ⟨Nat.zero_le _, Nat.zero_le _⟩ (fun H locs hB hS _ hkp => ?_)
    have hP : va_P D aCl (wM Y A (nI (1)) (nI (rs.length)) (mi) (ju) (lo) f bf ca bg sz) H := hB
    have hD : va_D AA (wM Y A (nI (1)) (nI (rs.length)) (mi) (ju) (lo) f bf ca bg sz) := va_D.same hD rfl
    refine nr_if_eq (tgt := 37) hx hb (by omega) dX3_overlap_25 (by decide) (fun c_25 => ?_) (fun c_25 => absurd c_25 (by decide))
    refine lv_iconst (v := (nI (0))) hx hb dX3_overlap_37 (by decide +kernel) ?_
    exact hE _ _ _ _ _ dX3_overlap_38 (vp_nar_int _) (rfl) (⟨f, bf, ca, bg, sz, hf, hP⟩) hS
  · refine lv_aload_n hx hb dX3_overlap_9 rfl (lv_at hl 0 rfl) ?_
    refine lv_iload_n hx hb dX3_overlap_10 rfl (lv_at hl 2 rfl) ?_
    refine Rd.callV (r := (bI (plI (p2) rs.length))) (As := [.int (p2)]) S (k_X3_isPlace l hP (pl := (p2))) (cwV 1 hts gX3_overlap_X3_isPlace rfl rfl rfl (by decide +kernel) ⟨Nat.le_of_ble_eq_true rfl, Nat.le_of_ble_eq_true rfl⟩) hK (va_recv hK.1 hP (ci := 3) (q0 := 0) rfl rfl) rfl hl.1 rfl (Nat.le_of_ble_eq_true rfl) dX3_overlap_11 ⟨Nat.zero_le _, Nat.zero_le _⟩ ?_
    refine nr_ifB_eq (tgt := 21) hx hb dX3_overlap_14 (by decide) (fun c_14 => ?_) (fun c_14 => absurd c_14 (by rw [c_6, Bool.true_and] at hpl; rw [hpl]; decide))
    refine lv_iconst (v := (nI (1))) hx hb dX3_overlap_21 (by decide +kernel) ?_
    refine MuI.callV (r := (nI (0))) (As := [.int (nI (1))]) S (k_holdsN l (by decide)) (cwV 1 hts gX3_overlap_X3_holds rfl rfl rfl (by decide +kernel) ⟨Nat.le_of_ble_eq_true rfl, Nat.le_of_ble_eq_true rfl⟩) hK hP hD hS (va_recv hK.1 hP (ci := 3) (q0 := 0) rfl rfl) rfl hl.1 rfl (Nat.le_of_ble_eq_true rfl) dX3_overlap_22 ⟨Nat.zero_le _, Nat.zero_le _⟩ (fun H locs hB hS _ hkp => ?_)
    have hP : va_P D aCl (wM Y A (nI (1)) (nI (rs.length)) (mi) (ju) (lo) f bf ca bg sz) H := hB
    have hD : va_D AA (wM Y A (nI (1)) (nI (rs.length)) (mi) (ju) (lo) f bf ca bg sz) := va_D.same hD rfl
    refine nr_if_eq (tgt := 37) hx hb (by omega) dX3_overlap_25 (by decide) (fun c_25 => ?_) (fun c_25 => absurd c_25 (by decide))
    refine lv_iconst (v := (nI (0))) hx hb dX3_overlap_37 (by decide +kernel) ?_
    exact hE _ _ _ _ _ dX3_overlap_38 (vp_nar_int _) (rfl) (⟨f, bf, ca, bg, sz, hf, hP⟩) hS
set_option maxHeartbeats 4000000 in
set_option maxRecDepth 100000 in
theorem k_X3_shadowedBy (l : Launch) {D : va_G} {Y : Nat → ClassId} {A : Nat → Nat} {th mi ju lo : Int32} {f bf ca bg sz : Nat → Int32} {rs : List RV}  (hf : mrep rs f) {i : Nat} (hi : i < rs.length) : MuI l yX3_shadowedBy wsX3_shadowedBy 5 D Y [.ref (A 0), .int (nI (i))] (wM Y A (th) (nI (rs.length)) (mi) (ju) (lo) f bf ca bg sz) (mdB D Y A (nI (if sbN rs i = i then 2 else 0)) (mi) (ju) (lo) (rs)) (nI (if sbN rs i = i then 0 else sbN rs i)) := by
  refine MuI.start (cc := cX3_shadowedBy) (maxL := 3) (rt := .int) (by decide) rfl (Nat.le_of_ble_eq_true rfl) ?_
  intro p e s m args below meth c ls AA H0 H locs Q S hK hP hD hS hl hE
  have S : CallFix p m c cX3_shadowedBy 3 s args wsX3_shadowedBy RX3 := S
  have hx := S.1
  have hb := S.2.1
  have hts := S.2.2.2.2
  have hl : lv_has ls 3 [(0, .ref (A 0)), (1, .int (nI (i)))] := hl
  have hn := hf.1.1
  refine lv_aload_n hx hb dX3_shadowedBy_0 rfl (lv_at hl 0 rfl) ?_
  refine lv_aload_n hx hb dX3_shadowedBy_1 rfl (lv_at hl 0 rfl) ?_
  refine lv_iload_n hx hb dX3_shadowedBy_2 rfl (lv_at hl 1 rfl) ?_
  refine Rd.callV (r := (nI (1))) (As := [.int (nI (i))]) S (k_isPl1 l hP hn (i := i) (by omega)) (cwV 1 hts gX3_shadowedBy_X3_isPlace rfl rfl rfl (by decide +kernel) ⟨Nat.le_of_ble_eq_true rfl, Nat.le_of_ble_eq_true rfl⟩) hK (va_recv hK.1 hP (ci := 3) (q0 := 0) rfl rfl) rfl hl.1 rfl (Nat.le_of_ble_eq_true rfl) dX3_shadowedBy_3 ⟨Nat.zero_le _, Nat.zero_le _⟩ ?_
  refine nr_if_eq (tgt := 13) hx hb (by omega) dX3_shadowedBy_6 (by decide) (fun c_6 => absurd c_6 (by decide)) (fun c_6 => ?_)
  refine lv_iconst (v := (nI (0))) hx hb dX3_shadowedBy_9 (by decide +kernel) ?_
  refine lv_goto (tgt := 14) hx hb dX3_shadowedBy_10 (by decide) ?_
  refine MuI.callV (r := (nI (1))) (As := [.int (nI (0))]) S (k_holds0 l) (cwV 1 hts gX3_shadowedBy_X3_holds rfl rfl rfl (by decide +kernel) ⟨Nat.le_of_ble_eq_true rfl, Nat.le_of_ble_eq_true rfl⟩) hK hP hD hS (va_recv hK.1 hP (ci := 3) (q0 := 0) rfl rfl) rfl hl.1 rfl (Nat.le_of_ble_eq_true rfl) dX3_shadowedBy_14 ⟨Nat.zero_le _, Nat.zero_le _⟩ (fun H locs hB hS _ hkp => ?_)
  have hP : va_P D aCl (wM Y A (nI (0)) (nI (rs.length)) (mi) (ju) (lo) f bf ca bg sz) H := hB
  have hD : va_D AA (wM Y A (nI (0)) (nI (rs.length)) (mi) (ju) (lo) f bf ca bg sz) := va_D.same hD rfl
  refine nr_if_ne (tgt := 22) hx hb (by omega) dX3_shadowedBy_17 (by decide) (fun c_17 => ?_) (fun c_17 => absurd c_17 (by decide))
  refine lv_iconst (v := (nI (0))) hx hb dX3_shadowedBy_22 (by decide +kernel) ?_
  refine lv_istore_n (lv' := [(2, .int (nI (0))), (0, .ref (A 0)), (1, .int (nI (i)))]) hx hb dX3_shadowedBy_23 rfl hl (by decide) rfl (fun ls hl => ?_)
  have loop_24 : ∀ (fu_24 : Nat) (q : Nat), (q ≤ i) → (∀ k, k < q → decide (cmN (gt rs i) (gt rs i) ≤ cmN (gt rs k) (gt rs i)) = false) → i - q < fu_24 → ∀ (H : Heap) (locs : List Loc), va_P D aCl (wM Y A (nI (0)) (nI (rs.length)) (mi) (ju) (lo) f bf ca bg sz) H → va_S AA H0 H locs → ∀ ls : Array Slot, lv_has ls 3 [(2, .int (nI (q))), (0, .ref (A 0)), (1, .int (nI (i)))] → W p l e (rmN 5) s m args below meth c H locs 0 0 Q (F0 m 24 ls []) := by
    intro fu_24
    induction fu_24 with
    | zero => exact fun q _ _ hk => absurd hk (Nat.not_lt_zero _)
    | succ fu_24 ih_24 =>
      intro q h1 h2 hk_24 H locs hP hS ls hl
      have hD : va_D AA (wM Y A (nI (0)) (nI (rs.length)) (mi) (ju) (lo) f bf ca bg sz) := va_D.same hD rfl
      refine lv_iload_n hx hb dX3_shadowedBy_24 rfl (lv_at hl 0 rfl) ?_
      refine lv_iload_n hx hb dX3_shadowedBy_25 rfl (lv_at hl 2 rfl) ?_
      refine nr_icmp_ge (tgt := 50) hx hb (by omega) (by omega) dX3_shadowedBy_26 (by decide) (fun c_26 => ?_) (fun c_26 => ?_)
      · have sbq : sbN rs i = q := by first | exact fstN_eq h2 i h1 (Or.inl (Nat.le_antisymm h1 c_26)) | exact fstN_eq h2 i h1 (Or.inr (decide_eq_true c_41))
        refine lv_aload_n hx hb dX3_shadowedBy_50 rfl (lv_at hl 1 rfl) ?_
        refine lv_iload_n hx hb dX3_shadowedBy_51 rfl (lv_at hl 0 rfl) ?_
        refine lv_iload_n hx hb dX3_shadowedBy_52 rfl (lv_at hl 2 rfl) ?_
        refine nr_icmp_ne (tgt := 60) hx hb (by omega) (by omega) dX3_shadowedBy_53 (by decide) (fun c_53 => ?_) (fun c_53 => ?_)
        · refine lv_iconst (v := (nI (0))) hx hb dX3_shadowedBy_60 (by decide +kernel) ?_
          refine MuI.callV (r := (nI (1))) (As := [.int (nI (0))]) S (k_holds0 l) (cwV 1 hts gX3_shadowedBy_X3_holds rfl rfl rfl (by decide +kernel) ⟨Nat.le_of_ble_eq_true rfl, Nat.le_of_ble_eq_true rfl⟩) hK hP hD hS (va_recv hK.1 hP (ci := 3) (q0 := 0) rfl rfl) rfl hl.1 rfl (Nat.le_of_ble_eq_true rfl) dX3_shadowedBy_61 ⟨Nat.zero_le _, Nat.zero_le _⟩ (fun H locs hB hS _ hkp => ?_)
          have hP : va_P D aCl (wM Y A (nI (0)) (nI (rs.length)) (mi) (ju) (lo) f bf ca bg sz) H := hB
          have hD : va_D AA (wM Y A (nI (0)) (nI (rs.length)) (mi) (ju) (lo) f bf ca bg sz) := va_D.same hD rfl
          refine nr_if_eq (tgt := 71) hx hb (by omega) dX3_shadowedBy_64 (by decide) (fun c_64 => absurd c_64 (by decide)) (fun c_64 => ?_)
          refine lv_iload_n hx hb dX3_shadowedBy_67 rfl (lv_at hl 0 rfl) ?_
          refine lv_goto (tgt := 72) hx hb dX3_shadowedBy_68 (by decide) ?_
          exact hE _ _ _ _ _ dX3_shadowedBy_72 (vp_nar_int _) (((congrArg nI (if_neg (fun z => c_53 (sbq.symm.trans z)))).trans (congrArg nI sbq)).symm) (⟨f, bf, ca, bg, sz, hf, by rw [show (nI (if sbN rs i = i then 2 else 0)) = nI 0 from congrArg nI (if_neg (fun z => c_53 (sbq.symm.trans z)))]; exact hP⟩) hS
        · refine lv_iconst (v := (nI (2))) hx hb dX3_shadowedBy_56 (by decide +kernel) ?_
          refine lv_goto (tgt := 61) hx hb dX3_shadowedBy_57 (by decide) ?_
          refine MuI.callV (r := (nI (0))) (As := [.int (nI (2))]) S (k_holdsN l (by decide)) (cwV 1 hts gX3_shadowedBy_X3_holds rfl rfl rfl (by decide +kernel) ⟨Nat.le_of_ble_eq_true rfl, Nat.le_of_ble_eq_true rfl⟩) hK hP hD hS (va_recv hK.1 hP (ci := 3) (q0 := 0) rfl rfl) rfl hl.1 rfl (Nat.le_of_ble_eq_true rfl) dX3_shadowedBy_61 ⟨Nat.zero_le _, Nat.zero_le _⟩ (fun H locs hB hS _ hkp => ?_)
          have hP : va_P D aCl (wM Y A (nI (2)) (nI (rs.length)) (mi) (ju) (lo) f bf ca bg sz) H := hB
          have hD : va_D AA (wM Y A (nI (2)) (nI (rs.length)) (mi) (ju) (lo) f bf ca bg sz) := va_D.same hD rfl
          refine nr_if_eq (tgt := 71) hx hb (by omega) dX3_shadowedBy_64 (by decide) (fun c_64 => ?_) (fun c_64 => absurd c_64 (by decide))
          refine lv_iconst (v := (nI (0))) hx hb dX3_shadowedBy_71 (by decide +kernel) ?_
          exact hE _ _ _ _ _ dX3_shadowedBy_72 (vp_nar_int _) ((congrArg nI (if_pos (sbq.trans c_53))).symm) (⟨f, bf, ca, bg, sz, hf, by rw [show (nI (if sbN rs i = i then 2 else 0)) = nI 2 from congrArg nI (if_pos (sbq.trans c_53))]; exact hP⟩) hS
      · refine lv_aload_n hx hb dX3_shadowedBy_29 rfl (lv_at hl 1 rfl) ?_
        refine lv_iload_n hx hb dX3_shadowedBy_30 rfl (lv_at hl 0 rfl) ?_
        refine lv_iload_n hx hb dX3_shadowedBy_31 rfl (lv_at hl 2 rfl) ?_
        refine Rd.callV (r := (nI (cmN (gt rs (q)) (gt rs (i))))) (As := [.int (nI (q)), .int (nI (i))]) S (k_X3_common l hP hf (i := q) (j := i) (by omega) (by omega)) (cwV 2 hts gX3_shadowedBy_X3_common rfl rfl rfl (by decide +kernel) ⟨Nat.le_of_ble_eq_true rfl, Nat.le_of_ble_eq_true rfl⟩) hK (va_recv hK.1 hP (ci := 3) (q0 := 0) rfl rfl) rfl hl.1 rfl (Nat.le_of_ble_eq_true rfl) dX3_shadowedBy_32 ⟨Nat.zero_le _, Nat.zero_le _⟩ ?_
        refine lv_aload_n hx hb dX3_shadowedBy_35 rfl (lv_at hl 1 rfl) ?_
        refine lv_iload_n hx hb dX3_shadowedBy_36 rfl (lv_at hl 2 rfl) ?_
        refine lv_iload_n hx hb dX3_shadowedBy_37 rfl (lv_at hl 2 rfl) ?_
        refine Rd.callV (r := (nI (cmN (gt rs (i)) (gt rs (i))))) (As := [.int (nI (i)), .int (nI (i))]) S (k_X3_common l hP hf (i := i) (j := i) (by omega) (by omega)) (cwV 2 hts gX3_shadowedBy_X3_common rfl rfl rfl (by decide +kernel) ⟨Nat.le_of_ble_eq_true rfl, Nat.le_of_ble_eq_true rfl⟩) hK (va_recv hK.1 hP (ci := 3) (q0 := 0) rfl rfl) rfl hl.1 rfl (Nat.le_of_ble_eq_true rfl) dX3_shadowedBy_38 ⟨Nat.zero_le _, Nat.zero_le _⟩ ?_
        refine nr_icmp_ge (tgt := 50) hx hb (cmN_lt _ _) (cmN_lt _ _) dX3_shadowedBy_41 (by decide) (fun c_41 => ?_) (fun c_41 => ?_)
        · have sbq : sbN rs i = q := by first | exact fstN_eq h2 i h1 (Or.inl (Nat.le_antisymm h1 c_26)) | exact fstN_eq h2 i h1 (Or.inr (decide_eq_true c_41))
          refine lv_aload_n hx hb dX3_shadowedBy_50 rfl (lv_at hl 1 rfl) ?_
          refine lv_iload_n hx hb dX3_shadowedBy_51 rfl (lv_at hl 0 rfl) ?_
          refine lv_iload_n hx hb dX3_shadowedBy_52 rfl (lv_at hl 2 rfl) ?_
          refine nr_icmp_ne (tgt := 60) hx hb (by omega) (by omega) dX3_shadowedBy_53 (by decide) (fun c_53 => ?_) (fun c_53 => ?_)
          · refine lv_iconst (v := (nI (0))) hx hb dX3_shadowedBy_60 (by decide +kernel) ?_
            refine MuI.callV (r := (nI (1))) (As := [.int (nI (0))]) S (k_holds0 l) (cwV 1 hts gX3_shadowedBy_X3_holds rfl rfl rfl (by decide +kernel) ⟨Nat.le_of_ble_eq_true rfl, Nat.le_of_ble_eq_true rfl⟩) hK hP hD hS (va_recv hK.1 hP (ci := 3) (q0 := 0) rfl rfl) rfl hl.1 rfl (Nat.le_of_ble_eq_true rfl) dX3_shadowedBy_61 ⟨Nat.zero_le _, Nat.zero_le _⟩ (fun H locs hB hS _ hkp => ?_)
            have hP : va_P D aCl (wM Y A (nI (0)) (nI (rs.length)) (mi) (ju) (lo) f bf ca bg sz) H := hB
            have hD : va_D AA (wM Y A (nI (0)) (nI (rs.length)) (mi) (ju) (lo) f bf ca bg sz) := va_D.same hD rfl
            refine nr_if_eq (tgt := 71) hx hb (by omega) dX3_shadowedBy_64 (by decide) (fun c_64 => absurd c_64 (by decide)) (fun c_64 => ?_)
            refine lv_iload_n hx hb dX3_shadowedBy_67 rfl (lv_at hl 0 rfl) ?_
            refine lv_goto (tgt := 72) hx hb dX3_shadowedBy_68 (by decide) ?_
            exact hE _ _ _ _ _ dX3_shadowedBy_72 (vp_nar_int _) (((congrArg nI (if_neg (fun z => c_53 (sbq.symm.trans z)))).trans (congrArg nI sbq)).symm) (⟨f, bf, ca, bg, sz, hf, by rw [show (nI (if sbN rs i = i then 2 else 0)) = nI 0 from congrArg nI (if_neg (fun z => c_53 (sbq.symm.trans z)))]; exact hP⟩) hS
          · refine lv_iconst (v := (nI (2))) hx hb dX3_shadowedBy_56 (by decide +kernel) ?_
            refine lv_goto (tgt := 61) hx hb dX3_shadowedBy_57 (by decide) ?_
            refine MuI.callV (r := (nI (0))) (As := [.int (nI (2))]) S (k_holdsN l (by decide)) (cwV 1 hts gX3_shadowedBy_X3_holds rfl rfl rfl (by decide +kernel) ⟨Nat.le_of_ble_eq_true rfl, Nat.le_of_ble_eq_true rfl⟩) hK hP hD hS (va_recv hK.1 hP (ci := 3) (q0 := 0) rfl rfl) rfl hl.1 rfl (Nat.le_of_ble_eq_true rfl) dX3_shadowedBy_61 ⟨Nat.zero_le _, Nat.zero_le _⟩ (fun H locs hB hS _ hkp => ?_)
            have hP : va_P D aCl (wM Y A (nI (2)) (nI (rs.length)) (mi) (ju) (lo) f bf ca bg sz) H := hB
            have hD : va_D AA (wM Y A (nI (2)) (nI (rs.length)) (mi) (ju) (lo) f bf ca bg sz) := va_D.same hD rfl
            refine nr_if_eq (tgt := 71) hx hb (by omega) dX3_shadowedBy_64 (by decide) (fun c_64 => ?_) (fun c_64 => absurd c_64 (by decide))
            refine lv_iconst (v := (nI (0))) hx hb dX3_shadowedBy_71 (by decide +kernel) ?_
            exact hE _ _ _ _ _ dX3_shadowedBy_72 (vp_nar_int _) ((congrArg nI (if_pos (sbq.trans c_53))).symm) (⟨f, bf, ca, bg, sz, hf, by rw [show (nI (if sbN rs i = i then 2 else 0)) = nI 2 from congrArg nI (if_pos (sbq.trans c_53))]; exact hP⟩) hS
        · refine lv_iinc (v := (nI (q + 1))) (lv' := [(2, .int (nI (q + 1))), (0, .ref (A 0)), (1, .int (nI (i)))]) hx hb dX3_shadowedBy_44 hl (k := 0) rfl (nI_add _ _) (by decide) rfl (fun ls hl => ?_)
          refine lv_goto (tgt := 24) hx hb dX3_shadowedBy_47 (by decide) ?_
          exact ih_24 (q + 1) (by omega) (lt_s h2 (decide_eq_false (Nat.not_le.mpr c_41))) (by omega) _ _ hP hS ls (lv_sub hl [0, 1, 2] rfl)
  exact loop_24 _ (0) (Nat.zero_le _) (fun _ hj => absurd hj (Nat.not_lt_zero _)) (Nat.lt_succ_self _) _ _ hP hS ls (lv_sub hl [0, 1, 2] rfl)
set_option maxHeartbeats 4000000 in
set_option maxRecDepth 100000 in
theorem k_X3_shadowedBy_x (l : Launch) {D : va_G} {Y : Nat → ClassId} {A : Nat → Nat} {th mi ju lo : Int32} {f bf ca bg sz : Nat → Int32} {rs : List RV}  (hf : mrep rs f) {pl : Int32} (hpl : plI pl rs.length = false) : MuI l yX3_shadowedBy wsX3_shadowedBy 5 D Y [.ref (A 0), .int (pl)] (wM Y A (th) (nI (rs.length)) (mi) (ju) (lo) f bf ca bg sz) (mdB D Y A (nI 1) (mi) (ju) (lo) (rs)) (nI 0) := by
  refine MuI.start (cc := cX3_shadowedBy) (maxL := 3) (rt := .int) (by decide) rfl (Nat.le_of_ble_eq_true rfl) ?_
  intro p e s m args below meth c ls AA H0 H locs Q S hK hP hD hS hl hE
  have S : CallFix p m c cX3_shadowedBy 3 s args wsX3_shadowedBy RX3 := S
  have hx := S.1
  have hb := S.2.1
  have hts := S.2.2.2.2
  have hl : lv_has ls 3 [(0, .ref (A 0)), (1, .int (pl))] := hl
  refine lv_aload_n hx hb dX3_shadowedBy_0 rfl (lv_at hl 0 rfl) ?_
  refine lv_aload_n hx hb dX3_shadowedBy_1 rfl (lv_at hl 0 rfl) ?_
  refine lv_iload_n hx hb dX3_shadowedBy_2 rfl (lv_at hl 1 rfl) ?_
  refine Rd.callV (r := (bI (plI (pl) rs.length))) (As := [.int (pl)]) S (k_X3_isPlace l hP (pl := (pl))) (cwV 1 hts gX3_shadowedBy_X3_isPlace rfl rfl rfl (by decide +kernel) ⟨Nat.le_of_ble_eq_true rfl, Nat.le_of_ble_eq_true rfl⟩) hK (va_recv hK.1 hP (ci := 3) (q0 := 0) rfl rfl) rfl hl.1 rfl (Nat.le_of_ble_eq_true rfl) dX3_shadowedBy_3 ⟨Nat.zero_le _, Nat.zero_le _⟩ ?_
  refine nr_ifB_eq (tgt := 13) hx hb dX3_shadowedBy_6 (by decide) (fun c_6 => ?_) (fun c_6 => absurd c_6 (by rw [hpl]; decide))
  refine lv_iconst (v := (nI (1))) hx hb dX3_shadowedBy_13 (by decide +kernel) ?_
  refine MuI.callV (r := (nI (0))) (As := [.int (nI (1))]) S (k_holdsN l (by decide)) (cwV 1 hts gX3_shadowedBy_X3_holds rfl rfl rfl (by decide +kernel) ⟨Nat.le_of_ble_eq_true rfl, Nat.le_of_ble_eq_true rfl⟩) hK hP hD hS (va_recv hK.1 hP (ci := 3) (q0 := 0) rfl rfl) rfl hl.1 rfl (Nat.le_of_ble_eq_true rfl) dX3_shadowedBy_14 ⟨Nat.zero_le _, Nat.zero_le _⟩ (fun H locs hB hS _ hkp => ?_)
  have hP : va_P D aCl (wM Y A (nI (1)) (nI (rs.length)) (mi) (ju) (lo) f bf ca bg sz) H := hB
  have hD : va_D AA (wM Y A (nI (1)) (nI (rs.length)) (mi) (ju) (lo) f bf ca bg sz) := va_D.same hD rfl
  refine nr_if_ne (tgt := 22) hx hb (by omega) dX3_shadowedBy_17 (by decide) (fun c_17 => absurd c_17 (by decide)) (fun c_17 => ?_)
  refine lv_iconst (v := (nI (0))) hx hb dX3_shadowedBy_20 (by decide +kernel) ?_
  exact hE _ _ _ _ _ dX3_shadowedBy_21 (vp_nar_int _) (rfl) (⟨f, bf, ca, bg, sz, hf, hP⟩) hS
theorem k_inM1 (l : Launch) {D : va_G} {Y : Nat → ClassId} {H : Heap} {i n : Nat} (hi : i + 1 < n) (hn : n ≤ 16) : Rd l yX3_in wsX3_in 0 D Y [.int (nI i), .int (nI 0), .int (nI n - nI 2)] H (nI 1) := by
  have h := k_X3_in l (D := D) (Y := Y) (H := H) (nI i) (nI 0) (nI n - nI 2)
  rw [pk_sub (show 2 ≤ n by omega), inI_nI (by omega) (by decide) (by omega), inN_t (Nat.zero_le _) (by omega)] at h
  rw [pk_sub (show 2 ≤ n by omega)]
  exact h
set_option maxHeartbeats 4000000 in
set_option maxRecDepth 100000 in
theorem k_X3_canMerge (l : Launch) {D : va_G} {Y : Nat → ClassId} {A : Nat → Nat} {th mi ju lo : Int32} {f bf ca bg sz : Nat → Int32} {rs : List RV}  (hf : mrep rs f) {i : Nat} (hi : i + 1 < rs.length) : MuI l yX3_canMerge wsX3_canMerge 4 D Y [.ref (A 0), .int (nI (i))] (wM Y A (th) (nI (rs.length)) (mi) (ju) (lo) f bf ca bg sz) (mdB D Y A (nI 0) (mi) (ju) (lo) (rs)) (bI (mgB (gt rs i) (gt rs (i + 1)))) := by
  refine MuI.start (cc := cX3_canMerge) (maxL := 2) (rt := .boolean) (by decide) rfl (Nat.le_of_ble_eq_true rfl) ?_
  intro p e s m args below meth c ls AA H0 H locs Q S hK hP hD hS hl hE
  have S : CallFix p m c cX3_canMerge 2 s args wsX3_canMerge RX3 := S
  have hx := S.1
  have hb := S.2.1
  have hts := S.2.2.2.2
  have hl : lv_has ls 2 [(0, .ref (A 0)), (1, .int (nI (i)))] := hl
  have hn := hf.1.1
  refine lv_aload_n hx hb dX3_canMerge_0 rfl (lv_at hl 0 rfl) ?_
  refine lv_iload_n hx hb dX3_canMerge_1 rfl (lv_at hl 1 rfl) ?_
  refine lv_iconst (v := (nI (0))) hx hb dX3_canMerge_2 (by decide +kernel) ?_
  refine lv_aload_n hx hb dX3_canMerge_3 rfl (lv_at hl 0 rfl) ?_
  refine nr_get (C := RX3) (T := TX3) (N := 10) (ci := 3) S (fun _ h => List.mem_cons_of_mem _ (List.mem_append_right _ (h))) hK hP 0 rfl rfl 1 (by decide) (List.mem_of_getElem? (i := 1) rfl) rfl dX3_canMerge_4 ?_
  refine lv_iconst (v := (nI (2))) hx hb dX3_canMerge_7 (by decide +kernel) ?_
  refine lv_isub hx hb dX3_canMerge_8 ?_
  refine Rd.callS (r := (nI (1))) (As := [.int (nI (i)), .int (nI (0)), .int (((nI (rs.length)) - (nI (2))))]) S (k_inM1 l (i := i) (n := rs.length) hi (by omega)) (va_cwS 3 hts gX3_canMerge_X3_in rfl rfl rfl (by decide +kernel) ⟨Nat.le_of_ble_eq_true rfl, Nat.le_of_ble_eq_true rfl⟩) hK rfl hl.1 rfl (Nat.le_of_ble_eq_true rfl) dX3_canMerge_9 ⟨Nat.zero_le _, Nat.zero_le _⟩ ?_
  refine nr_if_eq (tgt := 19) hx hb (by omega) dX3_canMerge_12 (by decide) (fun c_12 => absurd c_12 (by decide)) (fun c_12 => ?_)
  refine lv_iconst (v := (nI (0))) hx hb dX3_canMerge_15 (by decide +kernel) ?_
  refine lv_goto (tgt := 20) hx hb dX3_canMerge_16 (by decide) ?_
  refine MuI.callV (r := (nI (1))) (As := [.int (nI (0))]) S (k_holds0 l) (cwV 1 hts gX3_canMerge_X3_holds rfl rfl rfl (by decide +kernel) ⟨Nat.le_of_ble_eq_true rfl, Nat.le_of_ble_eq_true rfl⟩) hK hP hD hS (va_recv hK.1 hP (ci := 3) (q0 := 0) rfl rfl) rfl hl.1 rfl (Nat.le_of_ble_eq_true rfl) dX3_canMerge_20 ⟨Nat.zero_le _, Nat.zero_le _⟩ (fun H locs hB hS _ hkp => ?_)
  have hP : va_P D aCl (wM Y A (nI (0)) (nI (rs.length)) (mi) (ju) (lo) f bf ca bg sz) H := hB
  have hD : va_D AA (wM Y A (nI (0)) (nI (rs.length)) (mi) (ju) (lo) f bf ca bg sz) := va_D.same hD rfl
  refine nr_if_eq (tgt := 38) hx hb (by omega) dX3_canMerge_23 (by decide) (fun c_23 => absurd c_23 (by decide)) (fun c_23 => ?_)
  refine lv_aload_n hx hb dX3_canMerge_26 rfl (lv_at hl 0 rfl) ?_
  refine lv_iload_n hx hb dX3_canMerge_27 rfl (lv_at hl 1 rfl) ?_
  refine Rd.callV (r := (bI (mgB (gt rs (i)) (gt rs (i + 1))))) (As := [.int (nI (i))]) S (k_X3_isMergeable l hP hf (i := i) (by omega)) (cwV 1 hts gX3_canMerge_X3_isMergeable rfl rfl rfl (by decide +kernel) ⟨Nat.le_of_ble_eq_true rfl, Nat.le_of_ble_eq_true rfl⟩) hK (va_recv hK.1 hP (ci := 3) (q0 := 0) rfl rfl) rfl hl.1 rfl (Nat.le_of_ble_eq_true rfl) dX3_canMerge_28 ⟨Nat.zero_le _, Nat.zero_le _⟩ ?_
  refine nr_ifB_eq (tgt := 38) hx hb dX3_canMerge_31 (by decide) (fun c_31 => ?_) (fun c_31 => ?_)
  · refine lv_iconst (v := (nI (0))) hx hb dX3_canMerge_38 (by decide +kernel) ?_
    exact hE _ _ _ _ _ dX3_canMerge_39 (rfl) (bI_f c_31) (⟨f, bf, ca, bg, sz, hf, hP⟩) hS
  · refine lv_iconst (v := (nI (1))) hx hb dX3_canMerge_34 (by decide +kernel) ?_
    refine lv_goto (tgt := 39) hx hb dX3_canMerge_35 (by decide) ?_
    exact hE _ _ _ _ _ dX3_canMerge_39 (rfl) (bI_t c_31) (⟨f, bf, ca, bg, sz, hf, hP⟩) hS
set_option maxHeartbeats 4000000 in
set_option maxRecDepth 100000 in
theorem k_X3_canMerge_x (l : Launch) {D : va_G} {Y : Nat → ClassId} {A : Nat → Nat} {th mi ju lo : Int32} {f bf ca bg sz : Nat → Int32} {rs : List RV}  (hf : mrep rs f) {pl : Int32} (hpl : inI pl (nI 0) (nI rs.length - nI 2) = false) : MuI l yX3_canMerge wsX3_canMerge 4 D Y [.ref (A 0), .int (pl)] (wM Y A (th) (nI (rs.length)) (mi) (ju) (lo) f bf ca bg sz) (mdB D Y A (nI 1) (mi) (ju) (lo) (rs)) (nI 0) := by
  refine MuI.start (cc := cX3_canMerge) (maxL := 2) (rt := .boolean) (by decide) rfl (Nat.le_of_ble_eq_true rfl) ?_
  intro p e s m args below meth c ls AA H0 H locs Q S hK hP hD hS hl hE
  have S : CallFix p m c cX3_canMerge 2 s args wsX3_canMerge RX3 := S
  have hx := S.1
  have hb := S.2.1
  have hts := S.2.2.2.2
  have hl : lv_has ls 2 [(0, .ref (A 0)), (1, .int (pl))] := hl
  refine lv_aload_n hx hb dX3_canMerge_0 rfl (lv_at hl 0 rfl) ?_
  refine lv_iload_n hx hb dX3_canMerge_1 rfl (lv_at hl 1 rfl) ?_
  refine lv_iconst (v := (nI (0))) hx hb dX3_canMerge_2 (by decide +kernel) ?_
  refine lv_aload_n hx hb dX3_canMerge_3 rfl (lv_at hl 0 rfl) ?_
  refine nr_get (C := RX3) (T := TX3) (N := 10) (ci := 3) S (fun _ h => List.mem_cons_of_mem _ (List.mem_append_right _ (h))) hK hP 0 rfl rfl 1 (by decide) (List.mem_of_getElem? (i := 1) rfl) rfl dX3_canMerge_4 ?_
  refine lv_iconst (v := (nI (2))) hx hb dX3_canMerge_7 (by decide +kernel) ?_
  refine lv_isub hx hb dX3_canMerge_8 ?_
  refine Rd.callS (r := (bI (inI (pl) (nI (0)) (((nI (rs.length)) - (nI (2))))))) (As := [.int (pl), .int (nI (0)), .int (((nI (rs.length)) - (nI (2))))]) S (k_X3_in l (pl) (nI (0)) (((nI (rs.length)) - (nI (2))))) (va_cwS 3 hts gX3_canMerge_X3_in rfl rfl rfl (by decide +kernel) ⟨Nat.le_of_ble_eq_true rfl, Nat.le_of_ble_eq_true rfl⟩) hK rfl hl.1 rfl (Nat.le_of_ble_eq_true rfl) dX3_canMerge_9 ⟨Nat.zero_le _, Nat.zero_le _⟩ ?_
  refine nr_ifB_eq (tgt := 19) hx hb dX3_canMerge_12 (by decide) (fun c_12 => ?_) (fun c_12 => absurd c_12 (by rw [hpl]; decide))
  refine lv_iconst (v := (nI (1))) hx hb dX3_canMerge_19 (by decide +kernel) ?_
  refine MuI.callV (r := (nI (0))) (As := [.int (nI (1))]) S (k_holdsN l (by decide)) (cwV 1 hts gX3_canMerge_X3_holds rfl rfl rfl (by decide +kernel) ⟨Nat.le_of_ble_eq_true rfl, Nat.le_of_ble_eq_true rfl⟩) hK hP hD hS (va_recv hK.1 hP (ci := 3) (q0 := 0) rfl rfl) rfl hl.1 rfl (Nat.le_of_ble_eq_true rfl) dX3_canMerge_20 ⟨Nat.zero_le _, Nat.zero_le _⟩ (fun H locs hB hS _ hkp => ?_)
  have hP : va_P D aCl (wM Y A (nI (1)) (nI (rs.length)) (mi) (ju) (lo) f bf ca bg sz) H := hB
  have hD : va_D AA (wM Y A (nI (1)) (nI (rs.length)) (mi) (ju) (lo) f bf ca bg sz) := va_D.same hD rfl
  refine nr_if_eq (tgt := 38) hx hb (by omega) dX3_canMerge_23 (by decide) (fun c_23 => ?_) (fun c_23 => absurd c_23 (by decide))
  refine lv_iconst (v := (nI (0))) hx hb dX3_canMerge_38 (by decide +kernel) ?_
  exact hE _ _ _ _ _ dX3_canMerge_39 (rfl) (rfl) (⟨f, bf, ca, bg, sz, hf, hP⟩) hS
theorem fstN_le (P : Nat → Bool) : ∀ n, fstN P n ≤ n
  | 0 => Nat.le_refl 0
  | n + 1 => by
    have h := fstN_le P n
    rw [fstN]
    by_cases h1 : fstN P n < n
    · rw [if_pos h1]; omega
    · rw [if_neg h1]
      cases P n with
      | true => exact Nat.le_succ n
      | false => exact Nat.le_refl _
theorem fmN_le (rs : List RV) (s d p : Nat) : fmN rs s d p ≤ rs.length := fstN_le _ _
set_option maxHeartbeats 4000000 in
set_option maxRecDepth 100000 in
theorem k_X3_decider (l : Launch) {D : va_G} {Y : Nat → ClassId} {A : Nat → Nat} {th mi ju lo : Int32} {f bf ca bg sz : Nat → Int32} {rs : List RV}  (hf : mrep rs f) {s0 d0 p0 : Nat} (hs : s0 < 32) (hd : d0 < 32) (hp : p0 < 4) : MuI l yX3_decider wsX3_decider 5 D Y [.ref (A 0), .int (nI (s0)), .int (nI (d0)), .int (nI (p0))] (wM Y A (th) (nI (rs.length)) (mi) (ju) (lo) f bf ca bg sz) (mdB D Y A (nI (if fmN rs s0 d0 p0 = rs.length then 2 else 0)) (mi) (ju) (lo) (rs)) (nI (if fmN rs s0 d0 p0 = rs.length then 0 else fmN rs s0 d0 p0)) := by
  refine MuI.start (cc := cX3_decider) (maxL := 6) (rt := .int) (by decide) rfl (Nat.le_of_ble_eq_true rfl) ?_
  intro p e s m args below meth c ls AA H0 H locs Q S hK hP hD hS hl hE
  have S : CallFix p m c cX3_decider 6 s args wsX3_decider RX3 := S
  have hx := S.1
  have hb := S.2.1
  have hts := S.2.2.2.2
  have hl : lv_has ls 6 [(0, .ref (A 0)), (1, .int (nI (s0))), (2, .int (nI (d0))), (3, .int (nI (p0)))] := hl
  have hn := hf.1.1
  refine lv_iload_n hx hb dX3_decider_0 rfl (lv_at hl 1 rfl) ?_
  refine lv_iload_n hx hb dX3_decider_1 rfl (lv_at hl 2 rfl) ?_
  refine lv_iload_n hx hb dX3_decider_2 rfl (lv_at hl 3 rfl) ?_
  refine Rd.callS (r := (nI (1))) (As := [.int (nI (s0)), .int (nI (d0)), .int (nI (p0))]) S (k_isPk1 l (s0 := s0) (d0 := d0) (p0 := p0) (by omega) (by omega) (by omega)) (va_cwS 3 hts gX3_decider_X3_isPacket rfl rfl rfl (by decide +kernel) ⟨Nat.le_of_ble_eq_true rfl, Nat.le_of_ble_eq_true rfl⟩) hK rfl hl.1 rfl (Nat.le_of_ble_eq_true rfl) dX3_decider_3 ⟨Nat.zero_le _, Nat.zero_le _⟩ ?_
  refine lv_istore (lv' := [(4, .int (nI (1))), (0, .ref (A 0)), (1, .int (nI (s0))), (2, .int (nI (d0))), (3, .int (nI (p0)))]) hx hb dX3_decider_6 hl (by decide) rfl (fun ls hl => ?_)
  refine lv_iload hx hb dX3_decider_8 (lv_at hl 0 rfl) ?_
  refine nr_if_eq (tgt := 23) hx hb (by omega) dX3_decider_10 (by decide) (fun c_10 => absurd c_10 (by decide)) (fun c_10 => ?_)
  refine lv_aload_n hx hb dX3_decider_13 rfl (lv_at hl 1 rfl) ?_
  refine lv_iload_n hx hb dX3_decider_14 rfl (lv_at hl 2 rfl) ?_
  refine lv_iload_n hx hb dX3_decider_15 rfl (lv_at hl 3 rfl) ?_
  refine lv_iload_n hx hb dX3_decider_16 rfl (lv_at hl 4 rfl) ?_
  refine Rd.callV (r := (nI (fmN rs (s0) (d0) (p0)))) (As := [.int (nI (s0)), .int (nI (d0)), .int (nI (p0))]) S (k_X3_first l hP hf (s0 := s0) (d0 := d0) (p0 := p0) (by omega) (by omega) (by omega)) (cwV 3 hts gX3_decider_X3_first rfl rfl rfl (by decide +kernel) ⟨Nat.le_of_ble_eq_true rfl, Nat.le_of_ble_eq_true rfl⟩) hK (va_recv hK.1 hP (ci := 3) (q0 := 0) rfl rfl) rfl hl.1 rfl (Nat.le_of_ble_eq_true rfl) dX3_decider_17 ⟨Nat.zero_le _, Nat.zero_le _⟩ ?_
  refine lv_goto (tgt := 24) hx hb dX3_decider_20 (by decide) ?_
  refine lv_istore (lv' := [(5, .int (nI (fmN rs (s0) (d0) (p0)))), (4, .int (nI (1))), (0, .ref (A 0)), (1, .int (nI (s0))), (2, .int (nI (d0))), (3, .int (nI (p0)))]) hx hb dX3_decider_24 hl (by decide) rfl (fun ls hl => ?_)
  refine lv_aload_n hx hb dX3_decider_26 rfl (lv_at hl 2 rfl) ?_
  refine lv_iload hx hb dX3_decider_27 (lv_at hl 1 rfl) ?_
  refine nr_if_ne (tgt := 36) hx hb (by omega) dX3_decider_29 (by decide) (fun c_29 => ?_) (fun c_29 => absurd c_29 (by decide))
  refine lv_iload hx hb dX3_decider_36 (lv_at hl 0 rfl) ?_
  refine lv_aload_n hx hb dX3_decider_38 rfl (lv_at hl 2 rfl) ?_
  refine nr_get (C := RX3) (T := TX3) (N := 10) (ci := 3) S (fun _ h => List.mem_cons_of_mem _ (List.mem_append_right _ (h))) hK hP 0 rfl rfl 1 (by decide) (List.mem_of_getElem? (i := 1) rfl) rfl dX3_decider_39 ?_
  refine nr_icmp_ne (tgt := 49) hx hb (Nat.lt_of_le_of_lt (fmN_le _ _ _ _) (by omega)) (by omega) dX3_decider_42 (by decide) (fun c_42 => ?_) (fun c_42 => ?_)
  · refine lv_iconst (v := (nI (0))) hx hb dX3_decider_49 (by decide +kernel) ?_
    refine MuI.callV (r := (nI (1))) (As := [.int (nI (0))]) S (k_holds0 l) (cwV 1 hts gX3_decider_X3_holds rfl rfl rfl (by decide +kernel) ⟨Nat.le_of_ble_eq_true rfl, Nat.le_of_ble_eq_true rfl⟩) hK hP hD hS (va_recv hK.1 hP (ci := 3) (q0 := 0) rfl rfl) rfl hl.1 rfl (Nat.le_of_ble_eq_true rfl) dX3_decider_50 ⟨Nat.zero_le _, Nat.zero_le _⟩ (fun H locs hB hS _ hkp => ?_)
    have hP : va_P D aCl (wM Y A (nI (0)) (nI (rs.length)) (mi) (ju) (lo) f bf ca bg sz) H := hB
    have hD : va_D AA (wM Y A (nI (0)) (nI (rs.length)) (mi) (ju) (lo) f bf ca bg sz) := va_D.same hD rfl
    refine nr_if_eq (tgt := 61) hx hb (by omega) dX3_decider_53 (by decide) (fun c_53 => absurd c_53 (by decide)) (fun c_53 => ?_)
    refine lv_iload hx hb dX3_decider_56 (lv_at hl 0 rfl) ?_
    refine lv_goto (tgt := 62) hx hb dX3_decider_58 (by decide) ?_
    exact hE _ _ _ _ _ dX3_decider_62 (vp_nar_int _) ((congrArg nI (if_neg c_42)).symm) (⟨f, bf, ca, bg, sz, hf, by rw [show (nI (if fmN rs s0 d0 p0 = rs.length then 2 else 0)) = nI 0 from congrArg nI (if_neg c_42)]; exact hP⟩) hS
  · refine lv_iconst (v := (nI (2))) hx hb dX3_decider_45 (by decide +kernel) ?_
    refine lv_goto (tgt := 50) hx hb dX3_decider_46 (by decide) ?_
    refine MuI.callV (r := (nI (0))) (As := [.int (nI (2))]) S (k_holdsN l (by decide)) (cwV 1 hts gX3_decider_X3_holds rfl rfl rfl (by decide +kernel) ⟨Nat.le_of_ble_eq_true rfl, Nat.le_of_ble_eq_true rfl⟩) hK hP hD hS (va_recv hK.1 hP (ci := 3) (q0 := 0) rfl rfl) rfl hl.1 rfl (Nat.le_of_ble_eq_true rfl) dX3_decider_50 ⟨Nat.zero_le _, Nat.zero_le _⟩ (fun H locs hB hS _ hkp => ?_)
    have hP : va_P D aCl (wM Y A (nI (2)) (nI (rs.length)) (mi) (ju) (lo) f bf ca bg sz) H := hB
    have hD : va_D AA (wM Y A (nI (2)) (nI (rs.length)) (mi) (ju) (lo) f bf ca bg sz) := va_D.same hD rfl
    refine nr_if_eq (tgt := 61) hx hb (by omega) dX3_decider_53 (by decide) (fun c_53 => ?_) (fun c_53 => absurd c_53 (by decide))
    refine lv_iconst (v := (nI (0))) hx hb dX3_decider_61 (by decide +kernel) ?_
    exact hE _ _ _ _ _ dX3_decider_62 (vp_nar_int _) ((congrArg nI (if_pos c_42)).symm) (⟨f, bf, ca, bg, sz, hf, by rw [show (nI (if fmN rs s0 d0 p0 = rs.length then 2 else 0)) = nI 2 from congrArg nI (if_pos c_42)]; exact hP⟩) hS
set_option maxHeartbeats 4000000 in
set_option maxRecDepth 100000 in
theorem k_X3_decider_x (l : Launch) {D : va_G} {Y : Nat → ClassId} {A : Nat → Nat} {th mi ju lo : Int32} {f bf ca bg sz : Nat → Int32} {rs : List RV}  (hf : mrep rs f) {a b c0 : Int32} (hpk : pkB a b c0 = false) : MuI l yX3_decider wsX3_decider 5 D Y [.ref (A 0), .int (a), .int (b), .int (c0)] (wM Y A (th) (nI (rs.length)) (mi) (ju) (lo) f bf ca bg sz) (mdB D Y A (nI 1) (mi) (ju) (lo) (rs)) (nI 0) := by
  refine MuI.start (cc := cX3_decider) (maxL := 6) (rt := .int) (by decide) rfl (Nat.le_of_ble_eq_true rfl) ?_
  intro p e s m args below meth c ls AA H0 H locs Q S hK hP hD hS hl hE
  have S : CallFix p m c cX3_decider 6 s args wsX3_decider RX3 := S
  have hx := S.1
  have hb := S.2.1
  have hts := S.2.2.2.2
  have hl : lv_has ls 6 [(0, .ref (A 0)), (1, .int (a)), (2, .int (b)), (3, .int (c0))] := hl
  refine lv_iload_n hx hb dX3_decider_0 rfl (lv_at hl 1 rfl) ?_
  refine lv_iload_n hx hb dX3_decider_1 rfl (lv_at hl 2 rfl) ?_
  refine lv_iload_n hx hb dX3_decider_2 rfl (lv_at hl 3 rfl) ?_
  refine Rd.callS (r := (bI (pkB (a) (b) (c0)))) (As := [.int (a), .int (b), .int (c0)]) S (k_X3_isPacket l (a) (b) (c0)) (va_cwS 3 hts gX3_decider_X3_isPacket rfl rfl rfl (by decide +kernel) ⟨Nat.le_of_ble_eq_true rfl, Nat.le_of_ble_eq_true rfl⟩) hK rfl hl.1 rfl (Nat.le_of_ble_eq_true rfl) dX3_decider_3 ⟨Nat.zero_le _, Nat.zero_le _⟩ ?_
  refine lv_istore (lv' := [(4, .int (bI (pkB (a) (b) (c0)))), (0, .ref (A 0)), (1, .int (a)), (2, .int (b)), (3, .int (c0))]) hx hb dX3_decider_6 hl (by decide) rfl (fun ls hl => ?_)
  refine lv_iload hx hb dX3_decider_8 (lv_at hl 0 rfl) ?_
  refine nr_ifB_eq (tgt := 23) hx hb dX3_decider_10 (by decide) (fun c_10 => ?_) (fun c_10 => absurd c_10 (by rw [hpk]; decide))
  refine lv_iconst (v := (nI (0))) hx hb dX3_decider_23 (by decide +kernel) ?_
  refine lv_istore (lv' := [(5, .int (nI (0))), (4, .int (bI (pkB (a) (b) (c0)))), (0, .ref (A 0)), (1, .int (a)), (2, .int (b)), (3, .int (c0))]) hx hb dX3_decider_24 hl (by decide) rfl (fun ls hl => ?_)
  refine lv_aload_n hx hb dX3_decider_26 rfl (lv_at hl 2 rfl) ?_
  refine lv_iload hx hb dX3_decider_27 (lv_at hl 1 rfl) ?_
  refine nr_ifB_ne (tgt := 36) hx hb dX3_decider_29 (by decide) (fun c_29 => absurd c_29 (by rw [hpk]; decide)) (fun c_29 => ?_)
  refine lv_iconst (v := (nI (1))) hx hb dX3_decider_32 (by decide +kernel) ?_
  refine lv_goto (tgt := 50) hx hb dX3_decider_33 (by decide) ?_
  refine MuI.callV (r := (nI (0))) (As := [.int (nI (1))]) S (k_holdsN l (by decide)) (cwV 1 hts gX3_decider_X3_holds rfl rfl rfl (by decide +kernel) ⟨Nat.le_of_ble_eq_true rfl, Nat.le_of_ble_eq_true rfl⟩) hK hP hD hS (va_recv hK.1 hP (ci := 3) (q0 := 0) rfl rfl) rfl hl.1 rfl (Nat.le_of_ble_eq_true rfl) dX3_decider_50 ⟨Nat.zero_le _, Nat.zero_le _⟩ (fun H locs hB hS _ hkp => ?_)
  have hP : va_P D aCl (wM Y A (nI (1)) (nI (rs.length)) (mi) (ju) (lo) f bf ca bg sz) H := hB
  have hD : va_D AA (wM Y A (nI (1)) (nI (rs.length)) (mi) (ju) (lo) f bf ca bg sz) := va_D.same hD rfl
  refine nr_if_eq (tgt := 61) hx hb (by omega) dX3_decider_53 (by decide) (fun c_53 => ?_) (fun c_53 => absurd c_53 (by decide))
  refine lv_iconst (v := (nI (0))) hx hb dX3_decider_61 (by decide +kernel) ?_
  exact hE _ _ _ _ _ dX3_decider_62 (vp_nar_int _) (rfl) (⟨f, bf, ca, bg, sz, hf, hP⟩) hS
set_option maxHeartbeats 4000000 in
set_option maxRecDepth 100000 in
theorem k_X3_judge_x (l : Launch) {D : va_G} {Y : Nat → ClassId} {A : Nat → Nat} {th mi ju lo : Int32} {f bf ca bg sz : Nat → Int32} {rs : List RV}  (hf : mrep rs f) {a b c0 : Int32} (hpk : pkB a b c0 = false) : MuI l yX3_judge wsX3_judge 5 D Y [.ref (A 0), .int (a), .int (b), .int (c0)] (wM Y A (th) (nI (rs.length)) (mi) (ju) (lo) f bf ca bg sz) (mdB D Y A (nI 1) (mi) (ju) (lo) (rs)) (nI 0) := by
  refine MuI.start (cc := cX3_judge) (maxL := 5) (rt := .boolean) (by decide) rfl (Nat.le_of_ble_eq_true rfl) ?_
  intro p e s m args below meth c ls AA H0 H locs Q S hK hP hD hS hl hE
  have S : CallFix p m c cX3_judge 5 s args wsX3_judge RX3 := S
  have hx := S.1
  have hb := S.2.1
  have hts := S.2.2.2.2
  have hl : lv_has ls 5 [(0, .ref (A 0)), (1, .int (a)), (2, .int (b)), (3, .int (c0))] := hl
  refine lv_aload_n hx hb dX3_judge_0 rfl (lv_at hl 0 rfl) ?_
  refine lv_iload_n hx hb dX3_judge_1 rfl (lv_at hl 1 rfl) ?_
  refine lv_iload_n hx hb dX3_judge_2 rfl (lv_at hl 2 rfl) ?_
  refine lv_iload_n hx hb dX3_judge_3 rfl (lv_at hl 3 rfl) ?_
  refine Rd.callS (r := (bI (pkB (a) (b) (c0)))) (As := [.int (a), .int (b), .int (c0)]) S (k_X3_isPacket l (a) (b) (c0)) (va_cwS 3 hts gX3_judge_X3_isPacket rfl rfl rfl (by decide +kernel) ⟨Nat.le_of_ble_eq_true rfl, Nat.le_of_ble_eq_true rfl⟩) hK rfl hl.1 rfl (Nat.le_of_ble_eq_true rfl) dX3_judge_4 ⟨Nat.zero_le _, Nat.zero_le _⟩ ?_
  refine nr_ifB_eq (tgt := 14) hx hb dX3_judge_7 (by decide) (fun c_7 => ?_) (fun c_7 => absurd c_7 (by rw [hpk]; decide))
  refine lv_iconst (v := (nI (1))) hx hb dX3_judge_14 (by decide +kernel) ?_
  refine MuI.callV (r := (nI (0))) (As := [.int (nI (1))]) S (k_holdsN l (by decide)) (cwV 1 hts gX3_judge_X3_holds rfl rfl rfl (by decide +kernel) ⟨Nat.le_of_ble_eq_true rfl, Nat.le_of_ble_eq_true rfl⟩) hK hP hD hS (va_recv hK.1 hP (ci := 3) (q0 := 0) rfl rfl) rfl hl.1 rfl (Nat.le_of_ble_eq_true rfl) dX3_judge_15 ⟨Nat.zero_le _, Nat.zero_le _⟩ (fun H locs hB hS _ hkp => ?_)
  have hP : va_P D aCl (wM Y A (nI (1)) (nI (rs.length)) (mi) (ju) (lo) f bf ca bg sz) H := hB
  have hD : va_D AA (wM Y A (nI (1)) (nI (rs.length)) (mi) (ju) (lo) f bf ca bg sz) := va_D.same hD rfl
  refine nr_if_ne (tgt := 23) hx hb (by omega) dX3_judge_18 (by decide) (fun c_18 => absurd c_18 (by decide)) (fun c_18 => ?_)
  refine lv_iconst (v := (nI (0))) hx hb dX3_judge_21 (by decide +kernel) ?_
  exact hE _ _ _ _ _ dX3_judge_22 (rfl) (rfl) (⟨f, bf, ca, bg, sz, hf, hP⟩) hS
set_option maxHeartbeats 4000000 in
set_option maxRecDepth 100000 in
theorem k_X3_judge_m (l : Launch) {D : va_G} {Y : Nat → ClassId} {A : Nat → Nat} {th mi ju lo : Int32} {f bf ca bg sz : Nat → Int32} {rs : List RV}  (hf : mrep rs f) {s0 d0 p0 : Nat} (hs : s0 < 32) (hd : d0 < 32) (hp : p0 < 4) (hm : fmN rs s0 d0 p0 = rs.length) : MuI l yX3_judge wsX3_judge 5 D Y [.ref (A 0), .int (nI (s0)), .int (nI (d0)), .int (nI (p0))] (wM Y A (th) (nI (rs.length)) (mi) (ju) (lo) f bf ca bg sz) (mdB D Y A (nI 0) (mi + nI 1) (ju + nI 1) (lo + nI rs.length) (rs)) (nI 0) := by
  refine MuI.start (cc := cX3_judge) (maxL := 5) (rt := .boolean) (by decide) rfl (Nat.le_of_ble_eq_true rfl) ?_
  intro p e s m args below meth c ls AA H0 H locs Q S hK hP hD hS hl hE
  have S : CallFix p m c cX3_judge 5 s args wsX3_judge RX3 := S
  have hx := S.1
  have hb := S.2.1
  have hts := S.2.2.2.2
  have hl : lv_has ls 5 [(0, .ref (A 0)), (1, .int (nI (s0))), (2, .int (nI (d0))), (3, .int (nI (p0)))] := hl
  have hn := hf.1.1
  refine lv_aload_n hx hb dX3_judge_0 rfl (lv_at hl 0 rfl) ?_
  refine lv_iload_n hx hb dX3_judge_1 rfl (lv_at hl 1 rfl) ?_
  refine lv_iload_n hx hb dX3_judge_2 rfl (lv_at hl 2 rfl) ?_
  refine lv_iload_n hx hb dX3_judge_3 rfl (lv_at hl 3 rfl) ?_
  refine Rd.callS (r := (nI (1))) (As := [.int (nI (s0)), .int (nI (d0)), .int (nI (p0))]) S (k_isPk1 l (s0 := s0) (d0 := d0) (p0 := p0) (by omega) (by omega) (by omega)) (va_cwS 3 hts gX3_judge_X3_isPacket rfl rfl rfl (by decide +kernel) ⟨Nat.le_of_ble_eq_true rfl, Nat.le_of_ble_eq_true rfl⟩) hK rfl hl.1 rfl (Nat.le_of_ble_eq_true rfl) dX3_judge_4 ⟨Nat.zero_le _, Nat.zero_le _⟩ ?_
  refine nr_if_eq (tgt := 14) hx hb (by omega) dX3_judge_7 (by decide) (fun c_7 => absurd c_7 (by decide)) (fun c_7 => ?_)
  refine lv_iconst (v := (nI (0))) hx hb dX3_judge_10 (by decide +kernel) ?_
  refine lv_goto (tgt := 15) hx hb dX3_judge_11 (by decide) ?_
  refine MuI.callV (r := (nI (1))) (As := [.int (nI (0))]) S (k_holds0 l) (cwV 1 hts gX3_judge_X3_holds rfl rfl rfl (by decide +kernel) ⟨Nat.le_of_ble_eq_true rfl, Nat.le_of_ble_eq_true rfl⟩) hK hP hD hS (va_recv hK.1 hP (ci := 3) (q0 := 0) rfl rfl) rfl hl.1 rfl (Nat.le_of_ble_eq_true rfl) dX3_judge_15 ⟨Nat.zero_le _, Nat.zero_le _⟩ (fun H locs hB hS _ hkp => ?_)
  have hP : va_P D aCl (wM Y A (nI (0)) (nI (rs.length)) (mi) (ju) (lo) f bf ca bg sz) H := hB
  have hD : va_D AA (wM Y A (nI (0)) (nI (rs.length)) (mi) (ju) (lo) f bf ca bg sz) := va_D.same hD rfl
  refine nr_if_ne (tgt := 23) hx hb (by omega) dX3_judge_18 (by decide) (fun c_18 => ?_) (fun c_18 => absurd c_18 (by decide))
  refine lv_aload_n hx hb dX3_judge_23 rfl (lv_at hl 0 rfl) ?_
  refine lv_iload_n hx hb dX3_judge_24 rfl (lv_at hl 1 rfl) ?_
  refine lv_iload_n hx hb dX3_judge_25 rfl (lv_at hl 2 rfl) ?_
  refine lv_iload_n hx hb dX3_judge_26 rfl (lv_at hl 3 rfl) ?_
  refine Rd.callV (r := (nI (fmN rs (s0) (d0) (p0)))) (As := [.int (nI (s0)), .int (nI (d0)), .int (nI (p0))]) S (k_X3_first l hP hf (s0 := s0) (d0 := d0) (p0 := p0) (by omega) (by omega) (by omega)) (cwV 3 hts gX3_judge_X3_first rfl rfl rfl (by decide +kernel) ⟨Nat.le_of_ble_eq_true rfl, Nat.le_of_ble_eq_true rfl⟩) hK (va_recv hK.1 hP (ci := 3) (q0 := 0) rfl rfl) rfl hl.1 rfl (Nat.le_of_ble_eq_true rfl) dX3_judge_27 ⟨Nat.zero_le _, Nat.zero_le _⟩ ?_
  refine lv_istore (lv' := [(4, .int (nI (fmN rs (s0) (d0) (p0)))), (0, .ref (A 0)), (1, .int (nI (s0))), (2, .int (nI (d0))), (3, .int (nI (p0)))]) hx hb dX3_judge_30 hl (by decide) rfl (fun ls hl => ?_)
  refine lv_aload_n hx hb dX3_judge_32 rfl (lv_at hl 1 rfl) ?_
  refine lv_dup hx hb dX3_judge_33 rfl ?_
  refine nr_get (C := RX3) (T := TX3) (N := 10) (ci := 3) S (fun _ h => List.mem_cons_of_mem _ (List.mem_append_right _ (h))) hK hP 0 rfl rfl 4 (by decide) (List.mem_of_getElem? (i := 1) rfl) rfl dX3_judge_34 ?_
  refine lv_iconst (v := (nI (1))) hx hb dX3_judge_37 (by decide +kernel) ?_
  refine lv_iadd hx hb dX3_judge_38 ?_
  refine nr_put (C := RX3) (T := TX3) (N := 10) (ci := 3) (v := .int (((ju) + (nI (1))))) S (fun _ h => List.mem_cons_of_mem _ (List.mem_append_right _ (h))) tyX3 tyX3_ok nmX3 hK hP hD hS 0 rfl rfl 4 (by decide) (List.mem_of_getElem? (i := 1) rfl) rfl rfl rfl (Nat.le_of_ble_eq_true rfl) dX3_judge_39 (fun H locs hP hD hS => ?_)
  have hP : va_P D aCl (wM Y A (nI (0)) (nI (rs.length)) (mi) (((ju) + (nI (1)))) (lo) f bf ca bg sz) H := hP
  have hD : va_D AA (wM Y A (nI (0)) (nI (rs.length)) (mi) (((ju) + (nI (1)))) (lo) f bf ca bg sz) := hD
  refine lv_iload hx hb dX3_judge_42 (lv_at hl 0 rfl) ?_
  refine lv_aload_n hx hb dX3_judge_44 rfl (lv_at hl 1 rfl) ?_
  refine nr_get (C := RX3) (T := TX3) (N := 10) (ci := 3) S (fun _ h => List.mem_cons_of_mem _ (List.mem_append_right _ (h))) hK hP 0 rfl rfl 1 (by decide) (List.mem_of_getElem? (i := 2) rfl) rfl dX3_judge_45 ?_
  refine nr_icmp_ne (tgt := 76) hx hb (Nat.lt_of_le_of_lt (fmN_le _ _ _ _) (by omega)) (by omega) dX3_judge_48 (by decide) (fun c_48 => absurd c_48 (fun q => q hm)) (fun c_48 => ?_)
  refine lv_aload_n hx hb dX3_judge_51 rfl (lv_at hl 1 rfl) ?_
  refine lv_dup hx hb dX3_judge_52 rfl ?_
  refine nr_get (C := RX3) (T := TX3) (N := 10) (ci := 3) S (fun _ h => List.mem_cons_of_mem _ (List.mem_append_right _ (h))) hK hP 0 rfl rfl 3 (by decide) (List.mem_of_getElem? (i := 3) rfl) rfl dX3_judge_53 ?_
  refine lv_iconst (v := (nI (1))) hx hb dX3_judge_56 (by decide +kernel) ?_
  refine lv_iadd hx hb dX3_judge_57 ?_
  refine nr_put (C := RX3) (T := TX3) (N := 10) (ci := 3) (v := .int (((mi) + (nI (1))))) S (fun _ h => List.mem_cons_of_mem _ (List.mem_append_right _ (h))) tyX3 tyX3_ok nmX3 hK hP hD hS 0 rfl rfl 3 (by decide) (List.mem_of_getElem? (i := 3) rfl) rfl rfl rfl (Nat.le_of_ble_eq_true rfl) dX3_judge_58 (fun H locs hP hD hS => ?_)
  have hP : va_P D aCl (wM Y A (nI (0)) (nI (rs.length)) (((mi) + (nI (1)))) (((ju) + (nI (1)))) (lo) f bf ca bg sz) H := hP
  have hD : va_D AA (wM Y A (nI (0)) (nI (rs.length)) (((mi) + (nI (1)))) (((ju) + (nI (1)))) (lo) f bf ca bg sz) := hD
  refine lv_aload_n hx hb dX3_judge_61 rfl (lv_at hl 1 rfl) ?_
  refine lv_dup hx hb dX3_judge_62 rfl ?_
  refine nr_get (C := RX3) (T := TX3) (N := 10) (ci := 3) S (fun _ h => List.mem_cons_of_mem _ (List.mem_append_right _ (h))) hK hP 0 rfl rfl 5 (by decide) (List.mem_of_getElem? (i := 4) rfl) rfl dX3_judge_63 ?_
  refine lv_aload_n hx hb dX3_judge_66 rfl (lv_at hl 1 rfl) ?_
  refine nr_get (C := RX3) (T := TX3) (N := 10) (ci := 3) S (fun _ h => List.mem_cons_of_mem _ (List.mem_append_right _ (h))) hK hP 0 rfl rfl 1 (by decide) (List.mem_of_getElem? (i := 2) rfl) rfl dX3_judge_67 ?_
  refine lv_iadd hx hb dX3_judge_70 ?_
  refine nr_put (C := RX3) (T := TX3) (N := 10) (ci := 3) (v := .int (((lo) + (nI (rs.length))))) S (fun _ h => List.mem_cons_of_mem _ (List.mem_append_right _ (h))) tyX3 tyX3_ok nmX3 hK hP hD hS 0 rfl rfl 5 (by decide) (List.mem_of_getElem? (i := 4) rfl) rfl rfl rfl (Nat.le_of_ble_eq_true rfl) dX3_judge_71 (fun H locs hP hD hS => ?_)
  have hP : va_P D aCl (wM Y A (nI (0)) (nI (rs.length)) (((mi) + (nI (1)))) (((ju) + (nI (1)))) (((lo) + (nI (rs.length)))) f bf ca bg sz) H := hP
  have hD : va_D AA (wM Y A (nI (0)) (nI (rs.length)) (((mi) + (nI (1)))) (((ju) + (nI (1)))) (((lo) + (nI (rs.length)))) f bf ca bg sz) := hD
  refine lv_iconst (v := (nI (0))) hx hb dX3_judge_74 (by decide +kernel) ?_
  exact hE _ _ _ _ _ dX3_judge_75 (rfl) (rfl) (⟨f, bf, ca, bg, sz, hf, hP⟩) hS
theorem mrep_hit {rs : List RV} {f : Nat → Int32} {k : Nat} (h : mrep rs f) (hk : k < rs.length) : mrep (rs.set k (hitV (gt rs k))) (upd f (7 * k + 6) (f (7 * k + 6) + nI 1)) := by
  refine ⟨rsOk_set h.1 hk (h.1.2 k hk), fun i hi w hw => ?_⟩
  rw [List.length_set] at hi
  rw [gt_set _ _ _ _ hk]
  by_cases hik : i = k
  · rw [if_pos hik]
    subst hik
    by_cases hw6 : w = 6
    · subst hw6
      rw [pk_us, h.2 i hi 6 (by decide)]
      rfl
    · rw [pk_un (by omega), h.2 i hi w hw]
      rcases (show w = 0 ∨ w = 1 ∨ w = 2 ∨ w = 3 ∨ w = 4 ∨ w = 5 by omega) with rfl | rfl | rfl | rfl | rfl | rfl <;> rfl
  · rw [if_neg hik, pk_un (by omega)]
    exact h.2 i hi w hw
theorem k_of5 (l : Launch) {D : va_G} {Y : Nat → ClassId} {H : Heap} {A : Nat → Nat} {th mi ju lo n v : Int32} {f bf ca bg sz : Nat → Int32} {rs : List RV} {k : Nat} (hP : va_P D aCl (wM Y A th n mi ju lo (upd f (7 * k + 6) v) bf ca bg sz) H) (hf : mrep rs f) (hk : k < rs.length) : Rd l yX3_of wsX3_of 1 D Y [.ref (A 0), .int (nI k), .int (nI 5)] H (nI (bN (pM (gt rs k)))) := by
  have h := hf.1.1
  have h2 := k_X3_of l hP (i := k) (w := 5) (by omega)
  rw [pk_un (by omega), hf.2 k hk 5 (by decide)] at h2
  exact h2
set_option maxHeartbeats 4000000 in
set_option maxRecDepth 100000 in
theorem k_X3_judge_h (l : Launch) {D : va_G} {Y : Nat → ClassId} {A : Nat → Nat} {th mi ju lo : Int32} {f bf ca bg sz : Nat → Int32} {rs : List RV}  (hf : mrep rs f) {s0 d0 p0 : Nat} (hs : s0 < 32) (hd : d0 < 32) (hp : p0 < 4) {k : Nat} (hk : k < rs.length) (hfm : fmN rs s0 d0 p0 = k) : MuI l yX3_judge wsX3_judge 5 D Y [.ref (A 0), .int (nI (s0)), .int (nI (d0)), .int (nI (p0))] (wM Y A (th) (nI (rs.length)) (mi) (ju) (lo) f bf ca bg sz) (mdB D Y A (nI 0) (mi) (ju + nI 1) (lo + nI (k + 1)) (rs.set k (hitV (gt rs k)))) (bI (pM (gt rs k))) := by
  refine MuI.start (cc := cX3_judge) (maxL := 5) (rt := .boolean) (by decide) rfl (Nat.le_of_ble_eq_true rfl) ?_
  intro p e s m args below meth c ls AA H0 H locs Q S hK hP hD hS hl hE
  have S : CallFix p m c cX3_judge 5 s args wsX3_judge RX3 := S
  have hx := S.1
  have hb := S.2.1
  have hts := S.2.2.2.2
  have hl : lv_has ls 5 [(0, .ref (A 0)), (1, .int (nI (s0))), (2, .int (nI (d0))), (3, .int (nI (p0)))] := hl
  have hn := hf.1.1
  refine lv_aload_n hx hb dX3_judge_0 rfl (lv_at hl 0 rfl) ?_
  refine lv_iload_n hx hb dX3_judge_1 rfl (lv_at hl 1 rfl) ?_
  refine lv_iload_n hx hb dX3_judge_2 rfl (lv_at hl 2 rfl) ?_
  refine lv_iload_n hx hb dX3_judge_3 rfl (lv_at hl 3 rfl) ?_
  refine Rd.callS (r := (nI (1))) (As := [.int (nI (s0)), .int (nI (d0)), .int (nI (p0))]) S (k_isPk1 l (s0 := s0) (d0 := d0) (p0 := p0) (by omega) (by omega) (by omega)) (va_cwS 3 hts gX3_judge_X3_isPacket rfl rfl rfl (by decide +kernel) ⟨Nat.le_of_ble_eq_true rfl, Nat.le_of_ble_eq_true rfl⟩) hK rfl hl.1 rfl (Nat.le_of_ble_eq_true rfl) dX3_judge_4 ⟨Nat.zero_le _, Nat.zero_le _⟩ ?_
  refine nr_if_eq (tgt := 14) hx hb (by omega) dX3_judge_7 (by decide) (fun c_7 => absurd c_7 (by decide)) (fun c_7 => ?_)
  refine lv_iconst (v := (nI (0))) hx hb dX3_judge_10 (by decide +kernel) ?_
  refine lv_goto (tgt := 15) hx hb dX3_judge_11 (by decide) ?_
  refine MuI.callV (r := (nI (1))) (As := [.int (nI (0))]) S (k_holds0 l) (cwV 1 hts gX3_judge_X3_holds rfl rfl rfl (by decide +kernel) ⟨Nat.le_of_ble_eq_true rfl, Nat.le_of_ble_eq_true rfl⟩) hK hP hD hS (va_recv hK.1 hP (ci := 3) (q0 := 0) rfl rfl) rfl hl.1 rfl (Nat.le_of_ble_eq_true rfl) dX3_judge_15 ⟨Nat.zero_le _, Nat.zero_le _⟩ (fun H locs hB hS _ hkp => ?_)
  have hP : va_P D aCl (wM Y A (nI (0)) (nI (rs.length)) (mi) (ju) (lo) f bf ca bg sz) H := hB
  have hD : va_D AA (wM Y A (nI (0)) (nI (rs.length)) (mi) (ju) (lo) f bf ca bg sz) := va_D.same hD rfl
  refine nr_if_ne (tgt := 23) hx hb (by omega) dX3_judge_18 (by decide) (fun c_18 => ?_) (fun c_18 => absurd c_18 (by decide))
  refine lv_aload_n hx hb dX3_judge_23 rfl (lv_at hl 0 rfl) ?_
  refine lv_iload_n hx hb dX3_judge_24 rfl (lv_at hl 1 rfl) ?_
  refine lv_iload_n hx hb dX3_judge_25 rfl (lv_at hl 2 rfl) ?_
  refine lv_iload_n hx hb dX3_judge_26 rfl (lv_at hl 3 rfl) ?_
  refine Rd.callV (r := (nI (k))) (As := [.int (nI (s0)), .int (nI (d0)), .int (nI (p0))]) S (hfm ▸ k_X3_first l hP hf (s0 := s0) (d0 := d0) (p0 := p0) (by omega) (by omega) (by omega)) (cwV 3 hts gX3_judge_X3_first rfl rfl rfl (by decide +kernel) ⟨Nat.le_of_ble_eq_true rfl, Nat.le_of_ble_eq_true rfl⟩) hK (va_recv hK.1 hP (ci := 3) (q0 := 0) rfl rfl) rfl hl.1 rfl (Nat.le_of_ble_eq_true rfl) dX3_judge_27 ⟨Nat.zero_le _, Nat.zero_le _⟩ ?_
  refine lv_istore (lv' := [(4, .int (nI (k))), (0, .ref (A 0)), (1, .int (nI (s0))), (2, .int (nI (d0))), (3, .int (nI (p0)))]) hx hb dX3_judge_30 hl (by decide) rfl (fun ls hl => ?_)
  refine lv_aload_n hx hb dX3_judge_32 rfl (lv_at hl 1 rfl) ?_
  refine lv_dup hx hb dX3_judge_33 rfl ?_
  refine nr_get (C := RX3) (T := TX3) (N := 10) (ci := 3) S (fun _ h => List.mem_cons_of_mem _ (List.mem_append_right _ (h))) hK hP 0 rfl rfl 4 (by decide) (List.mem_of_getElem? (i := 1) rfl) rfl dX3_judge_34 ?_
  refine lv_iconst (v := (nI (1))) hx hb dX3_judge_37 (by decide +kernel) ?_
  refine lv_iadd hx hb dX3_judge_38 ?_
  refine nr_put (C := RX3) (T := TX3) (N := 10) (ci := 3) (v := .int (((ju) + (nI (1))))) S (fun _ h => List.mem_cons_of_mem _ (List.mem_append_right _ (h))) tyX3 tyX3_ok nmX3 hK hP hD hS 0 rfl rfl 4 (by decide) (List.mem_of_getElem? (i := 1) rfl) rfl rfl rfl (Nat.le_of_ble_eq_true rfl) dX3_judge_39 (fun H locs hP hD hS => ?_)
  have hP : va_P D aCl (wM Y A (nI (0)) (nI (rs.length)) (mi) (((ju) + (nI (1)))) (lo) f bf ca bg sz) H := hP
  have hD : va_D AA (wM Y A (nI (0)) (nI (rs.length)) (mi) (((ju) + (nI (1)))) (lo) f bf ca bg sz) := hD
  refine lv_iload hx hb dX3_judge_42 (lv_at hl 0 rfl) ?_
  refine lv_aload_n hx hb dX3_judge_44 rfl (lv_at hl 1 rfl) ?_
  refine nr_get (C := RX3) (T := TX3) (N := 10) (ci := 3) S (fun _ h => List.mem_cons_of_mem _ (List.mem_append_right _ (h))) hK hP 0 rfl rfl 1 (by decide) (List.mem_of_getElem? (i := 2) rfl) rfl dX3_judge_45 ?_
  refine nr_icmp_ne (tgt := 76) hx hb (by omega) (by omega) dX3_judge_48 (by decide) (fun c_48 => ?_) (fun c_48 => absurd c_48 (Nat.ne_of_lt hk))
  refine lv_aload_n hx hb dX3_judge_76 rfl (lv_at hl 1 rfl) ?_
  refine lv_dup hx hb dX3_judge_77 rfl ?_
  refine nr_get (C := RX3) (T := TX3) (N := 10) (ci := 3) S (fun _ h => List.mem_cons_of_mem _ (List.mem_append_right _ (h))) hK hP 0 rfl rfl 5 (by decide) (List.mem_of_getElem? (i := 4) rfl) rfl dX3_judge_78 ?_
  refine lv_iload hx hb dX3_judge_81 (lv_at hl 0 rfl) ?_
  refine lv_iconst (v := (nI (1))) hx hb dX3_judge_83 (by decide +kernel) ?_
  refine nr_iadd hx hb dX3_judge_84 ?_
  refine lv_iadd hx hb dX3_judge_85 ?_
  refine nr_put (C := RX3) (T := TX3) (N := 10) (ci := 3) (v := .int (((lo) + (nI (k + 1))))) S (fun _ h => List.mem_cons_of_mem _ (List.mem_append_right _ (h))) tyX3 tyX3_ok nmX3 hK hP hD hS 0 rfl rfl 5 (by decide) (List.mem_of_getElem? (i := 4) rfl) rfl rfl rfl (Nat.le_of_ble_eq_true rfl) dX3_judge_86 (fun H locs hP hD hS => ?_)
  have hP : va_P D aCl (wM Y A (nI (0)) (nI (rs.length)) (mi) (((ju) + (nI (1)))) (((lo) + (nI (k + 1)))) f bf ca bg sz) H := hP
  have hD : va_D AA (wM Y A (nI (0)) (nI (rs.length)) (mi) (((ju) + (nI (1)))) (((lo) + (nI (k + 1)))) f bf ca bg sz) := hD
  refine lv_aload_n hx hb dX3_judge_89 rfl (lv_at hl 1 rfl) ?_
  refine nr_get (C := RX3) (T := TX3) (N := 10) (ci := 3) S (fun _ h => List.mem_cons_of_mem _ (List.mem_append_right _ (h))) hK hP 0 rfl rfl 2 (by decide) (List.mem_of_getElem? (i := 5) rfl) rfl dX3_judge_90 ?_
  refine lv_bipush (v := (nI (7))) hx hb dX3_judge_93 (by decide +kernel) ?_
  refine lv_iload hx hb dX3_judge_95 (lv_at hl 0 rfl) ?_
  refine nr_imul hx hb dX3_judge_97 ?_
  refine lv_bipush (v := (nI (6))) hx hb dX3_judge_98 (by decide +kernel) ?_
  refine nr_iadd hx hb dX3_judge_100 ?_
  refine lv_dup2_11 hx hb dX3_judge_101 rfl rfl ?_
  refine nr_iald (n := 112) (f := f) S hK hP 1 rfl (by omega) (by decide) dX3_judge_102 ?_
  refine lv_iconst (v := (nI (1))) hx hb dX3_judge_103 (by decide +kernel) ?_
  refine lv_iadd hx hb dX3_judge_104 ?_
  refine nr_iast (n := 112) (f := f) (x := (((f ((7 * k) + 6)) + (nI (1))))) S hK hP hD hS 1 rfl (by omega) (by decide) dX3_judge_105 (fun H locs hP hD hS => ?_)
  have hP : va_P D aCl (wM Y A (nI (0)) (nI (rs.length)) (mi) (((ju) + (nI (1)))) (((lo) + (nI (k + 1)))) (upd f ((7 * k) + 6) (((f ((7 * k) + 6)) + (nI (1))))) bf ca bg sz) H := hP
  have hD : va_D AA (wM Y A (nI (0)) (nI (rs.length)) (mi) (((ju) + (nI (1)))) (((lo) + (nI (k + 1)))) (upd f ((7 * k) + 6) (((f ((7 * k) + 6)) + (nI (1))))) bf ca bg sz) := hD
  refine lv_aload_n hx hb dX3_judge_106 rfl (lv_at hl 1 rfl) ?_
  refine lv_iload hx hb dX3_judge_107 (lv_at hl 0 rfl) ?_
  refine lv_iconst (v := (nI (5))) hx hb dX3_judge_109 (by decide +kernel) ?_
  refine Rd.callV (r := (nI (bN (pM (gt rs k))))) (As := [.int (nI (k)), .int (nI (5))]) S (k_of5 l hP hf hk) (cwV 2 hts gX3_judge_X3_of rfl rfl rfl (by decide +kernel) ⟨Nat.le_of_ble_eq_true rfl, Nat.le_of_ble_eq_true rfl⟩) hK (va_recv hK.1 hP (ci := 3) (q0 := 0) rfl rfl) rfl hl.1 rfl (Nat.le_of_ble_eq_true rfl) dX3_judge_110 ⟨Nat.zero_le _, Nat.zero_le _⟩ ?_
  refine lv_iconst (v := (nI (1))) hx hb dX3_judge_113 (by decide +kernel) ?_
  refine nr_icmp_ne (tgt := 121) hx hb (Nat.lt_trans (bN_lt _) (by decide)) (by decide) dX3_judge_114 (by decide) (fun c_114 => ?_) (fun c_114 => ?_)
  · refine lv_iconst (v := (nI (0))) hx hb dX3_judge_121 (by decide +kernel) ?_
    exact hE _ _ _ _ _ dX3_judge_122 (rfl) (bI_f (bN_f c_114)) (⟨_, bf, ca, bg, sz, mrep_hit hf hk, by rw [List.length_set]; exact hP⟩) hS
  · refine lv_iconst (v := (nI (1))) hx hb dX3_judge_117 (by decide +kernel) ?_
    refine lv_goto (tgt := 122) hx hb dX3_judge_118 (by decide) ?_
    exact hE _ _ _ _ _ dX3_judge_122 (rfl) (bI_t (bN_t c_114)) (⟨_, bf, ca, bg, sz, mrep_hit hf hk, by rw [List.length_set]; exact hP⟩) hS
set_option maxHeartbeats 4000000 in
set_option maxRecDepth 100000 in
theorem k_X3_rules (l : Launch) {D : va_G} {Y : Nat → ClassId} {A : Nat → Nat} {th mi ju lo : Int32} {f bf ca bg sz : Nat → Int32} {rs : List RV}  (hf : mrep rs f) : MuI l yX3_rules wsX3_rules 0 D Y [.ref (A 0)] (wM Y A (th) (nI (rs.length)) (mi) (ju) (lo) f bf ca bg sz) (mdB D Y A (nI 0) (mi) (ju) (lo) (rs)) (nI rs.length) := by
  refine MuI.start (cc := cX3_rules) (maxL := 1) (rt := .int) (by decide) rfl (Nat.le_of_ble_eq_true rfl) ?_
  intro p e s m args below meth c ls AA H0 H locs Q S hK hP hD hS hl hE
  have S : CallFix p m c cX3_rules 1 s args wsX3_rules RX3 := S
  have hx := S.1
  have hb := S.2.1
  have hts := S.2.2.2.2
  have hl : lv_has ls 1 [(0, .ref (A 0))] := hl
  refine lv_aload_n hx hb dX3_rules_0 rfl (lv_at hl 0 rfl) ?_
  refine lv_iconst (v := (nI (0))) hx hb dX3_rules_1 (by decide +kernel) ?_
  refine nr_put (C := RX3) (T := TX3) (N := 10) (ci := 3) (v := .int (nI (0))) S (fun _ h => List.mem_cons_of_mem _ (List.mem_append_right _ (h))) tyX3 tyX3_ok nmX3 hK hP hD hS 0 rfl rfl 0 (by decide) (List.mem_of_getElem? (i := 1) rfl) rfl rfl rfl (Nat.le_of_ble_eq_true rfl) dX3_rules_2 (fun H locs hP hD hS => ?_)
  have hP : va_P D aCl (wM Y A (nI (0)) (nI (rs.length)) (mi) (ju) (lo) f bf ca bg sz) H := hP
  have hD : va_D AA (wM Y A (nI (0)) (nI (rs.length)) (mi) (ju) (lo) f bf ca bg sz) := hD
  refine lv_aload_n hx hb dX3_rules_5 rfl (lv_at hl 0 rfl) ?_
  refine nr_get (C := RX3) (T := TX3) (N := 10) (ci := 3) S (fun _ h => List.mem_cons_of_mem _ (List.mem_append_right _ (h))) hK hP 0 rfl rfl 1 (by decide) (List.mem_of_getElem? (i := 2) rfl) rfl dX3_rules_6 ?_
  exact hE _ _ _ _ _ dX3_rules_9 (vp_nar_int _) (rfl) (⟨f, bf, ca, bg, sz, hf, hP⟩) hS
set_option maxHeartbeats 4000000 in
set_option maxRecDepth 100000 in
theorem k_X3_misses (l : Launch) {D : va_G} {Y : Nat → ClassId} {A : Nat → Nat} {th mi ju lo : Int32} {f bf ca bg sz : Nat → Int32} {rs : List RV}  (hf : mrep rs f) : MuI l yX3_misses wsX3_misses 0 D Y [.ref (A 0)] (wM Y A (th) (nI (rs.length)) (mi) (ju) (lo) f bf ca bg sz) (mdB D Y A (nI 0) (mi) (ju) (lo) (rs)) (mi) := by
  refine MuI.start (cc := cX3_misses) (maxL := 1) (rt := .int) (by decide) rfl (Nat.le_of_ble_eq_true rfl) ?_
  intro p e s m args below meth c ls AA H0 H locs Q S hK hP hD hS hl hE
  have S : CallFix p m c cX3_misses 1 s args wsX3_misses RX3 := S
  have hx := S.1
  have hb := S.2.1
  have hts := S.2.2.2.2
  have hl : lv_has ls 1 [(0, .ref (A 0))] := hl
  refine lv_aload_n hx hb dX3_misses_0 rfl (lv_at hl 0 rfl) ?_
  refine lv_iconst (v := (nI (0))) hx hb dX3_misses_1 (by decide +kernel) ?_
  refine nr_put (C := RX3) (T := TX3) (N := 10) (ci := 3) (v := .int (nI (0))) S (fun _ h => List.mem_cons_of_mem _ (List.mem_append_right _ (h))) tyX3 tyX3_ok nmX3 hK hP hD hS 0 rfl rfl 0 (by decide) (List.mem_of_getElem? (i := 1) rfl) rfl rfl rfl (Nat.le_of_ble_eq_true rfl) dX3_misses_2 (fun H locs hP hD hS => ?_)
  have hP : va_P D aCl (wM Y A (nI (0)) (nI (rs.length)) (mi) (ju) (lo) f bf ca bg sz) H := hP
  have hD : va_D AA (wM Y A (nI (0)) (nI (rs.length)) (mi) (ju) (lo) f bf ca bg sz) := hD
  refine lv_aload_n hx hb dX3_misses_5 rfl (lv_at hl 0 rfl) ?_
  refine nr_get (C := RX3) (T := TX3) (N := 10) (ci := 3) S (fun _ h => List.mem_cons_of_mem _ (List.mem_append_right _ (h))) hK hP 0 rfl rfl 3 (by decide) (List.mem_of_getElem? (i := 2) rfl) rfl dX3_misses_6 ?_
  exact hE _ _ _ _ _ dX3_misses_9 (vp_nar_int _) (rfl) (⟨f, bf, ca, bg, sz, hf, hP⟩) hS
set_option maxHeartbeats 4000000 in
set_option maxRecDepth 100000 in
theorem k_X3_thrown (l : Launch) {D : va_G} {Y : Nat → ClassId} {H : Heap} {A : Nat → Nat} {th mi ju lo : Int32} {f bf ca bg sz : Nat → Int32} {rs : List RV}  (hP : va_P D aCl (wM Y A (th) (nI (rs.length)) (mi) (ju) (lo) f bf ca bg sz) H) : Rd l yX3_thrown wsX3_thrown 0 D Y [.ref (A 0)] H (th) := by
  refine Rd.start (cc := cX3_thrown) (maxL := 1) (rt := .int) (by decide) rfl (Nat.le_of_ble_eq_true rfl) ?_
  intro p e s m args below meth c ls Q S hK hl hE
  have S : CallFix p m c cX3_thrown 1 s args wsX3_thrown RX3 := S
  have hx := S.1
  have hb := S.2.1
  have hts := S.2.2.2.2
  have hl : lv_has ls 1 [(0, .ref (A 0))] := hl
  refine lv_aload_n hx hb dX3_thrown_0 rfl (lv_at hl 0 rfl) ?_
  refine nr_get (C := RX3) (T := TX3) (N := 10) (ci := 3) S (fun _ h => List.mem_cons_of_mem _ (List.mem_append_right _ (h))) hK hP 0 rfl rfl 0 (by decide) (List.mem_of_getElem? (i := 1) rfl) rfl dX3_thrown_1 ?_
  exact hE _ _ _ dX3_thrown_4 (vp_nar_int _) (rfl)
set_option maxHeartbeats 4000000 in
set_option maxRecDepth 100000 in
theorem k_X3_permitted (l : Launch) {D : va_G} {Y : Nat → ClassId} {A : Nat → Nat} {th mi ju lo : Int32} {f bf ca bg sz : Nat → Int32} {rs : List RV}  (hf : mrep rs f) : MuI l yX3_permitted wsX3_permitted 5 D Y [.ref (A 0)] (wM Y A (th) (nI (rs.length)) (mi) (ju) (lo) f bf ca bg sz) (mdB D Y A (nI 0) (mi) (ju) (lo) (rs)) (nI (pmT rs)) := by
  refine MuI.start (cc := cX3_permitted) (maxL := 3) (rt := .int) (by decide) rfl (Nat.le_of_ble_eq_true rfl) ?_
  intro p e s m args below meth c ls AA H0 H locs Q S hK hP hD hS hl hE
  have S : CallFix p m c cX3_permitted 3 s args wsX3_permitted RX3 := S
  have hx := S.1
  have hb := S.2.1
  have hts := S.2.2.2.2
  have hl : lv_has ls 3 [(0, .ref (A 0))] := hl
  have hn := hf.1.1
  refine lv_aload_n hx hb dX3_permitted_0 rfl (lv_at hl 0 rfl) ?_
  refine lv_iconst (v := (nI (0))) hx hb dX3_permitted_1 (by decide +kernel) ?_
  refine nr_put (C := RX3) (T := TX3) (N := 10) (ci := 3) (v := .int (nI (0))) S (fun _ h => List.mem_cons_of_mem _ (List.mem_append_right _ (h))) tyX3 tyX3_ok nmX3 hK hP hD hS 0 rfl rfl 0 (by decide) (List.mem_of_getElem? (i := 1) rfl) rfl rfl rfl (Nat.le_of_ble_eq_true rfl) dX3_permitted_2 (fun H locs hP hD hS => ?_)
  have hP : va_P D aCl (wM Y A (nI (0)) (nI (rs.length)) (mi) (ju) (lo) f bf ca bg sz) H := hP
  have hD : va_D AA (wM Y A (nI (0)) (nI (rs.length)) (mi) (ju) (lo) f bf ca bg sz) := hD
  refine lv_iconst (v := (nI (0))) hx hb dX3_permitted_5 (by decide +kernel) ?_
  refine lv_istore_n (lv' := [(1, .int (nI (0))), (0, .ref (A 0))]) hx hb dX3_permitted_6 rfl hl (by decide) rfl (fun ls hl => ?_)
  refine lv_iconst (v := (nI (0))) hx hb dX3_permitted_7 (by decide +kernel) ?_
  refine lv_istore_n (lv' := [(2, .int (nI (0))), (1, .int (nI (0))), (0, .ref (A 0))]) hx hb dX3_permitted_8 rfl hl (by decide) rfl (fun ls hl => ?_)
  have loop_9 : ∀ (fu_9 : Nat) (n : Nat) (q : Nat), (q ≤ 128) → (n = sumN (fun k => popI (pmI rs (k / 4) (k % 4) (-1))) q) → 128 - q < fu_9 → ∀ (H : Heap) (locs : List Loc), va_P D aCl (wM Y A (nI (0)) (nI (rs.length)) (mi) (ju) (lo) f bf ca bg sz) H → va_S AA H0 H locs → ∀ ls : Array Slot, lv_has ls 3 [(2, .int (nI (q))), (1, .int (nI (n))), (0, .ref (A 0))] → W p l e (rmN 5) s m args below meth c H locs 0 0 Q (F0 m 9 ls []) := by
    intro fu_9
    induction fu_9 with
    | zero => exact fun n q _ _ hk => absurd hk (Nat.not_lt_zero _)
    | succ fu_9 ih_9 =>
      intro n q h1 h2 hk_9 H locs hP hS ls hl
      have hD : va_D AA (wM Y A (nI (0)) (nI (rs.length)) (mi) (ju) (lo) f bf ca bg sz) := va_D.same hD rfl
      refine lv_iload_n hx hb dX3_permitted_9 rfl (lv_at hl 0 rfl) ?_
      refine lv_sipush (v := (nI (128))) hx hb dX3_permitted_10 (by decide +kernel) ?_
      refine nr_icmp_ge (tgt := 39) hx hb (by omega) (by omega) dX3_permitted_13 (by decide) (fun c_13 => ?_) (fun c_13 => ?_)
      · refine lv_iload_n hx hb dX3_permitted_39 rfl (lv_at hl 1 rfl) ?_
        exact hE _ _ _ _ _ dX3_permitted_40 (vp_nar_int _) (sumN_end h1 c_13 h2) (⟨f, bf, ca, bg, sz, hf, hP⟩) hS
      · refine lv_iload_n hx hb dX3_permitted_16 rfl (lv_at hl 1 rfl) ?_
        refine lv_aload_n hx hb dX3_permitted_17 rfl (lv_at hl 2 rfl) ?_
        refine lv_iload_n hx hb dX3_permitted_18 rfl (lv_at hl 0 rfl) ?_
        refine lv_iconst (v := (nI (4))) hx hb dX3_permitted_19 (by decide +kernel) ?_
        refine nr_idiv hx hb (by omega) (by omega) (by omega) dX3_permitted_20 ?_
        refine lv_iload_n hx hb dX3_permitted_21 rfl (lv_at hl 0 rfl) ?_
        refine lv_iconst (v := (nI (4))) hx hb dX3_permitted_22 (by decide +kernel) ?_
        refine nr_irem hx hb (by omega) (by omega) (by omega) dX3_permitted_23 ?_
        refine lv_iconst (v := ((-1 : Int32))) hx hb dX3_permitted_24 (by decide +kernel) ?_
        refine Rd.callV (r := (pmI rs (q / 4) (q % 4) ((-1 : Int32)))) (As := [.int (nI (q / 4)), .int (nI (q % 4)), .int ((-1 : Int32))]) S (k_X3_permittedOf l hP hf (s0 := q / 4) (p0 := q % 4) (wo := ((-1 : Int32))) (by omega) (by omega)) (cwV 3 hts gX3_permitted_X3_permittedOf rfl rfl rfl (by decide +kernel) ⟨Nat.le_of_ble_eq_true rfl, Nat.le_of_ble_eq_true rfl⟩) hK (va_recv hK.1 hP (ci := 3) (q0 := 0) rfl rfl) rfl hl.1 rfl (Nat.le_of_ble_eq_true rfl) dX3_permitted_25 ⟨Nat.zero_le _, Nat.zero_le _⟩ ?_
        refine Rd.callS (r := (nI (popI (pmI rs (q / 4) (q % 4) ((-1 : Int32)))))) (As := [.int (pmI rs (q / 4) (q % 4) ((-1 : Int32)))]) S (k_X3_many l (pmI rs (q / 4) (q % 4) ((-1 : Int32)))) (va_cwS 1 hts gX3_permitted_X3_many rfl rfl rfl (by decide +kernel) ⟨Nat.le_of_ble_eq_true rfl, Nat.le_of_ble_eq_true rfl⟩) hK rfl hl.1 rfl (Nat.le_of_ble_eq_true rfl) dX3_permitted_28 ⟨Nat.zero_le _, Nat.zero_le _⟩ ?_
        refine nr_iadd hx hb dX3_permitted_31 ?_
        refine lv_istore_n (lv' := [(1, .int (nI (n + (popI (pmI rs (q / 4) (q % 4) ((-1 : Int32))))))), (2, .int (nI (q))), (0, .ref (A 0))]) hx hb dX3_permitted_32 rfl hl (by decide) rfl (fun ls hl => ?_)
        refine lv_iinc (v := (nI (q + 1))) (lv' := [(2, .int (nI (q + 1))), (1, .int (nI (n + (popI (pmI rs (q / 4) (q % 4) ((-1 : Int32))))))), (0, .ref (A 0))]) hx hb dX3_permitted_33 hl (k := 1) rfl (nI_add _ _) (by decide) rfl (fun ls hl => ?_)
        refine lv_goto (tgt := 9) hx hb dX3_permitted_36 (by decide) ?_
        exact ih_9 (n + (popI (pmI rs (q / 4) (q % 4) ((-1 : Int32))))) (q + 1) (by omega) (by rw [h2]; rfl) (by omega) _ _ hP hS ls (lv_sub hl [0, 1, 2] rfl)
  exact loop_9 _ (0) (0) (by decide) (rfl) (Nat.lt_succ_self _) _ _ hP hS ls (lv_sub hl [0, 1, 2] rfl)
