/-! each call's two sides -/
set_option maxHeartbeats 4000000 in
theorem sp_sources (l : Launch) (hlt : l.stackTraces = false) {D : va_G} {Y : Nat → ClassId} {F : Nat → Prop} {t0 la x na o : Nat} {A : Nat → Nat} (pl : Int32) : SpH l D Y F t0 la x na o A yL_sources wsL_sources yX3_sources wsX3_sources [.int pl] false := by
  intro ju mi lo rs H w0 hC hFr hoF hO
  have hok := hC.ok
  have hC0 := hC
  obtain ⟨ea, cap, mod, es, nt, L, hA, rfl⟩ := hC0.rd
  have hX := hA.1
  have hln : (RS L).length = L.length := RS_len L
  cases hp : plI pl (RS L).length with
  | true =>
    obtain ⟨i, hi, rfl⟩ := plI_inv hp hok.1
    refine ⟨0, _, _, _, _, _, _, _, _, _, _, ?_, stp_ret hoF (hu_sources l (rdu hC (k_X2_sources l hA (i := i) (by omega))) hO hoF hX), fun th f bf ca bg sz hf => k_X3_sources l hf hi, fun _ => rfl⟩
    exact ⟨by decide, Nat.le_of_ble_eq_true rfl, Nat.le_of_ble_eq_true rfl, Nat.le_of_ble_eq_true rfl, Nat.le_of_ble_eq_true rfl⟩
  | false =>
    refine ⟨1, _, 0, _, _, _, _, _, _, _, _, ?_, stp_th (by decide) hC hO (ht_sources1 l (k_X2_sources_x l hlt hA (by rw [← hln]; exact hp)) hX), fun th f bf ca bg sz hf => k_X3_sources_x l hf hp, fun z => absurd z (by decide)⟩
    exact ⟨by decide, Nat.le_of_ble_eq_true rfl, Nat.le_of_ble_eq_true rfl, Nat.le_of_ble_eq_true rfl, Nat.le_of_ble_eq_true rfl⟩
set_option maxHeartbeats 4000000 in
theorem sp_destinations (l : Launch) (hlt : l.stackTraces = false) {D : va_G} {Y : Nat → ClassId} {F : Nat → Prop} {t0 la x na o : Nat} {A : Nat → Nat} (pl : Int32) : SpH l D Y F t0 la x na o A yL_destinations wsL_destinations yX3_destinations wsX3_destinations [.int pl] false := by
  intro ju mi lo rs H w0 hC hFr hoF hO
  have hok := hC.ok
  have hC0 := hC
  obtain ⟨ea, cap, mod, es, nt, L, hA, rfl⟩ := hC0.rd
  have hX := hA.1
  have hln : (RS L).length = L.length := RS_len L
  cases hp : plI pl (RS L).length with
  | true =>
    obtain ⟨i, hi, rfl⟩ := plI_inv hp hok.1
    refine ⟨0, _, _, _, _, _, _, _, _, _, _, ?_, stp_ret hoF (hu_destinations l (rdu hC (k_X2_destinations l hA (i := i) (by omega))) hO hoF hX), fun th f bf ca bg sz hf => k_X3_destinations l hf hi, fun _ => rfl⟩
    exact ⟨by decide, Nat.le_of_ble_eq_true rfl, Nat.le_of_ble_eq_true rfl, Nat.le_of_ble_eq_true rfl, Nat.le_of_ble_eq_true rfl⟩
  | false =>
    refine ⟨1, _, 0, _, _, _, _, _, _, _, _, ?_, stp_th (by decide) hC hO (ht_destinations1 l (k_X2_destinations_x l hlt hA (by rw [← hln]; exact hp)) hX), fun th f bf ca bg sz hf => k_X3_destinations_x l hf hp, fun z => absurd z (by decide)⟩
    exact ⟨by decide, Nat.le_of_ble_eq_true rfl, Nat.le_of_ble_eq_true rfl, Nat.le_of_ble_eq_true rfl, Nat.le_of_ble_eq_true rfl⟩
set_option maxHeartbeats 4000000 in
theorem sp_protocols (l : Launch) (hlt : l.stackTraces = false) {D : va_G} {Y : Nat → ClassId} {F : Nat → Prop} {t0 la x na o : Nat} {A : Nat → Nat} (pl : Int32) : SpH l D Y F t0 la x na o A yL_protocols wsL_protocols yX3_protocols wsX3_protocols [.int pl] false := by
  intro ju mi lo rs H w0 hC hFr hoF hO
  have hok := hC.ok
  have hC0 := hC
  obtain ⟨ea, cap, mod, es, nt, L, hA, rfl⟩ := hC0.rd
  have hX := hA.1
  have hln : (RS L).length = L.length := RS_len L
  cases hp : plI pl (RS L).length with
  | true =>
    obtain ⟨i, hi, rfl⟩ := plI_inv hp hok.1
    refine ⟨0, _, _, _, _, _, _, _, _, _, _, ?_, stp_ret hoF (hu_protocols l (rdu hC (k_X2_protocols l hA (i := i) (by omega))) hO hoF hX), fun th f bf ca bg sz hf => k_X3_protocols l hf hi, fun _ => rfl⟩
    exact ⟨by decide, Nat.le_of_ble_eq_true rfl, Nat.le_of_ble_eq_true rfl, Nat.le_of_ble_eq_true rfl, Nat.le_of_ble_eq_true rfl⟩
  | false =>
    refine ⟨1, _, 0, _, _, _, _, _, _, _, _, ?_, stp_th (by decide) hC hO (ht_protocols1 l (k_X2_protocols_x l hlt hA (by rw [← hln]; exact hp)) hX), fun th f bf ca bg sz hf => k_X3_protocols_x l hf hp, fun z => absurd z (by decide)⟩
    exact ⟨by decide, Nat.le_of_ble_eq_true rfl, Nat.le_of_ble_eq_true rfl, Nat.le_of_ble_eq_true rfl, Nat.le_of_ble_eq_true rfl⟩
set_option maxHeartbeats 4000000 in
theorem sp_permits (l : Launch) (hlt : l.stackTraces = false) {D : va_G} {Y : Nat → ClassId} {F : Nat → Prop} {t0 la x na o : Nat} {A : Nat → Nat} (pl : Int32) : SpH l D Y F t0 la x na o A yL_permits wsL_permits yX3_permits wsX3_permits [.int pl] true := by
  intro ju mi lo rs H w0 hC hFr hoF hO
  have hok := hC.ok
  have hC0 := hC
  obtain ⟨ea, cap, mod, es, nt, L, hA, rfl⟩ := hC0.rd
  have hX := hA.1
  have hln : (RS L).length = L.length := RS_len L
  cases hp : plI pl (RS L).length with
  | true =>
    obtain ⟨i, hi, rfl⟩ := plI_inv hp hok.1
    refine ⟨0, _, _, _, _, _, _, _, _, _, _, ?_, stp_ret hoF (hu_permits l (rdu hC (k_X2_permits l hA (i := i) (by omega))) hO hoF hX), fun th f bf ca bg sz hf => k_X3_permits l hf hi, fun _ => bL_bo (pM (gt (RS L) i))⟩
    exact ⟨by decide, Nat.le_of_ble_eq_true rfl, Nat.le_of_ble_eq_true rfl, Nat.le_of_ble_eq_true rfl, Nat.le_of_ble_eq_true rfl⟩
  | false =>
    refine ⟨1, _, 0, _, _, _, _, _, _, _, _, ?_, stp_th (by decide) hC hO (ht_permits1 l (k_X2_permits_x l hlt hA (by rw [← hln]; exact hp)) hX), fun th f bf ca bg sz hf => k_X3_permits_x l hf hp, fun z => absurd z (by decide)⟩
    exact ⟨by decide, Nat.le_of_ble_eq_true rfl, Nat.le_of_ble_eq_true rfl, Nat.le_of_ble_eq_true rfl, Nat.le_of_ble_eq_true rfl⟩
set_option maxHeartbeats 4000000 in
theorem sp_hits (l : Launch) (hlt : l.stackTraces = false) {D : va_G} {Y : Nat → ClassId} {F : Nat → Prop} {t0 la x na o : Nat} {A : Nat → Nat} (pl : Int32) : SpH l D Y F t0 la x na o A yL_hits wsL_hits yX3_hits wsX3_hits [.int pl] false := by
  intro ju mi lo rs H w0 hC hFr hoF hO
  have hok := hC.ok
  have hC0 := hC
  obtain ⟨ea, cap, mod, es, nt, L, hA, rfl⟩ := hC0.rd
  have hX := hA.1
  have hln : (RS L).length = L.length := RS_len L
  cases hp : plI pl (RS L).length with
  | true =>
    obtain ⟨i, hi, rfl⟩ := plI_inv hp hok.1
    refine ⟨0, _, _, _, _, _, _, _, _, _, _, ?_, stp_ret hoF (hu_hits l (rdu hC (k_X2_hits l hA (i := i) (by omega))) hO hoF hX), fun th f bf ca bg sz hf => k_X3_hits l hf hi, fun _ => rfl⟩
    exact ⟨by decide, Nat.le_of_ble_eq_true rfl, Nat.le_of_ble_eq_true rfl, Nat.le_of_ble_eq_true rfl, Nat.le_of_ble_eq_true rfl⟩
  | false =>
    refine ⟨1, _, 0, _, _, _, _, _, _, _, _, ?_, stp_th (by decide) hC hO (ht_hits1 l (k_X2_hits_x l hlt hA (by rw [← hln]; exact hp)) hX), fun th f bf ca bg sz hf => k_X3_hits_x l hf hp, fun z => absurd z (by decide)⟩
    exact ⟨by decide, Nat.le_of_ble_eq_true rfl, Nat.le_of_ble_eq_true rfl, Nat.le_of_ble_eq_true rfl, Nat.le_of_ble_eq_true rfl⟩
set_option maxHeartbeats 4000000 in
theorem sp_decides (l : Launch) (hlt : l.stackTraces = false) {D : va_G} {Y : Nat → ClassId} {F : Nat → Prop} {t0 la x na o : Nat} {A : Nat → Nat} (pl : Int32) : SpH l D Y F t0 la x na o A yL_decides wsL_decides yX3_decides wsX3_decides [.int pl] false := by
  intro ju mi lo rs H w0 hC hFr hoF hO
  have hok := hC.ok
  have hC0 := hC
  obtain ⟨ea, cap, mod, es, nt, L, hA, rfl⟩ := hC0.rd
  have hX := hA.1
  have hln : (RS L).length = L.length := RS_len L
  cases hp : plI pl (RS L).length with
  | true =>
    obtain ⟨i, hi, rfl⟩ := plI_inv hp hok.1
    refine ⟨0, _, _, _, _, _, _, _, _, _, _, ?_, stp_ret hoF (hu_decides l (rdu hC (k_X2_decides l hA (i := i) (by omega))) hO hoF hX), fun th f bf ca bg sz hf => k_X3_decides l hf hi, fun _ => rfl⟩
    exact ⟨by decide, Nat.le_of_ble_eq_true rfl, Nat.le_of_ble_eq_true rfl, Nat.le_of_ble_eq_true rfl, Nat.le_of_ble_eq_true rfl⟩
  | false =>
    refine ⟨1, _, 0, _, _, _, _, _, _, _, _, ?_, stp_th (by decide) hC hO (ht_decides1 l (k_X2_decides_x l hlt hA (by rw [← hln]; exact hp)) hX), fun th f bf ca bg sz hf => k_X3_decides_x l hf hp, fun z => absurd z (by decide)⟩
    exact ⟨by decide, Nat.le_of_ble_eq_true rfl, Nat.le_of_ble_eq_true rfl, Nat.le_of_ble_eq_true rfl, Nat.le_of_ble_eq_true rfl⟩
set_option maxHeartbeats 4000000 in
theorem sp_isShadowed (l : Launch) (hlt : l.stackTraces = false) {D : va_G} {Y : Nat → ClassId} {F : Nat → Prop} {t0 la x na o : Nat} {A : Nat → Nat} (pl : Int32) : SpH l D Y F t0 la x na o A yL_isShadowed wsL_isShadowed yX3_isShadowed wsX3_isShadowed [.int pl] true := by
  intro ju mi lo rs H w0 hC hFr hoF hO
  have hok := hC.ok
  have hC0 := hC
  obtain ⟨ea, cap, mod, es, nt, L, hA, rfl⟩ := hC0.rd
  have hX := hA.1
  have hln : (RS L).length = L.length := RS_len L
  cases hp : plI pl (RS L).length with
  | true =>
    obtain ⟨i, hi, rfl⟩ := plI_inv hp hok.1
    refine ⟨0, _, _, _, _, _, _, _, _, _, _, ?_, stp_ret hoF (hu_isShadowed l (rdu hC (k_X2_isShadowed l hA (i := i) (by omega))) hO hoF hX), fun th f bf ca bg sz hf => k_X3_isShadowed l hf hi, fun _ => bL_bo (decide (dcN (RS L) i = 0))⟩
    exact ⟨by decide, Nat.le_of_ble_eq_true rfl, Nat.le_of_ble_eq_true rfl, Nat.le_of_ble_eq_true rfl, Nat.le_of_ble_eq_true rfl⟩
  | false =>
    refine ⟨1, _, 0, _, _, _, _, _, _, _, _, ?_, stp_th (by decide) hC hO (ht_isShadowed1 l (k_X2_isShadowed_x l hlt hA (by rw [← hln]; exact hp)) hX), fun th f bf ca bg sz hf => k_X3_isShadowed_x l hf hp, fun z => absurd z (by decide)⟩
    exact ⟨by decide, Nat.le_of_ble_eq_true rfl, Nat.le_of_ble_eq_true rfl, Nat.le_of_ble_eq_true rfl, Nat.le_of_ble_eq_true rfl⟩
set_option maxHeartbeats 4000000 in
theorem sp_isRedundant (l : Launch) (hlt : l.stackTraces = false) {D : va_G} {Y : Nat → ClassId} {F : Nat → Prop} {t0 la x na o : Nat} {A : Nat → Nat} (pl : Int32) : SpH l D Y F t0 la x na o A yL_isRedundant wsL_isRedundant yX3_isRedundant wsX3_isRedundant [.int pl] true := by
  intro ju mi lo rs H w0 hC hFr hoF hO
  have hok := hC.ok
  have hC0 := hC
  obtain ⟨ea, cap, mod, es, nt, L, hA, rfl⟩ := hC0.rd
  have hX := hA.1
  have hln : (RS L).length = L.length := RS_len L
  cases hp : plI pl (RS L).length with
  | true =>
    obtain ⟨i, hi, rfl⟩ := plI_inv hp hok.1
    refine ⟨0, _, _, _, _, _, _, _, _, _, _, ?_, stp_ret hoF (hu_isRedundant l (rdu hC (k_X2_isRedundant l hA (i := i) (by omega))) hO hoF hX), fun th f bf ca bg sz hf => k_X3_isRedundant l hf hi, fun _ => bL_bo (ndB (RS L) i)⟩
    exact ⟨by decide, Nat.le_of_ble_eq_true rfl, Nat.le_of_ble_eq_true rfl, Nat.le_of_ble_eq_true rfl, Nat.le_of_ble_eq_true rfl⟩
  | false =>
    refine ⟨1, _, 0, _, _, _, _, _, _, _, _, ?_, stp_th (by decide) hC hO (ht_isRedundant1 l (k_X2_isRedundant_x l hlt hA (by rw [← hln]; exact hp)) hX), fun th f bf ca bg sz hf => k_X3_isRedundant_x l hf hp, fun z => absurd z (by decide)⟩
    exact ⟨by decide, Nat.le_of_ble_eq_true rfl, Nat.le_of_ble_eq_true rfl, Nat.le_of_ble_eq_true rfl, Nat.le_of_ble_eq_true rfl⟩
set_option maxHeartbeats 4000000 in
theorem sp_entries (l : Launch) (hlt : l.stackTraces = false) {D : va_G} {Y : Nat → ClassId} {F : Nat → Prop} {t0 la x na o : Nat} {A : Nat → Nat} (pl : Int32) : SpH l D Y F t0 la x na o A yL_entries wsL_entries yX3_entries wsX3_entries [.int pl] false := by
  intro ju mi lo rs H w0 hC hFr hoF hO
  have hok := hC.ok
  have hC0 := hC
  obtain ⟨ea, cap, mod, es, nt, L, hA, rfl⟩ := hC0.rd
  have hX := hA.1
  have hln : (RS L).length = L.length := RS_len L
  cases hp : plI pl (RS L).length with
  | true =>
    obtain ⟨i, hi, rfl⟩ := plI_inv hp hok.1
    refine ⟨0, _, _, _, _, _, _, _, _, _, _, ?_, stp_ret hoF (hu_entries l (rdu hC (k_X2_entries l hA (i := i) (by omega))) hO hoF hX), fun th f bf ca bg sz hf => k_X3_entries l hf hi, fun _ => rfl⟩
    exact ⟨by decide, Nat.le_of_ble_eq_true rfl, Nat.le_of_ble_eq_true rfl, Nat.le_of_ble_eq_true rfl, Nat.le_of_ble_eq_true rfl⟩
  | false =>
    refine ⟨1, _, 0, _, _, _, _, _, _, _, _, ?_, stp_th (by decide) hC hO (ht_entries1 l (k_X2_entries_x l hlt hA (by rw [← hln]; exact hp)) hX), fun th f bf ca bg sz hf => k_X3_entries_x l hf hp, fun z => absurd z (by decide)⟩
    exact ⟨by decide, Nat.le_of_ble_eq_true rfl, Nat.le_of_ble_eq_true rfl, Nat.le_of_ble_eq_true rfl, Nat.le_of_ble_eq_true rfl⟩
set_option maxHeartbeats 4000000 in
theorem sp_overlap (l : Launch) (hlt : l.stackTraces = false) {D : va_G} {Y : Nat → ClassId} {F : Nat → Prop} {t0 la x na o : Nat} {A : Nat → Nat} (pl p2 : Int32) : SpH l D Y F t0 la x na o A yL_overlap wsL_overlap yX3_overlap wsX3_overlap [.int pl, .int p2] false := by
  intro ju mi lo rs H w0 hC hFr hoF hO
  have hok := hC.ok
  have hC0 := hC
  obtain ⟨ea, cap, mod, es, nt, L, hA, rfl⟩ := hC0.rd
  have hX := hA.1
  have hln : (RS L).length = L.length := RS_len L
  cases hp : plI pl (RS L).length with
  | true =>
    obtain ⟨i, hi, rfl⟩ := plI_inv hp hok.1
    cases hp2 : plI p2 (RS L).length with
    | true =>
      obtain ⟨j, hj, rfl⟩ := plI_inv hp2 hok.1
      have hcp := cp_cm (hok.2 i hi) (hok.2 j hj)
      refine ⟨0, _, _, _, _, _, _, _, _, _, _, ?_, stp_ret hoF (hu_overlap l (rdu hC (k_X2_overlap l hA (i := i) (j := j) (by omega) (by omega))) hO hoF hX), fun th f bf ca bg sz hf => hcp ▸ k_X3_overlap l hf hi hj, fun _ => rfl⟩
      exact ⟨by decide, Nat.le_of_ble_eq_true rfl, Nat.le_of_ble_eq_true rfl, Nat.le_of_ble_eq_true rfl, Nat.le_of_ble_eq_true rfl⟩
    | false =>
      refine ⟨1, _, 0, _, _, _, _, _, _, _, _, ?_, stp_th (by decide) hC hO (ht_overlap1 l (k_X2_overlap_x2 l hlt hA (i := i) (by omega) (by rw [← hln]; exact hp2)) hX), fun th f bf ca bg sz hf => k_X3_overlap_x l hf (by rw [hp, hp2]; rfl), fun z => absurd z (by decide)⟩
      exact ⟨by decide, Nat.le_of_ble_eq_true rfl, Nat.le_of_ble_eq_true rfl, Nat.le_of_ble_eq_true rfl, Nat.le_of_ble_eq_true rfl⟩
  | false =>
    refine ⟨1, _, 0, _, _, _, _, _, _, _, _, ?_, stp_th (by decide) hC hO (ht_overlap1 l (k_X2_overlap_x1 l hlt hA (by rw [← hln]; exact hp)) hX), fun th f bf ca bg sz hf => k_X3_overlap_x l hf (by rw [hp]; rfl), fun z => absurd z (by decide)⟩
    exact ⟨by decide, Nat.le_of_ble_eq_true rfl, Nat.le_of_ble_eq_true rfl, Nat.le_of_ble_eq_true rfl, Nat.le_of_ble_eq_true rfl⟩
set_option maxHeartbeats 4000000 in
theorem sp_canMerge (l : Launch) (hlt : l.stackTraces = false) {D : va_G} {Y : Nat → ClassId} {F : Nat → Prop} {t0 la x na o : Nat} {A : Nat → Nat} (pl : Int32) : SpH l D Y F t0 la x na o A yL_canMerge wsL_canMerge yX3_canMerge wsX3_canMerge [.int pl] true := by
  intro ju mi lo rs H w0 hC hFr hoF hO
  have hok := hC.ok
  have hC0 := hC
  obtain ⟨ea, cap, mod, es, nt, L, hA, rfl⟩ := hC0.rd
  have hX := hA.1
  have hln : (RS L).length = L.length := RS_len L
  cases hp : inI pl (nI 0) (nI (RS L).length - nI 2) with
  | true =>
    obtain ⟨i, hi, rfl⟩ := cm_inv hok.1 hp
    have hmj := mj_mg (hok.2 i (by omega)) (hok.2 (i + 1) hi)
    refine ⟨0, _, _, _, _, _, _, _, _, _, _, ?_, stp_ret hoF (hu_canMerge l (rdu hC (k_X2_canMerge l hA (i := i) (by omega))) hO hoF hX), fun th f bf ca bg sz hf => hmj ▸ k_X3_canMerge l hf hi, fun _ => bL_bo _⟩
    exact ⟨by decide, Nat.le_of_ble_eq_true rfl, Nat.le_of_ble_eq_true rfl, Nat.le_of_ble_eq_true rfl, Nat.le_of_ble_eq_true rfl⟩
  | false =>
    refine ⟨1, _, 0, _, _, _, _, _, _, _, _, ?_, stp_th (by decide) hC hO (ht_canMerge1 l (k_X2_canMerge_x l hlt hA (by rw [← hln]; exact hp)) hX), fun th f bf ca bg sz hf => k_X3_canMerge_x l hf hp, fun z => absurd z (by decide)⟩
    exact ⟨by decide, Nat.le_of_ble_eq_true rfl, Nat.le_of_ble_eq_true rfl, Nat.le_of_ble_eq_true rfl, Nat.le_of_ble_eq_true rfl⟩
set_option maxHeartbeats 4000000 in
theorem sp_shadowedBy (l : Launch) (hlt : l.stackTraces = false) {D : va_G} {Y : Nat → ClassId} {F : Nat → Prop} {t0 la x na o : Nat} {A : Nat → Nat} (pl : Int32) : SpH l D Y F t0 la x na o A yL_shadowedBy wsL_shadowedBy yX3_shadowedBy wsX3_shadowedBy [.int pl] false := by
  intro ju mi lo rs H w0 hC hFr hoF hO
  have hok := hC.ok
  have hC0 := hC
  obtain ⟨ea, cap, mod, es, nt, L, hA, rfl⟩ := hC0.rd
  have hX := hA.1
  have hln : (RS L).length = L.length := RS_len L
  cases hp : plI pl (RS L).length with
  | true =>
    obtain ⟨i, hi, rfl⟩ := plI_inv hp hok.1
    have hcv : ∀ k, k < i → cvB (gt (RS L) k) (gt (RS L) i) = decide (cmN (gt (RS L) i) (gt (RS L) i) ≤ cmN (gt (RS L) k) (gt (RS L) i)) := fun k hk => cv_cm (hok.2 k (by omega)) (hok.2 i hi)
    by_cases hs : sbN (RS L) i = i
    · have hM : ∀ (th : Int32) (f bf ca bg sz : Nat → Int32), mrep (RS L) f → MuI l yX3_shadowedBy wsX3_shadowedBy 5 D Y [.ref (A 0), .int (nI i)] (wM Y A th (nI (RS L).length) mi ju lo f bf ca bg sz) (mdB D Y A (nI 2) mi ju lo (RS L)) (nI 0) := fun th f bf ca bg sz hf => by
        have h := k_X3_shadowedBy l (D := D) (Y := Y) (A := A) (th := th) (mi := mi) (ju := ju) (lo := lo) (bf := bf) (ca := ca) (bg := bg) (sz := sz) hf hi
        rw [if_pos hs, if_pos hs] at h
        exact h
      refine ⟨2, _, 0, _, _, _, _, _, _, _, _, ?_, stp_th (by decide) hC hO (ht_shadowedBy2 l (k_X2_shadowedBy_n l hlt hA (i := i) (by omega) (fun k hk => by rw [hcv k hk]; exact fstN_not (P := fun k => decide (cmN (gt (RS L) i) (gt (RS L) i) ≤ cmN (gt (RS L) k) (gt (RS L) i))) i k (by unfold sbN at hs; omega) hk)) hX), fun th f bf ca bg sz hf => hM th f bf ca bg sz hf, fun z => absurd z (by decide)⟩
      exact ⟨by decide, Nat.le_of_ble_eq_true rfl, Nat.le_of_ble_eq_true rfl, Nat.le_of_ble_eq_true rfl, Nat.le_of_ble_eq_true rfl⟩
    · have hlt2 : sbN (RS L) i < i := by
        have : sbN (RS L) i ≤ i := fstN_le _ _
        omega
      have hM : ∀ (th : Int32) (f bf ca bg sz : Nat → Int32), mrep (RS L) f → MuI l yX3_shadowedBy wsX3_shadowedBy 5 D Y [.ref (A 0), .int (nI i)] (wM Y A th (nI (RS L).length) mi ju lo f bf ca bg sz) (mdB D Y A (nI 0) mi ju lo (RS L)) (nI (sbN (RS L) i)) := fun th f bf ca bg sz hf => by
        have h := k_X3_shadowedBy l (D := D) (Y := Y) (A := A) (th := th) (mi := mi) (ju := ju) (lo := lo) (bf := bf) (ca := ca) (bg := bg) (sz := sz) hf hi
        rw [if_neg hs, if_neg hs] at h
        exact h
      refine ⟨0, _, _, _, _, _, _, _, _, _, _, ?_, stp_ret hoF (hu_shadowedBy l (rdu hC (k_X2_shadowedBy l hA (i := i) (k0 := sbN (RS L) i) (by omega) hlt2 (by rw [hcv _ hlt2]; exact fstN_hit (P := fun k => decide (cmN (gt (RS L) i) (gt (RS L) i) ≤ cmN (gt (RS L) k) (gt (RS L) i))) i hlt2) (fun k hk => by rw [hcv k (by omega)]; exact fstN_not (P := fun k => decide (cmN (gt (RS L) i) (gt (RS L) i) ≤ cmN (gt (RS L) k) (gt (RS L) i))) i k hk (by omega)))) hO hoF hX), fun th f bf ca bg sz hf => hM th f bf ca bg sz hf, fun _ => rfl⟩
      exact ⟨by decide, Nat.le_of_ble_eq_true rfl, Nat.le_of_ble_eq_true rfl, Nat.le_of_ble_eq_true rfl, Nat.le_of_ble_eq_true rfl⟩
  | false =>
    refine ⟨1, _, 0, _, _, _, _, _, _, _, _, ?_, stp_th (by decide) hC hO (ht_shadowedBy1 l (k_X2_shadowedBy_x l hlt hA (by rw [← hln]; exact hp)) hX), fun th f bf ca bg sz hf => k_X3_shadowedBy_x l hf hp, fun z => absurd z (by decide)⟩
    exact ⟨by decide, Nat.le_of_ble_eq_true rfl, Nat.le_of_ble_eq_true rfl, Nat.le_of_ble_eq_true rfl, Nat.le_of_ble_eq_true rfl⟩
set_option maxHeartbeats 4000000 in
theorem sp_decider (l : Launch) (hlt : l.stackTraces = false) {D : va_G} {Y : Nat → ClassId} {F : Nat → Prop} {t0 la x na o : Nat} {A : Nat → Nat} (a b q : Int32) : SpH l D Y F t0 la x na o A yL_decider wsL_decider yX3_decider wsX3_decider [.int a, .int b, .int q] false := by
  intro ju mi lo rs H w0 hC hFr hoF hO
  have hok := hC.ok
  have hC0 := hC
  obtain ⟨ea, cap, mod, es, nt, L, hA, rfl⟩ := hC0.rd
  have hX := hA.1
  have hln : (RS L).length = L.length := RS_len L
  cases hp : pkB a b q with
  | true =>
    obtain ⟨s0, d0, p0, hs, hd, hp0, rfl, rfl, rfl⟩ := pk_inv hp
    by_cases hf : fmN (RS L) s0 d0 p0 = (RS L).length
    · have hM : ∀ (th : Int32) (f bf ca bg sz : Nat → Int32), mrep (RS L) f → MuI l yX3_decider wsX3_decider 5 D Y [.ref (A 0), .int (nI s0), .int (nI d0), .int (nI p0)] (wM Y A th (nI (RS L).length) mi ju lo f bf ca bg sz) (mdB D Y A (nI 2) mi ju lo (RS L)) (nI 0) := fun th f bf ca bg sz hf9 => by
        have h := k_X3_decider l (D := D) (Y := Y) (A := A) (th := th) (mi := mi) (ju := ju) (lo := lo) (bf := bf) (ca := ca) (bg := bg) (sz := sz) hf9 hs hd hp0
        rw [if_pos hf, if_pos hf] at h
        exact h
      refine ⟨2, _, 0, _, _, _, _, _, _, _, _, ?_, stp_th (by decide) hC hO (ht_decider2 l (k_X2_decider_n l hlt hA hs hd hp0 (by rw [hf, hln])) hX), fun th f bf ca bg sz hf9 => hM th f bf ca bg sz hf9, fun z => absurd z (by decide)⟩
      exact ⟨by decide, Nat.le_of_ble_eq_true rfl, Nat.le_of_ble_eq_true rfl, Nat.le_of_ble_eq_true rfl, Nat.le_of_ble_eq_true rfl⟩
    · have hlt2 : fmN (RS L) s0 d0 p0 < L.length := by
        have := fmN_le (RS L) s0 d0 p0
        omega
      have hM : ∀ (th : Int32) (f bf ca bg sz : Nat → Int32), mrep (RS L) f → MuI l yX3_decider wsX3_decider 5 D Y [.ref (A 0), .int (nI s0), .int (nI d0), .int (nI p0)] (wM Y A th (nI (RS L).length) mi ju lo f bf ca bg sz) (mdB D Y A (nI 0) mi ju lo (RS L)) (nI (fmN (RS L) s0 d0 p0)) := fun th f bf ca bg sz hf9 => by
        have h := k_X3_decider l (D := D) (Y := Y) (A := A) (th := th) (mi := mi) (ju := ju) (lo := lo) (bf := bf) (ca := ca) (bg := bg) (sz := sz) hf9 hs hd hp0
        rw [if_neg hf, if_neg hf] at h
        exact h
      refine ⟨0, _, _, _, _, _, _, _, _, _, _, ?_, stp_ret hoF (hu_decider l (rdu hC (k_X2_decider l hA hs hd hp0 hlt2)) hO hoF hX), fun th f bf ca bg sz hf9 => hM th f bf ca bg sz hf9, fun _ => rfl⟩
      exact ⟨by decide, Nat.le_of_ble_eq_true rfl, Nat.le_of_ble_eq_true rfl, Nat.le_of_ble_eq_true rfl, Nat.le_of_ble_eq_true rfl⟩
  | false =>
    refine ⟨1, _, 0, _, _, _, _, _, _, _, _, ?_, stp_th (by decide) hC hO (ht_decider1 l (k_X2_decider_x l hlt hA hp) hX), fun th f bf ca bg sz hf => k_X3_decider_x l hf hp, fun z => absurd z (by decide)⟩
    exact ⟨by decide, Nat.le_of_ble_eq_true rfl, Nat.le_of_ble_eq_true rfl, Nat.le_of_ble_eq_true rfl, Nat.le_of_ble_eq_true rfl⟩
set_option maxHeartbeats 4000000 in
theorem sp_entryValue (l : Launch) (hlt : l.stackTraces = false) {D : va_G} {Y : Nat → ClassId} {F : Nat → Prop} {t0 la x na o : Nat} {A : Nat → Nat} (pl en : Int32) : SpH l D Y F t0 la x na o A yL_entryValue wsL_entryValue yX3_entryValue wsX3_entryValue [.int pl, .int en] false := by
  intro ju mi lo rs H w0 hC hFr hoF hO
  have hok := hC.ok
  have hC0 := hC
  obtain ⟨ea, cap, mod, es, nt, L, hA, rfl⟩ := hC0.rd
  have hX := hA.1
  have hln : (RS L).length = L.length := RS_len L
  cases hp : plI pl (RS L).length with
  | true =>
    obtain ⟨i, hi, rfl⟩ := plI_inv hp hok.1
    cases hp2 : inI en (nI 0) (nI (enN (gt (RS L) i)) - nI 1) with
    | true =>
      obtain ⟨e0, he, rfl⟩ := en_inv (enN_le (hok.2 i hi)) hp2
      refine ⟨0, _, _, _, _, _, _, _, _, _, _, ?_, stp_ret hoF (hu_entryValue l (rdu hC (k_X2_entryValue l hA (i := i) (by omega) he)) hO hoF hX), fun th f bf ca bg sz hf => k_X3_entryValue l hf hi he, fun _ => rfl⟩
      exact ⟨by decide, Nat.le_of_ble_eq_true rfl, Nat.le_of_ble_eq_true rfl, Nat.le_of_ble_eq_true rfl, Nat.le_of_ble_eq_true rfl⟩
    | false =>
      refine ⟨1, _, 0, _, _, _, _, _, _, _, _, ?_, stp_th (by decide) hC hO (ht_entryValue1 l (k_X2_entryValue_xe l hlt hA (i := i) (by omega) hp2) hX), fun th f bf ca bg sz hf => k_X3_entryValue_xe l hf hi hp2, fun z => absurd z (by decide)⟩
      exact ⟨by decide, Nat.le_of_ble_eq_true rfl, Nat.le_of_ble_eq_true rfl, Nat.le_of_ble_eq_true rfl, Nat.le_of_ble_eq_true rfl⟩
  | false =>
    refine ⟨1, _, 0, _, _, _, _, _, _, _, _, ?_, stp_th (by decide) hC hO (ht_entryValue1 l (k_X2_entryValue_xp l hlt hA (by rw [← hln]; exact hp)) hX), fun th f bf ca bg sz hf => k_X3_entryValue_xp l hf hp, fun z => absurd z (by decide)⟩
    exact ⟨by decide, Nat.le_of_ble_eq_true rfl, Nat.le_of_ble_eq_true rfl, Nat.le_of_ble_eq_true rfl, Nat.le_of_ble_eq_true rfl⟩
set_option maxHeartbeats 4000000 in
theorem sp_entryMask (l : Launch) (hlt : l.stackTraces = false) {D : va_G} {Y : Nat → ClassId} {F : Nat → Prop} {t0 la x na o : Nat} {A : Nat → Nat} (pl en : Int32) : SpH l D Y F t0 la x na o A yL_entryMask wsL_entryMask yX3_entryMask wsX3_entryMask [.int pl, .int en] false := by
  intro ju mi lo rs H w0 hC hFr hoF hO
  have hok := hC.ok
  have hC0 := hC
  obtain ⟨ea, cap, mod, es, nt, L, hA, rfl⟩ := hC0.rd
  have hX := hA.1
  have hln : (RS L).length = L.length := RS_len L
  cases hp : plI pl (RS L).length with
  | true =>
    obtain ⟨i, hi, rfl⟩ := plI_inv hp hok.1
    cases hp2 : inI en (nI 0) (nI (enN (gt (RS L) i)) - nI 1) with
    | true =>
      obtain ⟨e0, he, rfl⟩ := en_inv (enN_le (hok.2 i hi)) hp2
      refine ⟨0, _, _, _, _, _, _, _, _, _, _, ?_, stp_ret hoF (hu_entryMask l (rdu hC (k_X2_entryMask l hA (i := i) (by omega) he)) hO hoF hX), fun th f bf ca bg sz hf => k_X3_entryMask l hf hi he, fun _ => rfl⟩
      exact ⟨by decide, Nat.le_of_ble_eq_true rfl, Nat.le_of_ble_eq_true rfl, Nat.le_of_ble_eq_true rfl, Nat.le_of_ble_eq_true rfl⟩
    | false =>
      refine ⟨1, _, 0, _, _, _, _, _, _, _, _, ?_, stp_th (by decide) hC hO (ht_entryMask1 l (k_X2_entryMask_xe l hlt hA (i := i) (by omega) hp2) hX), fun th f bf ca bg sz hf => k_X3_entryMask_xe l hf hi hp2, fun z => absurd z (by decide)⟩
      exact ⟨by decide, Nat.le_of_ble_eq_true rfl, Nat.le_of_ble_eq_true rfl, Nat.le_of_ble_eq_true rfl, Nat.le_of_ble_eq_true rfl⟩
  | false =>
    refine ⟨1, _, 0, _, _, _, _, _, _, _, _, ?_, stp_th (by decide) hC hO (ht_entryMask1 l (k_X2_entryMask_xp l hlt hA (by rw [← hln]; exact hp)) hX), fun th f bf ca bg sz hf => k_X3_entryMask_xp l hf hp, fun z => absurd z (by decide)⟩
    exact ⟨by decide, Nat.le_of_ble_eq_true rfl, Nat.le_of_ble_eq_true rfl, Nat.le_of_ble_eq_true rfl, Nat.le_of_ble_eq_true rfl⟩
set_option maxHeartbeats 4000000 in
theorem sp_remove (l : Launch) (hlt : l.stackTraces = false) {D : va_G} {Y : Nat → ClassId} {F : Nat → Prop} {t0 la x na o : Nat} {A : Nat → Nat} (pl : Int32) : SpH l D Y F t0 la x na o A yL_remove wsL_remove yX3_remove wsX3_remove [.int pl] false := by
  intro ju mi lo rs H w0 hC hFr hoF hO
  have hok := hC.ok
  have hC0 := hC
  obtain ⟨ea, cap, mod, es, nt, L, hA, rfl⟩ := hC0.rd
  have hX := hA.1
  have hln : (RS L).length = L.length := RS_len L
  cases hp : plI pl (RS L).length with
  | true =>
    obtain ⟨i, hi, rfl⟩ := plI_inv hp hok.1
    rcases hC with ⟨ea, cap, hcap, mod, es, nt, L2, P, e2, hq, hP, hD⟩ | ⟨e2, mod, nt, hP, hD⟩
    rotate_left
    · rw [e2] at hi
      exact absurd hi (Nat.not_lt_zero _)
    have hX := (rdA_of hP hq).1
    have hl2 : L2.length = (RS L).length := by rw [← e2, RS_len]
    have hU := ucu (t0 := t0) (E' := eL t0 F (fun q => F q ∨ q = o)) (k_X2_remove l hP hD hq (i := i) (by omega)) (fun _ _ => trivial) (fun H2 z => CS.cap hcap z)
    rw [e2] at hU
    refine ⟨0, _, _, _, _, _, _, _, _, _, _, ?_, stp_ret hoF (hu_remove l hU hO hoF hX), fun th f bf ca bg sz hf => k_X3_remove l hf hi, fun _ => rfl⟩
    exact ⟨by decide, Nat.le_of_ble_eq_true rfl, Nat.le_of_ble_eq_true rfl, Nat.le_of_ble_eq_true rfl, Nat.le_of_ble_eq_true rfl⟩
  | false =>
    refine ⟨1, _, 0, _, _, _, _, _, _, _, _, ?_, stp_th (by decide) hC hO (ht_remove1 l (k_X2_remove_x l hlt hA (by rw [← hln]; exact hp)) hX), fun th f bf ca bg sz hf => k_X3_remove_x l hf hp, fun z => absurd z (by decide)⟩
    exact ⟨by decide, Nat.le_of_ble_eq_true rfl, Nat.le_of_ble_eq_true rfl, Nat.le_of_ble_eq_true rfl, Nat.le_of_ble_eq_true rfl⟩
set_option maxHeartbeats 4000000 in
theorem sp_move (l : Launch) (hlt : l.stackTraces = false) {D : va_G} {Y : Nat → ClassId} {F : Nat → Prop} {t0 la x na o : Nat} {A : Nat → Nat} (pl p2 : Int32) : SpH l D Y F t0 la x na o A yL_move wsL_move yX3_move wsX3_move [.int pl, .int p2] false := by
  intro ju mi lo rs H w0 hC hFr hoF hO
  have hok := hC.ok
  have hC0 := hC
  obtain ⟨ea, cap, mod, es, nt, L, hA, rfl⟩ := hC0.rd
  have hX := hA.1
  have hln : (RS L).length = L.length := RS_len L
  cases hp : plI pl (RS L).length with
  | true =>
    obtain ⟨i, hi, rfl⟩ := plI_inv hp hok.1
    cases hp2 : plI p2 (RS L).length with
    | true =>
      obtain ⟨j, hj, rfl⟩ := plI_inv hp2 hok.1
      rcases hC with ⟨ea, cap, hcap, mod, es, nt, L2, P, e2, hq, hP, hD⟩ | ⟨e2, mod, nt, hP, hD⟩
      rotate_left
      · rw [e2] at hi
        exact absurd hi (Nat.not_lt_zero _)
      have hX := (rdA_of hP hq).1
      have hl2 : L2.length = (RS L).length := by rw [← e2, RS_len]
      have hU := ucu (t0 := t0) (E' := eL t0 F (fun q => F q ∨ q = o)) (k_X2_move l hP hD hq (i := i) (j := j) (by omega) (by omega)) (fun _ _ => trivial) (fun H2 z => CS.cap hcap z)
      rw [e2] at hU
      refine ⟨0, _, _, _, _, _, _, _, _, _, _, ?_, stp_ret hoF (hu_move l hU hO hoF hX), fun th f bf ca bg sz hf => k_X3_move l hf hi hj, fun _ => rfl⟩
      exact ⟨by decide, Nat.le_of_ble_eq_true rfl, Nat.le_of_ble_eq_true rfl, Nat.le_of_ble_eq_true rfl, Nat.le_of_ble_eq_true rfl⟩
    | false =>
      refine ⟨1, _, 0, _, _, _, _, _, _, _, _, ?_, stp_th (by decide) hC hO (ht_move1 l (k_X2_move_x2 l hlt hA (i := i) (by omega) (by rw [← hln]; exact hp2)) hX), fun th f bf ca bg sz hf => k_X3_move_x l hf (by rw [hp, hp2]; rfl), fun z => absurd z (by decide)⟩
      exact ⟨by decide, Nat.le_of_ble_eq_true rfl, Nat.le_of_ble_eq_true rfl, Nat.le_of_ble_eq_true rfl, Nat.le_of_ble_eq_true rfl⟩
  | false =>
    refine ⟨1, _, 0, _, _, _, _, _, _, _, _, ?_, stp_th (by decide) hC hO (ht_move1 l (k_X2_move_x1 l hlt hA (by rw [← hln]; exact hp)) hX), fun th f bf ca bg sz hf => k_X3_move_x l hf (by rw [hp]; rfl), fun z => absurd z (by decide)⟩
    exact ⟨by decide, Nat.le_of_ble_eq_true rfl, Nat.le_of_ble_eq_true rfl, Nat.le_of_ble_eq_true rfl, Nat.le_of_ble_eq_true rfl⟩
set_option maxHeartbeats 4000000 in
theorem sp_judge (l : Launch) (hlt : l.stackTraces = false) {D : va_G} {Y : Nat → ClassId} {F : Nat → Prop} {t0 la x na o : Nat} {A : Nat → Nat} (a b q : Int32) : SpH l D Y F t0 la x na o A yL_judge wsL_judge yX3_judge wsX3_judge [.int a, .int b, .int q] true := by
  intro ju mi lo rs H w0 hC hFr hoF hO
  have hok := hC.ok
  have hC0 := hC
  obtain ⟨ea, cap, mod, es, nt, L, hA, rfl⟩ := hC0.rd
  have hX := hA.1
  have hln : (RS L).length = L.length := RS_len L
  cases hp : pkB a b q with
  | true =>
    obtain ⟨s0, d0, p0, hs, hd, hp0, rfl, rfl, rfl⟩ := pk_inv hp
    rcases hC with ⟨ea, cap, hcap, mod, es, nt, L2, P, e2, hq, hP, hD⟩ | ⟨e2, mod, nt, hP, hD⟩
    · have hX := (rdA_of hP hq).1
      have hl2 : L2.length = (RS L).length := by rw [← e2, RS_len]
      by_cases hm : fmN (RS L) s0 d0 p0 = (RS L).length
      · have hU := ucu (t0 := t0) (E' := eL t0 F (fun q => F q ∨ q = o)) (k_X2_judge_m l hP hD hq hs hd hp0 (by rw [e2, hm, hl2])) (fun _ _ => trivial) (fun H2 z => CS.cap hcap z)
        rw [e2, hl2] at hU
        refine ⟨0, _, _, _, _, _, _, _, _, _, _, ?_, stp_ret hoF (hu_judge l (r := false) hU hO hoF hX), fun th f bf ca bg sz hf => k_X3_judge_m l hf hs hd hp0 hm, fun _ => by decide⟩
        exact ⟨by decide, Nat.le_of_ble_eq_true rfl, Nat.le_of_ble_eq_true rfl, Nat.le_of_ble_eq_true rfl, Nat.le_of_ble_eq_true rfl⟩
      · have hk : fmN (RS L) s0 d0 p0 < (RS L).length := by
          have := fmN_le (RS L) s0 d0 p0
          omega
        have hU := ucu (t0 := t0) (E' := eL t0 F (fun q => F q ∨ q = o)) (k_X2_judge_h l hP hD hq hs hd hp0 (k := fmN (RS L) s0 d0 p0) (by omega) (by rw [e2])) (fun _ _ => trivial) (fun H2 z => CS.cap hcap z)
        rw [e2] at hU
        refine ⟨0, _, _, _, _, _, _, _, _, _, _, ?_, stp_ret hoF (hu_judge l hU hO hoF hX), fun th f bf ca bg sz hf => k_X3_judge_h l hf hs hd hp0 hk rfl, fun _ => bL_bo _⟩
        exact ⟨by decide, Nat.le_of_ble_eq_true rfl, Nat.le_of_ble_eq_true rfl, Nat.le_of_ble_eq_true rfl, Nat.le_of_ble_eq_true rfl⟩
    · have hX := (rdA0 (es := fun _ => none) hP).1
      have hU := ucu (t0 := t0) (E' := eL t0 F (fun q => F q ∨ q = o)) (rs := RS L) (k_X2_judge_0 l hP hD hs hd hp0) (fun _ _ => trivial) (fun H2 z => Or.inr ⟨e2, mod, nt, z, va_D.same hD rfl⟩)
      have hn0 : (RS L).length = 0 := by rw [e2]; rfl
      have hU : UC l yX2_judge wsX2_judge 5 0 0 D Y (eL t0 F (fun q => F q ∨ q = o)) [.ref x, .int (nI s0), .int (nI d0), .int (nI p0)] H F (bI_ (bI false) (CS D Y F t0 la x na (ju + nI 1) (mi + nI 1) (lo + nI (RS L).length) (RS L))) := by rw [hn0]; exact hU
      refine ⟨0, _, _, _, _, _, _, _, _, _, _, ?_, stp_ret hoF (hu_judge l (r := false) hU hO hoF hX), fun th f bf ca bg sz hf => k_X3_judge_m l hf hs hd hp0 (by have := fmN_le (RS L) s0 d0 p0; omega), fun _ => by decide⟩
      exact ⟨by decide, Nat.le_of_ble_eq_true rfl, Nat.le_of_ble_eq_true rfl, Nat.le_of_ble_eq_true rfl, Nat.le_of_ble_eq_true rfl⟩
  | false =>
    refine ⟨1, _, 0, _, _, _, _, _, _, _, _, ?_, stp_th (by decide) hC hO (ht_judge1 l (k_X2_judge_x l hlt hA hp) hX), fun th f bf ca bg sz hf => k_X3_judge_x l hf hp, fun z => absurd z (by decide)⟩
    exact ⟨by decide, Nat.le_of_ble_eq_true rfl, Nat.le_of_ble_eq_true rfl, Nat.le_of_ble_eq_true rfl, Nat.le_of_ble_eq_true rfl⟩
set_option maxHeartbeats 4000000 in
theorem sp_add (l : Launch) (hlt : l.stackTraces = false) {D : va_G} {Y : Nat → ClassId} {F : Nat → Prop} {t0 la x na o : Nat} {A : Nat → Nat} (a b c0 d0 q0 : Int32) (pm : Bool) : SpH l D Y F t0 la x na o A yL_add wsL_add yX3_add wsX3_add [.int a, .int b, .int c0, .int d0, .int q0, .int (bI pm)] false := by
  intro ju mi lo rs H w0 hC hFr hoF hO
  have hok := hC.ok
  have hC0 := hC
  obtain ⟨ea, cap, mod, es, nt, L, hA, rfl⟩ := hC0.rd
  have hX := hA.1
  have hln : (RS L).length = L.length := RS_len L
  cases hp : (rgB a b && rgB c0 d0 && inI q0 (nI 1) (nI 15)) with
  | true =>
    have hq3 := hp
    rw [Bool.and_eq_true, Bool.and_eq_true] at hq3
    obtain ⟨a, b, h1, h2, rfl, rfl⟩ := rg_inv hq3.1.1
    obtain ⟨c0, d0, h3, h4, rfl, rfl⟩ := rg_inv hq3.1.2
    obtain ⟨q0, h5, h6, rfl⟩ := pr_inv hq3.2
    have hr : rvOk (a, b, c0, d0, q0, pm, 0) := ⟨h1, h2, h3, h4, h5, h6⟩
    have hEz : ∀ U, eL t0 F (fun q => F q ∨ q = o) U → eZ t0 F U := fun U z => z.1
    by_cases h16 : (RS L).length = 16
    · have hM : ∀ (th : Int32) (f bf ca bg sz : Nat → Int32), mrep (RS L) f → MuI l yX3_add wsX3_add 3 D Y [.ref (A 0), .int (nI a), .int (nI b), .int (nI c0), .int (nI d0), .int (nI q0), .int (bI pm)] (wM Y A th (nI (RS L).length) mi ju lo f bf ca bg sz) (mdB D Y A (nI 2) mi ju lo (RS L)) (nI 0) := fun th f bf ca bg sz hf => k_X3_add_x2 l hf hr h16
      refine ⟨2, _, 0, _, _, _, _, _, _, _, _, ?_, stp_th (by decide) hC hO (ht_add2 l (k_X2_add_x2 l hlt hA hp (by omega)) hX), fun th f bf ca bg sz hf => hM th f bf ca bg sz hf, fun z => absurd z (by decide)⟩
      exact ⟨by decide, Nat.le_of_ble_eq_true rfl, Nat.le_of_ble_eq_true rfl, Nat.le_of_ble_eq_true rfl, Nat.le_of_ble_eq_true rfl⟩
    · have h15 : (RS L).length ≤ 15 := by
        have := hok.1
        omega
      have hU : UC l yX2_add wsX2_add 7 4 75 D Y (eL t0 F (fun q => F q ∨ q = o)) [.ref x, .int (nI a), .int (nI b), .int (nI c0), .int (nI d0), .int (nI q0), .int (bI pm)] H F (bI_ (nI (RS L).length) (CS D Y F t0 la x na ju mi lo (RS L ++ [(a, b, c0, d0, q0, pm, 0)]))) := by
        rcases hC with ⟨ea, cap, hcap, mod, es, nt, L2, P, e2, hq, hP, hD⟩ | ⟨e2, mod, nt, hP, hD⟩
        · have hl2 : L2.length = (RS L).length := by rw [← e2, RS_len]
          rcases Nat.lt_or_ge L2.length cap with hc | hc
          · have hU := ucu (t0 := t0) (E' := eL t0 F (fun q => F q ∨ q = o)) (k_X2_add_r l hP hD hFr hq hc (by omega) hr) (fun _ _ => trivial) (fun H2 z => CS.add z)
            rw [e2, hl2] at hU
            exact hU
          · have hc2 : cap = L2.length := by
              have := hq.2.2.1
              omega
            subst hc2
            have hU := ucu (t0 := t0) (E' := eL t0 F (fun q => F q ∨ q = o)) (k_X2_add_f l hP hD hFr hq hcap (by omega) hr) (fun _ _ => trivial) (fun H2 z => CS.add z)
            rw [e2, hl2] at hU
            exact hU
        · have hU := ucu (t0 := t0) (k_X2_add_z l hP hD hFr hr) hEz (fun H2 z => CS.add z)
          rw [e2]
          exact hU
      refine ⟨0, _, _, _, _, _, _, _, _, _, _, ?_, stp_ret hoF (hu_add l hU hO hoF hX), fun th f bf ca bg sz hf => k_X3_add l hf hr h15, fun _ => rfl⟩
      exact ⟨by decide, Nat.le_of_ble_eq_true rfl, Nat.le_of_ble_eq_true rfl, Nat.le_of_ble_eq_true rfl, Nat.le_of_ble_eq_true rfl⟩
  | false =>
    refine ⟨1, _, 0, _, _, _, _, _, _, _, _, ?_, stp_th (by decide) hC hO (ht_add1 l (k_X2_add_x1 l hlt hA hp) hX), fun th f bf ca bg sz hf => k_X3_add_x1 l hf hp, fun z => absurd z (by decide)⟩
    exact ⟨by decide, Nat.le_of_ble_eq_true rfl, Nat.le_of_ble_eq_true rfl, Nat.le_of_ble_eq_true rfl, Nat.le_of_ble_eq_true rfl⟩
set_option maxHeartbeats 4000000 in
theorem sp_rules (l : Launch) {D : va_G} {Y : Nat → ClassId} {F : Nat → Prop} {t0 la x na : Nat} {A : Nat → Nat} : SpD l D Y F t0 la x na A yX2_rules wsX2_rules yX3_rules wsX3_rules := by
  intro ju mi lo rs H hC hFr
  have hok := hC.ok
  have hC0 := hC
  obtain ⟨ea, cap, mod, es, nt, L, hA, rfl⟩ := hC0.rd
  have hln : (RS L).length = L.length := RS_len L
  have hU := rdu (E := eT) (F := F) hC (k_X2_rules l hA)
  rw [← hln] at hU
  refine ⟨_, _, _, _, _, _, ?_, hU, fun th f bf ca bg sz hf => k_X3_rules l hf⟩
  exact ⟨Nat.le_of_ble_eq_true rfl, Nat.le_of_ble_eq_true rfl, Nat.le_of_ble_eq_true rfl, Nat.le_of_ble_eq_true rfl⟩
set_option maxHeartbeats 4000000 in
theorem sp_misses (l : Launch) {D : va_G} {Y : Nat → ClassId} {F : Nat → Prop} {t0 la x na : Nat} {A : Nat → Nat} : SpD l D Y F t0 la x na A yX2_misses wsX2_misses yX3_misses wsX3_misses := by
  intro ju mi lo rs H hC hFr
  have hok := hC.ok
  have hC0 := hC
  obtain ⟨ea, cap, mod, es, nt, L, hA, rfl⟩ := hC0.rd
  have hln : (RS L).length = L.length := RS_len L
  have hU := rdu (E := eT) (F := F) hC (k_X2_misses l hA)
  refine ⟨_, _, _, _, _, _, ?_, hU, fun th f bf ca bg sz hf => k_X3_misses l hf⟩
  exact ⟨Nat.le_of_ble_eq_true rfl, Nat.le_of_ble_eq_true rfl, Nat.le_of_ble_eq_true rfl, Nat.le_of_ble_eq_true rfl⟩
set_option maxHeartbeats 4000000 in
theorem sp_permitted (l : Launch) {D : va_G} {Y : Nat → ClassId} {F : Nat → Prop} {t0 la x na : Nat} {A : Nat → Nat} : SpD l D Y F t0 la x na A yX2_permitted wsX2_permitted yX3_permitted wsX3_permitted := by
  intro ju mi lo rs H hC hFr
  have hok := hC.ok
  have hC0 := hC
  obtain ⟨ea, cap, mod, es, nt, L, hA, rfl⟩ := hC0.rd
  have hln : (RS L).length = L.length := RS_len L
  have hU := rdu (E := eT) (F := F) hC (k_X2_permitted l hA)
  refine ⟨_, _, _, _, _, _, ?_, hU, fun th f bf ca bg sz hf => k_X3_permitted l hf⟩
  exact ⟨Nat.le_of_ble_eq_true rfl, Nat.le_of_ble_eq_true rfl, Nat.le_of_ble_eq_true rfl, Nat.le_of_ble_eq_true rfl⟩
set_option maxHeartbeats 4000000 in
theorem sp_allEntries (l : Launch) {D : va_G} {Y : Nat → ClassId} {F : Nat → Prop} {t0 la x na : Nat} {A : Nat → Nat} : SpD l D Y F t0 la x na A yX2_allEntries wsX2_allEntries yX3_allEntries wsX3_allEntries := by
  intro ju mi lo rs H hC hFr
  have hok := hC.ok
  have hC0 := hC
  obtain ⟨ea, cap, mod, es, nt, L, hA, rfl⟩ := hC0.rd
  have hln : (RS L).length = L.length := RS_len L
  have hU := rdu (E := eT) (F := F) hC (k_X2_allEntries l hA)
  rw [← hln] at hU
  refine ⟨_, _, _, _, _, _, ?_, hU, fun th f bf ca bg sz hf => k_X3_allEntries l hf⟩
  exact ⟨Nat.le_of_ble_eq_true rfl, Nat.le_of_ble_eq_true rfl, Nat.le_of_ble_eq_true rfl, Nat.le_of_ble_eq_true rfl⟩
set_option maxHeartbeats 4000000 in
theorem sp_shorten (l : Launch) {D : va_G} {Y : Nat → ClassId} {F : Nat → Prop} {t0 la x na : Nat} {A : Nat → Nat} : SpD l D Y F t0 la x na A yX2_shorten wsX2_shorten yX3_shorten wsX3_shorten := by
  intro ju mi lo rs H hC hFr
  have hok := hC.ok
  have hC0 := hC
  obtain ⟨ea, cap, mod, es, nt, L, hA, rfl⟩ := hC0.rd
  have hln : (RS L).length = L.length := RS_len L
  rcases hC with ⟨ea, cap, hcap, mod, es, nt, L2, P, e2, hq, hP, hD⟩ | ⟨e2, mod, nt, hP, hD⟩
  · have hl2 : L2.length = (RS L).length := by rw [← e2, RS_len]
    have hU := ucu (t0 := t0) (E' := eT) (k_X2_shorten l hP hD hFr hq) (fun _ _ => trivial) (fun H2 z => CS.cap hcap z)
    rw [e2, hl2] at hU
    refine ⟨_, _, _, _, _, _, ?_, hU, fun th f bf ca bg sz hf => k_X3_shorten l hf⟩
    exact ⟨Nat.le_of_ble_eq_true rfl, Nat.le_of_ble_eq_true rfl, Nat.le_of_ble_eq_true rfl, Nat.le_of_ble_eq_true rfl⟩
  · have hU : UC l yX2_shorten wsX2_shorten 5 0 0 D Y eT [.ref x] H F (bI_ (nI 0) (CS D Y F t0 la x na ju mi lo ([] : List RV))) := rdu (Or.inr ⟨rfl, mod, nt, hP, hD⟩) (k_X2_shorten_0 l (rdA0 (es := fun _ => none) hP) rfl)
    have h0 : (itS (RS L).length (RS L)) = (([] : List RV), 0) := by rw [e2]; rfl
    have hM : ∀ (th : Int32) (f bf ca bg sz : Nat → Int32), mrep (RS L) f → MuI l yX3_shorten wsX3_shorten 7 D Y [.ref (A 0)] (wM Y A th (nI (RS L).length) mi ju lo f bf ca bg sz) (mdB D Y A (nI 0) mi ju lo ([] : List RV)) (nI 0) := fun th f bf ca bg sz hf => by
      have h := k_X3_shorten l (D := D) (Y := Y) (A := A) (th := th) (mi := mi) (ju := ju) (lo := lo) (bf := bf) (ca := ca) (bg := bg) (sz := sz) hf
      rw [h0] at h
      exact h
    refine ⟨_, _, _, _, _, _, ?_, hU, hM⟩
    exact ⟨Nat.le_of_ble_eq_true rfl, Nat.le_of_ble_eq_true rfl, Nat.le_of_ble_eq_true rfl, Nat.le_of_ble_eq_true rfl⟩
set_option maxHeartbeats 4000000 in
theorem sp_sortByHits (l : Launch) {D : va_G} {Y : Nat → ClassId} {F : Nat → Prop} {t0 la x na : Nat} {A : Nat → Nat} : SpD l D Y F t0 la x na A yX2_sortByHits wsX2_sortByHits yX3_sortByHits wsX3_sortByHits := by
  intro ju mi lo rs H hC hFr
  have hok := hC.ok
  have hC0 := hC
  obtain ⟨ea, cap, mod, es, nt, L, hA, rfl⟩ := hC0.rd
  have hln : (RS L).length = L.length := RS_len L
  rcases hC with ⟨ea, cap, hcap, mod, es, nt, L2, P, e2, hq, hP, hD⟩ | ⟨e2, mod, nt, hP, hD⟩
  · have hl2 : L2.length = (RS L).length := by rw [← e2, RS_len]
    have hU := ucu (t0 := t0) (E' := eT) (k_X2_sortByHits l hP hD hq) (fun _ _ => trivial) (fun H2 z => CS.cap hcap z)
    rw [e2] at hU
    refine ⟨_, _, _, _, _, _, ?_, hU, fun th f bf ca bg sz hf => k_X3_sortByHits l hf⟩
    exact ⟨Nat.le_of_ble_eq_true rfl, Nat.le_of_ble_eq_true rfl, Nat.le_of_ble_eq_true rfl, Nat.le_of_ble_eq_true rfl⟩
  · have hU : UC l yX2_sortByHits wsX2_sortByHits 5 0 0 D Y eT [.ref x] H F (bI_ (nI 0) (CS D Y F t0 la x na ju mi lo ([] : List RV))) := rdu (Or.inr ⟨rfl, mod, nt, hP, hD⟩) (k_X2_sortByHits_0 l (rdA0 (es := fun _ => none) hP) rfl (rdA0 (es := fun _ => none) hP))
    have h0 : (sor (RS L)) = (([] : List RV), 0) := by rw [e2]; rfl
    have hM : ∀ (th : Int32) (f bf ca bg sz : Nat → Int32), mrep (RS L) f → MuI l yX3_sortByHits wsX3_sortByHits 5 D Y [.ref (A 0)] (wM Y A th (nI (RS L).length) mi ju lo f bf ca bg sz) (mdB D Y A (nI 0) mi ju lo ([] : List RV)) (nI 0) := fun th f bf ca bg sz hf => by
      have h := k_X3_sortByHits l (D := D) (Y := Y) (A := A) (th := th) (mi := mi) (ju := ju) (lo := lo) (bf := bf) (ca := ca) (bg := bg) (sz := sz) hf
      rw [h0] at h
      exact h
    refine ⟨_, _, _, _, _, _, ?_, hU, hM⟩
    exact ⟨Nat.le_of_ble_eq_true rfl, Nat.le_of_ble_eq_true rfl, Nat.le_of_ble_eq_true rfl, Nat.le_of_ble_eq_true rfl⟩
