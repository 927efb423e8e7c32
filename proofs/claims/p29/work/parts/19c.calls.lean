/-! what a call does to an object, whichever it is -/
def Cl (l : Launch) (y : MethodName) (ws : List Cond) (av : List Value) (ju mi lo : Int32) (rs : List RV) (r ju2 mi2 lo2 : Int32) (rs2 : List RV) : Prop :=
  ∀ (D : va_G) (Y : Nat → ClassId) (F : Nat → Prop) (t0 la x na : Nat) (H : Heap), CS D Y F t0 la x na ju mi lo rs H → (∀ q, H.size ≤ q → F q) → ∃ d mc ms : Nat, (d ≤ 12 ∧ mc ≤ 40 ∧ ms ≤ 120) ∧ UC l y ws d mc ms D Y (eL t0 F F) (.ref x :: av) H F (bI_ r (CS D Y F t0 la x na ju2 mi2 lo2 rs2))
theorem pl_iv {pl : Int32} {n : Nat} (h : plI pl n = true) (hn : n ≤ 16) : ∃ i, i < n ∧ pl = nI i := by
  unfold plI at h
  rw [i_iff, sub_iI hn (by decide), nI_toInt (by decide)] at h
  have h2 : ((1 : Nat) : Int) = 1 := rfl
  refine ⟨pl.toInt.toNat, by omega, Int32.toInt_inj.mp ?_⟩
  rw [nI_toInt (by omega)]
  omega
theorem nI_n9 {i : Nat} (hi : i < 2 ^ 31) : ¬ nI i = -99999 := fun z => by
  have h2 := nI_toInt (n := i) hi
  rw [z] at h2
  have h3 : (-99999 : Int32).toInt = -99999 := by decide +kernel
  omega
theorem bI_n9 (b : Bool) : ¬ bI b = -99999 := by cases b <;> decide
/-- how often was judged, how many rules were looked at -/
def JL (ju lo : Int32) (n : Nat) : Prop := ∃ J L : Nat, ju = nI J ∧ lo = nI L ∧ L ≤ 16 * J ∧ J ≤ n
theorem JL.up {ju lo : Int32} {n m : Nat} (h : JL ju lo n) (hm : n ≤ m) : JL ju lo m := by
  obtain ⟨J, L, h1, h2, h3, h4⟩ := h
  exact ⟨J, L, h1, h2, h3, Nat.le_trans h4 hm⟩
theorem JL.add {ju lo : Int32} {n k : Nat} (h : JL ju lo n) (hk : k ≤ 16) : JL (ju + nI 1) (lo + nI k) (n + 1) := by
  obtain ⟨J, L, rfl, rfl, h3, h4⟩ := h
  exact ⟨J + 1, L + k, nI_add _ _, nI_add _ _, by omega, by omega⟩
theorem cl_th {l : Launch} {y : MethodName} {ws : List Cond} {d mc ms : Nat} {D : va_G} {Y : Nat → ClassId} {F : Nat → Prop} {t0 la x na : Nat} {ju mi lo : Int32} {rs : List RV} {H : Heap} {av : List Value} {r : Int32} {E : State → Prop} (hC : CS D Y F t0 la x na ju mi lo rs H) (h : UC l y ws d mc ms D Y E av H F (bI_ r (Kp H))) : UC l y ws d mc ms D Y E av H F (bI_ r (CS D Y F t0 la x na ju mi lo rs)) :=
  UC.mono h (fun _ z => z) (fun v H1 z => ⟨z.1, hC.kp z.2⟩)
set_option maxHeartbeats 4000000 in
theorem cl_add (l : Launch) (hlt : l.stackTraces = false) (a b c0 d0 q0 : Int32) (pm : Bool) {ju mi lo : Int32} {rs : List RV} (hok : rsOk rs) : ∃ (r : Int32) (rs2 : List RV), (r = -99999 → rs2 = rs) ∧ Cl l yL_add wsL_add [.int a, .int b, .int c0, .int d0, .int q0, .int (bI pm)] ju mi lo rs r ju mi lo rs2 := by
  cases hp : (rgB a b && rgB c0 d0 && inI q0 (nI 1) (nI 15)) with
  | true =>
    have hq3 := hp
    rw [Bool.and_eq_true, Bool.and_eq_true] at hq3
    obtain ⟨a, b, h1, h2, rfl, rfl⟩ := rg_inv hq3.1.1
    obtain ⟨c0, d0, h3, h4, rfl, rfl⟩ := rg_inv hq3.1.2
    obtain ⟨q0, h5, h6, rfl⟩ := pr_inv hq3.2
    have hr : rvOk (a, b, c0, d0, q0, pm, 0) := ⟨h1, h2, h3, h4, h5, h6⟩
    by_cases h16 : rs.length = 16
    · refine ⟨-99999, rs, fun _ => rfl, fun D Y F t0 la x na H hC hFr => ⟨12, 40, 120, by decide, ?_⟩⟩
      obtain ⟨ea, cap, mod, es, nt, L, hA, rfl⟩ := hC.rd
      rw [RS_len] at h16
      exact cl_th hC (ht_add2 l (by decide) (k_X2_add_x2 l hlt hA hp (by omega)) hA.1)
    · have h15 : rs.length ≤ 15 := by
        have := hok.1
        omega
      refine ⟨nI rs.length, rs ++ [(a, b, c0, d0, q0, pm, 0)], fun z => absurd z (nI_n9 (by omega)), fun D Y F t0 la x na H hC hFr => ⟨12, 40, 120, by decide, ?_⟩⟩
      obtain ⟨fsx, hX⟩ := hC.hd.cell
      have hEz : ∀ U, eL t0 F F U → eZ t0 F U := fun U z => z.1
      have hU : UC l yX2_add wsX2_add 7 4 75 D Y (eL t0 F F) [.ref x, .int (nI a), .int (nI b), .int (nI c0), .int (nI d0), .int (nI q0), .int (bI pm)] H F (bI_ (nI rs.length) (CS D Y F t0 la x na ju mi lo (rs ++ [(a, b, c0, d0, q0, pm, 0)]))) := by
        rcases hC with ⟨ea, cap, hcap, mod, es, nt, L2, P, e2, hq, hP, hD⟩ | ⟨e2, mod, nt, hP, hD⟩
        · have hl2 : L2.length = rs.length := by rw [← e2, RS_len]
          rcases Nat.lt_or_ge L2.length cap with hc | hc
          · have hU := ucu (t0 := t0) (E' := eL t0 F F) (k_X2_add_r l hP hD hFr hq hc (by omega) hr) (fun _ _ => trivial) (fun H2 z => CS.add z)
            rw [e2, hl2] at hU
            exact hU
          · have hc2 : cap = L2.length := by
              have := hq.2.2.1
              omega
            subst hc2
            have hU := ucu (t0 := t0) (E' := eL t0 F F) (k_X2_add_f l hP hD hFr hq hcap (by omega) hr) (fun _ _ => trivial) (fun H2 z => CS.add z)
            rw [e2, hl2] at hU
            exact hU
        · have hU := ucu (t0 := t0) (k_X2_add_z l hP hD hFr hr) hEz (fun H2 z => CS.add z)
          rw [e2]
          exact hU
      exact hu_add l (by decide) (by decide) (by decide) hU hX
  | false =>
    refine ⟨-99999, rs, fun _ => rfl, fun D Y F t0 la x na H hC hFr => ⟨12, 40, 120, by decide, ?_⟩⟩
    obtain ⟨ea, cap, mod, es, nt, L, hA, rfl⟩ := hC.rd
    exact cl_th hC (ht_add1 l (by decide) (k_X2_add_x1 l hlt hA hp) hA.1)
set_option maxHeartbeats 4000000 in
theorem cl_judge (l : Launch) (hlt : l.stackTraces = false) (a b q : Int32) {ju mi lo : Int32} {rs : List RV} (hok : rsOk rs) : ∃ (r ju2 mi2 lo2 : Int32) (rs2 : List RV), (r = -99999 → ju2 = ju ∧ mi2 = mi ∧ lo2 = lo ∧ rs2 = rs) ∧ (∀ n, JL ju lo n → JL ju2 lo2 (n + 1)) ∧ Cl l yL_judge wsL_judge [.int a, .int b, .int q] ju mi lo rs r ju2 mi2 lo2 rs2 := by
  have hlen := hok.1
  cases hp : pkB a b q with
  | true =>
    obtain ⟨s0, d0, p0, hs, hd, hp0, rfl, rfl, rfl⟩ := pk_inv hp
    by_cases hm : fmN rs s0 d0 p0 = rs.length
    · refine ⟨bI false, ju + nI 1, mi + nI 1, lo + nI rs.length, rs, fun z => absurd z (bI_n9 _), fun n h => h.add hlen, fun D Y F t0 la x na H hC hFr => ⟨12, 40, 120, by decide, ?_⟩⟩
      obtain ⟨fsx, hX⟩ := hC.hd.cell
      rcases hC with ⟨ea, cap, hcap, mod, es, nt, L2, P, e2, hq, hP, hD⟩ | ⟨e2, mod, nt, hP, hD⟩
      · have hl2 : L2.length = rs.length := by rw [← e2, RS_len]
        have hU := ucu (t0 := t0) (E' := eL t0 F F) (k_X2_judge_m l hP hD hq hs hd hp0 (by rw [e2, hm, hl2])) (fun _ _ => trivial) (fun H2 z => CS.cap hcap z)
        rw [e2, hl2] at hU
        exact hu_judge l (r := false) (by decide) (by decide) (by decide) hU hX
      · have hU := ucu (t0 := t0) (E' := eL t0 F F) (rs := rs) (k_X2_judge_0 l hP hD hs hd hp0) (fun _ _ => trivial) (fun H2 z => Or.inr ⟨e2, mod, nt, z, va_D.same hD rfl⟩)
        have hn0 : rs.length = 0 := by rw [e2]; rfl
        have hU : UC l yX2_judge wsX2_judge 5 0 0 D Y (eL t0 F F) [.ref x, .int (nI s0), .int (nI d0), .int (nI p0)] H F (bI_ (bI false) (CS D Y F t0 la x na (ju + nI 1) (mi + nI 1) (lo + nI rs.length) rs)) := by rw [hn0]; exact hU
        exact hu_judge l (r := false) (by decide) (by decide) (by decide) hU hX
    · have hk : fmN rs s0 d0 p0 < rs.length := by
        have : fmN rs s0 d0 p0 ≤ rs.length := fstN_le _ _
        omega
      refine ⟨bI (pM (gt rs (fmN rs s0 d0 p0))), ju + nI 1, mi, lo + nI (fmN rs s0 d0 p0 + 1), rs.set (fmN rs s0 d0 p0) (hitV (gt rs (fmN rs s0 d0 p0))), fun z => absurd z (bI_n9 _), fun n h => h.add (by omega), fun D Y F t0 la x na H hC hFr => ⟨12, 40, 120, by decide, ?_⟩⟩
      obtain ⟨fsx, hX⟩ := hC.hd.cell
      rcases hC with ⟨ea, cap, hcap, mod, es, nt, L2, P, e2, hq, hP, hD⟩ | ⟨e2, mod, nt, hP, hD⟩
      · have hl2 : L2.length = rs.length := by rw [← e2, RS_len]
        have hU := ucu (t0 := t0) (E' := eL t0 F F) (k_X2_judge_h l hP hD hq hs hd hp0 (k := fmN rs s0 d0 p0) (by omega) (by rw [e2])) (fun _ _ => trivial) (fun H2 z => CS.cap hcap z)
        rw [e2] at hU
        exact hu_judge l (by decide) (by decide) (by decide) hU hX
      · rw [e2] at hk
        exact absurd hk (Nat.not_lt_zero _)
  | false =>
    refine ⟨-99999, ju, mi, lo, rs, fun _ => ⟨rfl, rfl, rfl, rfl⟩, fun n h => h.up (Nat.le_succ n), fun D Y F t0 la x na H hC hFr => ⟨12, 40, 120, by decide, ?_⟩⟩
    obtain ⟨ea, cap, mod, es, nt, L, hA, rfl⟩ := hC.rd
    exact cl_th hC (ht_judge1 l (by decide) (k_X2_judge_x l hlt hA hp) hA.1)
set_option maxHeartbeats 4000000 in
theorem cl_remove (l : Launch) (hlt : l.stackTraces = false) (pl p2 : Int32) {ju mi lo : Int32} {rs : List RV} (hok : rsOk rs) : ∃ (r : Int32) (rs2 : List RV), (r = -99999 → rs2 = rs) ∧ Cl l yL_tends wsL_tends [.int (nI 1), .int pl, .int p2] ju mi lo rs r ju mi lo rs2 := by
  cases hp : plI pl rs.length with
  | true =>
    obtain ⟨i, hi, rfl⟩ := pl_iv hp hok.1
    refine ⟨nI (chN rs (rs.eraseIdx i)), rs.eraseIdx i, fun z => absurd z (nI_n9 (Nat.lt_of_le_of_lt (chN_le _ _) (by decide))), fun D Y F t0 la x na H hC hFr => ⟨12, 40, 120, by decide, ?_⟩⟩
    obtain ⟨fsx, hX⟩ := hC.hd.cell
    rcases hC with ⟨ea, cap, hcap, mod, es, nt, L2, P, e2, hq, hP, hD⟩ | ⟨e2, mod, nt, hP, hD⟩
    · have hl2 : L2.length = rs.length := by rw [← e2, RS_len]
      have hU := ucu (t0 := t0) (E' := eL t0 F F) (k_X2_remove l hP hD hq (i := i) (by omega)) (fun _ _ => trivial) (fun H2 z => CS.cap hcap z)
      rw [e2] at hU
      exact hu_tendsR l (by decide) (by decide) (by decide) hU hX
    · rw [e2] at hi
      exact absurd hi (Nat.not_lt_zero _)
  | false =>
    refine ⟨-99999, rs, fun _ => rfl, fun D Y F t0 la x na H hC hFr => ⟨12, 40, 120, by decide, ?_⟩⟩
    obtain ⟨ea, cap, mod, es, nt, L, hA, rfl⟩ := hC.rd
    rw [RS_len] at hp
    exact cl_th hC (ht_tendsR1 l (by decide) (k_X2_remove_x l hlt hA hp) hA.1)
set_option maxHeartbeats 4000000 in
/-- move, in range -/
theorem cx_move (l : Launch) {i j : Nat} {D : va_G} {Y : Nat → ClassId} {F : Nat → Prop} {t0 la x na : Nat} {ju mi lo : Int32} {rs : List RV} {H : Heap} {E' : State → Prop} (hC : CS D Y F t0 la x na ju mi lo rs H) (hi : i < rs.length) (hj : j < rs.length) : UC l yX2_move wsX2_move 5 0 0 D Y E' [.ref x, .int (nI i), .int (nI j)] H F (bI_ (nI (chN rs (mvL rs i j))) (CS D Y F t0 la x na ju mi lo (mvL rs i j))) := by
  rcases hC with ⟨ea, cap, hcap, mod, es, nt, L2, P, e2, hq, hP, hD⟩ | ⟨e2, mod, nt, hP, hD⟩
  · have hl2 : L2.length = rs.length := by rw [← e2, RS_len]
    have hU := ucu (t0 := t0) (E' := E') (k_X2_move l hP hD hq (i := i) (j := j) (by omega) (by omega)) (fun _ _ => trivial) (fun H2 z => CS.cap hcap z)
    rw [e2] at hU
    exact hU
  · rw [e2] at hi
    exact absurd hi (Nat.not_lt_zero _)
set_option maxHeartbeats 4000000 in
theorem cl_move (l : Launch) (hlt : l.stackTraces = false) (pl p2 : Int32) {ju mi lo : Int32} {rs : List RV} (hok : rsOk rs) : ∃ (r : Int32) (rs2 : List RV), (r = -99999 → rs2 = rs) ∧ Cl l yL_tends wsL_tends [.int (nI 0), .int pl, .int p2] ju mi lo rs r ju mi lo rs2 := by
  cases hp : plI pl rs.length with
  | true =>
    obtain ⟨i, hi, rfl⟩ := pl_iv hp hok.1
    cases hp2 : plI p2 rs.length with
    | true =>
      obtain ⟨j, hj, rfl⟩ := pl_iv hp2 hok.1
      refine ⟨nI (chN rs (mvL rs i j)), mvL rs i j, fun z => absurd z (nI_n9 (Nat.lt_of_le_of_lt (chN_le _ _) (by decide))), fun D Y F t0 la x na H hC hFr => ⟨12, 40, 120, by decide, ?_⟩⟩
      obtain ⟨fsx, hX⟩ := hC.hd.cell
      exact hu_tendsM l (by decide) (by decide) (by decide) (cx_move l hC hi hj) hX
    | false =>
      refine ⟨-99999, rs, fun _ => rfl, fun D Y F t0 la x na H hC hFr => ⟨12, 40, 120, by decide, ?_⟩⟩
      obtain ⟨ea, cap, mod, es, nt, L, hA, rfl⟩ := hC.rd
      rw [RS_len] at hi hp2
      exact cl_th hC (ht_tendsM1 l (by decide) (k_X2_move_x2 l hlt hA (i := i) hi hp2) hA.1)
  | false =>
    refine ⟨-99999, rs, fun _ => rfl, fun D Y F t0 la x na H hC hFr => ⟨12, 40, 120, by decide, ?_⟩⟩
    obtain ⟨ea, cap, mod, es, nt, L, hA, rfl⟩ := hC.rd
    rw [RS_len] at hp
    exact cl_th hC (ht_tendsM1 l (by decide) (k_X2_move_x1 l hlt hA hp) hA.1)
set_option maxHeartbeats 4000000 in
theorem cl_shorten (l : Launch) (ju mi lo : Int32) (rs : List RV) : Cl l yX2_shorten wsX2_shorten [] ju mi lo rs (nI (itS rs.length rs).2) ju mi lo (itS rs.length rs).1 := by
  intro D Y F t0 la x na H hC hFr
  rcases hC with ⟨ea, cap, hcap, mod, es, nt, L2, P, e2, hq, hP, hD⟩ | ⟨e2, mod, nt, hP, hD⟩
  · have hl2 : L2.length = rs.length := by rw [← e2, RS_len]
    have hU := ucu (t0 := t0) (E' := eL t0 F F) (k_X2_shorten l hP hD hFr hq) (fun _ _ => trivial) (fun H2 z => CS.cap hcap z)
    rw [e2, hl2] at hU
    exact ⟨6, 32, 96, by decide, hU⟩
  · have hU : UC l yX2_shorten wsX2_shorten 5 0 0 D Y (eL t0 F F) [.ref x] H F (bI_ (nI 0) (CS D Y F t0 la x na ju mi lo ([] : List RV))) := rdu (Or.inr ⟨rfl, mod, nt, hP, hD⟩) (k_X2_shorten_0 l (rdA0 (es := fun _ => none) hP) rfl)
    rw [e2]
    exact ⟨5, 0, 0, by decide, hU⟩
set_option maxHeartbeats 4000000 in
theorem cl_sort (l : Launch) (ju mi lo : Int32) (rs : List RV) : Cl l yX2_sortByHits wsX2_sortByHits [] ju mi lo rs (nI (sor rs).2) ju mi lo (sor rs).1 := by
  intro D Y F t0 la x na H hC hFr
  rcases hC with ⟨ea, cap, hcap, mod, es, nt, L2, P, e2, hq, hP, hD⟩ | ⟨e2, mod, nt, hP, hD⟩
  · have hU := ucu (t0 := t0) (E' := eL t0 F F) (k_X2_sortByHits l hP hD hq) (fun _ _ => trivial) (fun H2 z => CS.cap hcap z)
    rw [e2] at hU
    exact ⟨5, 0, 0, by decide, hU⟩
  · have hU : UC l yX2_sortByHits wsX2_sortByHits 5 0 0 D Y (eL t0 F F) [.ref x] H F (bI_ (nI 0) (CS D Y F t0 la x na ju mi lo ([] : List RV))) := rdu (Or.inr ⟨rfl, mod, nt, hP, hD⟩) (k_X2_sortByHits_0 l (rdA0 (es := fun _ => none) hP) rfl (rdA0 (es := fun _ => none) hP))
    rw [e2]
    exact ⟨5, 0, 0, by decide, hU⟩
/-- who decides a packet: no rule, or the first that matches -/
def dcR (rs : List RV) (s d p : Nat) (r : Int32) : Prop := (r = -1 ∧ fmN rs s d p = rs.length) ∨ (r = nI (fmN rs s d p) ∧ fmN rs s d p < rs.length)
theorem cl_decider (l : Launch) (hlt : l.stackTraces = false) {rs : List RV} (s0 d0 p0 : Nat) (hs : s0 < 32) (hd : d0 < 32) (hp : p0 < 4) : ∃ r : Int32, dcR rs s0 d0 p0 r ∧ ∀ (D : va_G) (Y : Nat → ClassId) (F : Nat → Prop) (t0 x : Nat) (ju mi lo : Int32) (H : Heap), Hd D Y x ju mi lo rs H → UC l yL_decider wsL_decider 10 1 6 D Y (eL t0 F F) [.ref x, .int (nI s0), .int (nI d0), .int (nI p0)] H F (bI_ r (Kp H)) := by
  by_cases hm : fmN rs s0 d0 p0 = rs.length
  · refine ⟨-1, Or.inl ⟨rfl, hm⟩, fun D Y F t0 x ju mi lo H hH => ?_⟩
    obtain ⟨la, na, ea, cap, mod, es, nt, L, hA, rfl⟩ := hH
    exact ht_decider1 l (by decide) (k_X2_decider_n l hlt hA hs hd hp (by rw [hm, RS_len])) hA.1
  · have hk : fmN rs s0 d0 p0 < rs.length := by
      have : fmN rs s0 d0 p0 ≤ rs.length := fstN_le _ _
      omega
    refine ⟨_, Or.inr ⟨rfl, hk⟩, fun D Y F t0 x ju mi lo H hH => ?_⟩
    obtain ⟨la, na, ea, cap, mod, es, nt, L, hA, rfl⟩ := hH
    exact hu_decider l (dM := 4) (by decide) (Nat.zero_le _) (Nat.zero_le _) (UC.mono (Rd.uc (E := eL t0 F F) (F := F) (k_X2_decider l hA hs hd hp (by rw [← RS_len]; exact hk))) (fun _ z => z) (fun v H1 z => ⟨z.1, by rw [z.2]; exact Kp.rf⟩)) hA.1
/-- who shadows a rule: none, or the first that covers it -/
def shR (rs : List RV) (i : Nat) (r : Int32) : Prop := r = -1 ∨ ∃ k, k < i ∧ cvB (gt rs k) (gt rs i) = true ∧ r = nI k
theorem cl_shadow (l : Launch) (hlt : l.stackTraces = false) {rs : List RV} {i : Nat} (hi : i < rs.length) : ∃ r : Int32, shR rs i r ∧ ∀ (D : va_G) (Y : Nat → ClassId) (F : Nat → Prop) (t0 x : Nat) (ju mi lo : Int32) (H : Heap), Hd D Y x ju mi lo rs H → UC l yL_shadowedBy wsL_shadowedBy 10 1 6 D Y (eL t0 F F) [.ref x, .int (nI i)] H F (bI_ r (Kp H)) := by
  by_cases hm : fstN (fun k => cvB (gt rs k) (gt rs i)) i = i
  · refine ⟨-1, Or.inl rfl, fun D Y F t0 x ju mi lo H hH => ?_⟩
    obtain ⟨la, na, ea, cap, mod, es, nt, L, hA, rfl⟩ := hH
    exact ht_shadowedBy1 l (by decide) (k_X2_shadowedBy_n l hlt hA (by rw [← RS_len]; exact hi) (fun k hk => fstN_not (P := fun k => cvB (gt (RS L) k) (gt (RS L) i)) i k (by omega) hk)) hA.1
  · have hk : fstN (fun k => cvB (gt rs k) (gt rs i)) i < i := by
      have := fstN_le (fun k => cvB (gt rs k) (gt rs i)) i
      omega
    have hc : cvB (gt rs (fstN (fun k => cvB (gt rs k) (gt rs i)) i)) (gt rs i) = true := fstN_hit (P := fun k => cvB (gt rs k) (gt rs i)) i hk
    have hn : ∀ k, k < fstN (fun k => cvB (gt rs k) (gt rs i)) i → cvB (gt rs k) (gt rs i) = false := fun k h => fstN_not (P := fun k => cvB (gt rs k) (gt rs i)) i k h (by omega)
    generalize fstN (fun k => cvB (gt rs k) (gt rs i)) i = k0 at hk hc hn
    refine ⟨nI k0, Or.inr ⟨k0, hk, hc, rfl⟩, fun D Y F t0 x ju mi lo H hH => ?_⟩
    obtain ⟨la, na, ea, cap, mod, es, nt, L, hA, rfl⟩ := hH
    exact hu_shadowedBy l (dM := 4) (by decide) (Nat.zero_le _) (Nat.zero_le _) (UC.mono (Rd.uc (E := eL t0 F F) (F := F) (k_X2_shadowedBy l hA (by rw [← RS_len]; exact hi) hk hc hn)) (fun _ z => z) (fun v H1 z => ⟨z.1, by rw [z.2]; exact Kp.rf⟩)) hA.1
