/-! the class's cells as a whole: its list, itself, its rows, and a pool of rules that only grows -/
def plW : List RA → va_W
  | [] => []
  | q :: t => ruC q.1 q.2 ++ plW t
theorem plW_at : ∀ (P : List RA) (k : Nat), k < P.length → ∀ j, j < 3 → (plW P)[3 * k + j]? = (ruC (gl P k).1 (gl P k).2)[j]?
  | [], k, h, _, _ => absurd h (Nat.not_lt_zero k)
  | q :: t, 0, _, j, hj => by
    show (ruC q.1 q.2 ++ plW t)[3 * 0 + j]? = (ruC q.1 q.2)[j]?
    rw [Nat.mul_zero, Nat.zero_add]
    exact List.getElem?_append_left hj
  | q :: t, k + 1, h, j, hj => by
    show (ruC q.1 q.2 ++ plW t)[3 * (k + 1) + j]? = _
    rw [List.getElem?_append_right (by show 3 ≤ 3 * (k + 1) + j; omega), show 3 * (k + 1) + j - (ruC q.1 q.2).length = 3 * k + j from by show 3 * (k + 1) + j - 3 = _; omega]
    exact plW_at t k (Nat.lt_of_succ_lt_succ h) j hj
theorem plW_len : ∀ P : List RA, (plW P).length = 3 * P.length
  | [] => rfl
  | q :: t => by
    show (ruC q.1 q.2 ++ plW t).length = _
    rw [List.length_append, plW_len t]
    show 3 + 3 * t.length = 3 * (t.length + 1)
    omega
theorem plW_app : ∀ P R : List RA, plW (P ++ R) = plW P ++ plW R
  | [], _ => rfl
  | q :: t, R => by
    show ruC q.1 q.2 ++ plW (t ++ R) = (ruC q.1 q.2 ++ plW t) ++ plW R
    rw [plW_app t R, List.append_assoc]
/-- a rule's first cell is another, its ranges the same -/
theorem plW_set {r2 : RV} : ∀ (P : List RA) (k : Nat), k < P.length → sF r2 = sF (gl P k).1 → sT r2 = sT (gl P k).1 → dF r2 = dF (gl P k).1 → dT r2 = dT (gl P k).1 → plW (P.set k (r2, (gl P k).2)) = (plW P).set (3 * k) ((gl P k).2.1, .inr (1, [.int (bI (pM r2)), .ref (gl P k).2.2.1, .ref (gl P k).2.2.2, .int (nI (pR r2)), .int (hT r2)]))
  | [], k, h, _, _, _, _ => absurd h (Nat.not_lt_zero k)
  | q :: t, 0, _, h1, h2, h3, h4 => by
    have h1 : sF r2 = sF q.1 := h1
    have h2 : sT r2 = sT q.1 := h2
    have h3 : dF r2 = dF q.1 := h3
    have h4 : dT r2 = dT q.1 := h4
    show ruC r2 q.2 ++ plW t = (ruC q.1 q.2 ++ plW t).set (3 * 0) _
    unfold ruC
    rw [h1, h2, h3, h4]
    rfl
  | q :: t, k + 1, h, h1, h2, h3, h4 => by
    show ruC q.1 q.2 ++ plW (t.set k (r2, (gl t k).2)) = (ruC q.1 q.2 ++ plW t).set (3 * (k + 1)) _
    rw [plW_set t k (Nat.lt_of_succ_lt_succ h) h1 h2 h3 h4]
    rw [List.set_append_right _ _ (by show 3 ≤ 3 * (k + 1); omega), show 3 * (k + 1) - (ruC q.1 q.2).length = 3 * k from by show 3 * (k + 1) - 3 = _; omega]
    rfl
/-- the list's rules lie in the pool, each at a place of its own -/
def poolOk (P L : List RA) : Prop := ∃ sg : Nat → Nat, (∀ i, i < L.length → sg i < P.length ∧ gl L i = gl P (sg i)) ∧ ∀ i j, i < L.length → j < L.length → sg i = sg j → i = j
abbrev cW (Y : Nat → ClassId) (la x na ea cap : Nat) (mod : Int32) (es : Nat → Option Nat) (nt : Nat → Int32) (ju mi lo : Int32) (L P : List RA) : va_W := [(la, .inr (4, [.int mod, .ref ea, .int (nI L.length)])), (x, .inr (2, [.ref la, .ref na, .int ju, .int mi, .int lo])), (na, .inl (Y 0, 128, .inl nt)), (ea, .inl (Y 1, cap, .inr (.inr (.inr (.inr es)))))] ++ plW P
def cQ (cap : Nat) (es : Nat → Option Nat) (L P : List RA) : Prop := poolOk P L ∧ rsOk (RS L) ∧ L.length ≤ cap ∧ cap < 2 ^ 30 ∧ ∀ i, i < L.length → es i = some (gl L i).2.1
/-- the class holds these rules (its row of rules made) -/
def ccB (D : va_G) (Y : Nat → ClassId) (F : Nat → Prop) (la x na ea cap : Nat) (ju mi lo : Int32) (rs : List RV) : Heap → Prop := fun H => ∃ (mod : Int32) (es : Nat → Option Nat) (nt : Nat → Int32) (L P : List RA), RS L = rs ∧ cQ cap es L P ∧ va_P D aCl (cW Y la x na ea cap mod es nt ju mi lo L P) H ∧ va_D F (cW Y la x na ea cap mod es nt ju mi lo L P)
theorem RS_len (L : List RA) : (RS L).length = L.length := List.length_map ..
theorem rdA_of {D : va_G} {Y : Nat → ClassId} {la x na ea cap : Nat} {mod : Int32} {es : Nat → Option Nat} {nt : Nat → Int32} {ju mi lo : Int32} {L P : List RA} {H : Heap} (hP : va_P D aCl (cW Y la x na ea cap mod es nt ju mi lo L P) H) (hq : cQ cap es L P) : rdA D Y x la na ea cap mod es nt ju mi lo L H := by
  obtain ⟨⟨sg, h1, h2⟩, hok, hc, hc2, hes⟩ := hq
  refine ⟨hP.by (fun _ => 1) ?_, hP.by (fun _ => 0) ?_, hP.by (fun _ => 2) ?_, fun _ => ⟨hP.by (fun _ => 3) ?_, hc, by omega⟩, fun i hi => ⟨hes i hi, ?_⟩, hok⟩
  · intro k q hk
    cases k with
    | zero => exact hk
    | succ k => simp at hk
  · intro k q hk
    cases k with
    | zero => exact hk
    | succ k => simp at hk
  · intro k q hk
    cases k with
    | zero => exact hk
    | succ k => simp at hk
  · intro k q hk
    cases k with
    | zero => exact hk
    | succ k => simp at hk
  · rw [gt_RS]
    obtain ⟨h3, h4⟩ := h1 i hi
    refine hP.by (fun k => 3 * sg i + k + 4) fun k q hk => ?_
    have hk3 : k < 3 := (List.getElem?_eq_some_iff.mp hk).1
    show (plW P)[3 * sg i + k]? = some q
    rw [plW_at P (sg i) h3 k hk3, ← h4]
    exact hk
theorem hes_of {cap : Nat} {es : Nat → Option Nat} {L P : List RA} (hq : cQ cap es L P) : ∀ j, j < L.length → ∃ (y k : Nat) (fs : List Value), es j = some y ∧ (plW P)[k]? = some (y, .inr (1, fs)) := by
  obtain ⟨⟨sg, h1, h2⟩, hok, hc, hc2, hes⟩ := hq
  intro j hj
  obtain ⟨h3, h4⟩ := h1 j hj
  refine ⟨(gl L j).2.1, 3 * sg j + 0, [.int (bI (pM (gl L j).1)), .ref (gl L j).2.2.1, .ref (gl L j).2.2.2, .int (nI (pR (gl L j).1)), .int (hT (gl L j).1)], hes j hj, ?_⟩
  rw [plW_at P (sg j) h3 0 (by decide), ← h4]
  rfl
theorem hv_of {cap : Nat} {es : Nat → Option Nat} {L P : List RA} (hq : cQ cap es L P) {j : Nat} (hj : j < L.length) : ∃ (k : Nat) (fs : List Value), (plW P)[k]? = some ((gl L j).2.1, .inr (1, fs)) := by
  obtain ⟨y, k, fs, h1, h2⟩ := hes_of hq j hj
  rw [hq.2.2.2.2 j hj] at h1
  obtain rfl := Option.some.inj h1
  exact ⟨k, fs, h2⟩
/-- lists of rules with addresses, as of rules -/
theorem gl_erase (L : List RA) (p i : Nat) : gl (L.eraseIdx p) i = if i < p then gl L i else gl L (i + 1) := by
  unfold gl
  rw [List.getD_eq_getElem?_getD, List.getD_eq_getElem?_getD, List.getD_eq_getElem?_getD, List.getElem?_eraseIdx]
  by_cases h : i < p
  · rw [if_pos h, if_pos h]
  · rw [if_neg h, if_neg h]
theorem gl_insert (L : List RA) (p i : Nat) (r : RA) (hp : p ≤ L.length) : gl (L.insertIdx p r) i = if i < p then gl L i else if i = p then r else gl L (i - 1) := by
  unfold gl
  rw [List.getD_eq_getElem?_getD, List.getD_eq_getElem?_getD, List.getD_eq_getElem?_getD, List.getElem?_insertIdx]
  by_cases h : i < p
  · rw [if_pos h, if_pos h]
  · rw [if_neg h, if_neg h]
    by_cases h2 : i = p
    · rw [if_pos h2, if_pos h2, if_pos (by omega)]
      rfl
    · rw [if_neg h2, if_neg h2]
theorem gl_set (L : List RA) (p i : Nat) (r : RA) (hp : p < L.length) : gl (L.set p r) i = if i = p then r else gl L i := by
  unfold gl
  rw [List.getD_eq_getElem?_getD, List.getD_eq_getElem?_getD, List.getElem?_set]
  by_cases h : i = p
  · subst h
    rw [if_pos rfl, if_pos hp, if_pos rfl]
    rfl
  · rw [if_neg (fun z => h z.symm), if_neg h]
theorem lenA_erase {L : List RA} {p : Nat} (hp : p < L.length) : (L.eraseIdx p).length = L.length - 1 := List.length_eraseIdx_of_lt hp
theorem lenA_insert {L : List RA} {p : Nat} {r : RA} (hp : p ≤ L.length) : (L.insertIdx p r).length = L.length + 1 := List.length_insertIdx_of_le_length hp r
theorem RS_erase {L : List RA} {p : Nat} (hp : p < L.length) : RS (L.eraseIdx p) = (RS L).eraseIdx p := by
  refine gt_ext (by rw [RS_len, lenA_erase hp, len_erase (by rw [RS_len]; exact hp), RS_len]) fun i _ => ?_
  rw [gt_RS, gl_erase, gt_erase, gt_RS, gt_RS]
  by_cases h : i < p
  · rw [if_pos h, if_pos h]
  · rw [if_neg h, if_neg h]
theorem RS_insert {L : List RA} {p : Nat} {r : RA} (hp : p ≤ L.length) : RS (L.insertIdx p r) = (RS L).insertIdx p r.1 := by
  refine gt_ext (by rw [RS_len, lenA_insert hp, len_insert (by rw [RS_len]; exact hp), RS_len]) fun i _ => ?_
  rw [gt_RS, gl_insert _ _ _ _ hp, gt_insert _ _ _ _ (by rw [RS_len]; exact hp), gt_RS, gt_RS]
  by_cases h : i < p
  · rw [if_pos h, if_pos h]
  · rw [if_neg h, if_neg h]
    by_cases h2 : i = p
    · rw [if_pos h2, if_pos h2]
    · rw [if_neg h2, if_neg h2]
theorem RS_set {L : List RA} {p : Nat} {r : RA} (hp : p < L.length) : RS (L.set p r) = (RS L).set p r.1 := by
  refine gt_ext (by rw [RS_len, List.length_set, List.length_set, RS_len]) fun i _ => ?_
  rw [gt_RS, gl_set _ _ _ _ hp, gt_set _ _ _ _ (by rw [RS_len]; exact hp), gt_RS]
  by_cases h2 : i = p
  · rw [if_pos h2, if_pos h2]
  · rw [if_neg h2, if_neg h2]
theorem cQ_erase {cap p : Nat} {es es2 : Nat → Option Nat} {L P : List RA} (hq : cQ cap es L P) (hp : p < L.length) (h2 : ∀ j, j < L.length - 1 → es2 j = es (if j < p then j else j + 1)) : cQ cap es2 (L.eraseIdx p) P := by
  obtain ⟨⟨sg, h1, h3⟩, hok, hc, hc2, hes⟩ := hq
  have hl := lenA_erase hp
  refine ⟨⟨fun i => if i < p then sg i else sg (i + 1), fun i hi => ?_, fun i j hi hj he => ?_⟩, by rw [RS_erase hp]; exact rsOk_erase hok (by rw [RS_len]; exact hp), by omega, hc2, fun i hi => ?_⟩
  · rw [gl_erase]
    by_cases h : i < p
    · simp only [if_pos h]
      exact h1 i (by omega)
    · simp only [if_neg h]
      exact h1 (i + 1) (by omega)
  · by_cases ha : i < p <;> by_cases hb : j < p
    · simp only [if_pos ha, if_pos hb] at he
      exact h3 i j (by omega) (by omega) he
    · simp only [if_pos ha, if_neg hb] at he
      have := h3 i (j + 1) (by omega) (by omega) he
      omega
    · simp only [if_neg ha, if_pos hb] at he
      have := h3 (i + 1) j (by omega) (by omega) he
      omega
    · simp only [if_neg ha, if_neg hb] at he
      have := h3 (i + 1) (j + 1) (by omega) (by omega) he
      omega
  · rw [h2 i (by omega), gl_erase]
    by_cases h : i < p
    · rw [if_pos h, if_pos h]
      exact hes i (by omega)
    · rw [if_neg h, if_neg h]
      exact hes (i + 1) (by omega)
/-- a rule that was taken out is put in elsewhere -/
theorem cQ_move {cap i j : Nat} {es es1 es2 : Nat → Option Nat} {L P : List RA} (hq : cQ cap es L P) (hi : i < L.length) (hj : j < L.length) (h1 : ∀ k, k < L.length - 1 → es1 k = es (if k < i then k else k + 1)) (h2 : ∀ k, k < L.length → es2 k = if k < j then es1 k else if k = j then some (gl L i).2.1 else es1 (k - 1)) : cQ cap es2 ((L.eraseIdx i).insertIdx j (gl L i)) P := by
  have hq1 := cQ_erase hq hi h1
  have hl := lenA_erase hi
  have hl2 : ((L.eraseIdx i).insertIdx j (gl L i)).length = L.length := by rw [lenA_insert (by omega)]; omega
  obtain ⟨⟨sg, g1, g3⟩, hok, hc, hc2, hes⟩ := hq
  have hr : rvOk (gl L i).1 := by rw [← gt_RS]; exact hok.2 i (by rw [RS_len]; exact hi)
  have hn := hok.1
  rw [RS_len] at hn
  refine ⟨⟨fun k => if k < j then (if k < i then sg k else sg (k + 1)) else if k = j then sg i else (if k - 1 < i then sg (k - 1) else sg k), fun k hk => ?_, fun a b ha hb he => ?_⟩, ?_, by omega, hc2, fun k hk => ?_⟩
  · rw [gl_insert _ _ _ _ (by omega)]
    by_cases h : k < j
    · simp only [if_pos h]
      rw [gl_erase]
      by_cases h5 : k < i
      · simp only [if_pos h5]; exact g1 k (by omega)
      · simp only [if_neg h5]; exact g1 (k + 1) (by omega)
    · simp only [if_neg h]
      by_cases h6 : k = j
      · simp only [if_pos h6]; exact g1 i hi
      · simp only [if_neg h6]
        rw [gl_erase]
        by_cases h5 : k - 1 < i
        · simp only [if_pos h5]; exact g1 (k - 1) (by omega)
        · simp only [if_neg h5]
          rw [show k - 1 + 1 = k from by omega]
          exact g1 k (by omega)
  · rw [hl2] at ha hb
    have key : ∀ k, k < L.length → ∃ z, z < L.length ∧ (if k < j then (if k < i then sg k else sg (k + 1)) else if k = j then sg i else (if k - 1 < i then sg (k - 1) else sg k)) = sg z ∧ (if k < j then (if k < i then k else k + 1) else if k = j then i else (if k - 1 < i then k - 1 else k)) = z := fun k hk => by
      by_cases h : k < j
      · simp only [if_pos h]
        by_cases h5 : k < i
        · simp only [if_pos h5]; exact ⟨k, by omega, rfl, rfl⟩
        · simp only [if_neg h5]; exact ⟨k + 1, by omega, rfl, rfl⟩
      · simp only [if_neg h]
        by_cases h6 : k = j
        · simp only [if_pos h6]; exact ⟨i, hi, rfl, rfl⟩
        · simp only [if_neg h6]
          by_cases h5 : k - 1 < i
          · simp only [if_pos h5]; exact ⟨k - 1, by omega, rfl, rfl⟩
          · simp only [if_neg h5]; exact ⟨k, by omega, rfl, rfl⟩
    obtain ⟨z1, hz1, e1, f1⟩ := key a ha
    obtain ⟨z2, hz2, e2, f2⟩ := key b hb
    have hz := g3 z1 z2 hz1 hz2 (by rw [← e1, ← e2]; exact he)
    rw [← f1, ← f2] at hz
    (repeat' split at hz) <;> omega
  · rw [RS_insert (by omega), RS_erase hi]
    refine rsOk_insert (rsOk_erase hok (by rw [RS_len]; exact hi)) ?_ hr ?_
    · rw [len_erase (by rw [RS_len]; exact hi), RS_len]; omega
    · rw [len_erase (by rw [RS_len]; exact hi), RS_len]; omega
  · rw [hl2] at hk
    rw [h2 k hk, gl_insert _ _ _ _ (by omega)]
    by_cases h : k < j
    · rw [if_pos h, if_pos h]
      exact hq1.2.2.2.2 k (by omega)
    · rw [if_neg h, if_neg h]
      by_cases h6 : k = j
      · rw [if_pos h6, if_pos h6]
      · rw [if_neg h6, if_neg h6]
        exact hq1.2.2.2.2 (k - 1) (by omega)
/-- a rule of the list is another (at the same address; its cells' addresses by ad2) -/
theorem cQ_put {cap k : Nat} {es : Nat → Option Nat} {L P : List RA} (hq : cQ cap es L P) (hk : k < L.length) : ∃ kp, kp < P.length ∧ gl L k = gl P kp ∧ (plW P)[3 * kp + 0]? = some ((gl L k).2.1, .inr (1, [.int (bI (pM (gl L k).1)), .ref (gl L k).2.2.1, .ref (gl L k).2.2.2, .int (nI (pR (gl L k).1)), .int (hT (gl L k).1)])) ∧ (plW P)[3 * kp + 1]? = some ((gl L k).2.2.1, rgE (sF (gl L k).1) (sT (gl L k).1)) ∧ (plW P)[3 * kp + 2]? = some ((gl L k).2.2.2, rgE (dF (gl L k).1) (dT (gl L k).1)) ∧ (∀ j, j < L.length → j ≠ k → ∃ jp, jp < P.length ∧ jp ≠ kp ∧ gl L j = gl P jp) ∧ ∀ (r2 : RV) (a1 a2 : Nat), rvOk r2 → cQ cap es (L.set k (r2, (gl L k).2.1, a1, a2)) (P.set kp (r2, (gl L k).2.1, a1, a2)) := by
  obtain ⟨⟨sg, h1, h3⟩, hok, hc, hc2, hes⟩ := hq
  obtain ⟨g1, g2⟩ := h1 k hk
  have c0 := plW_at P (sg k) g1 0 (by decide)
  have c1 := plW_at P (sg k) g1 1 (by decide)
  have c2 := plW_at P (sg k) g1 2 (by decide)
  rw [← g2] at c0 c1 c2
  refine ⟨sg k, g1, g2, c0, c1, c2, fun j hj hjk => ⟨sg j, (h1 j hj).1, fun z => hjk (h3 j k hj hk z), (h1 j hj).2⟩, fun r2 a1 a2 hr2 => ⟨⟨sg, fun i hi => ?_, fun i j hi hj => ?_⟩, ?_, by rw [List.length_set]; exact hc, hc2, fun i hi => ?_⟩⟩
  · rw [List.length_set] at hi
    rw [List.length_set, gl_set _ _ _ _ hk, gl_set _ _ _ _ g1]
    refine ⟨(h1 i hi).1, ?_⟩
    by_cases h : i = k
    · rw [if_pos h, if_pos (by rw [h])]
    · rw [if_neg h, if_neg (fun z => h (h3 i k hi hk z))]
      exact (h1 i hi).2
  · rw [List.length_set] at hi hj
    exact h3 i j hi hj
  · rw [RS_set hk]
    exact rsOk_set hok (by rw [RS_len]; exact hk) hr2
  · rw [List.length_set] at hi
    rw [gl_set _ _ _ _ hk]
    by_cases h : i = k
    · rw [if_pos h, h]
      exact hes k hk
    · rw [if_neg h]
      exact hes i hi
theorem RS_hit {L : List RA} {k : Nat} {a1 a2 a3 : Nat} (hk : k < L.length) : RS (L.set k (hitV (gl L k).1, a1, a2, a3)) = (RS L).set k (hitV (gt (RS L) k)) := by rw [RS_set hk, gt_RS]
/-- two neighbours change places -/
theorem cQ_swap {cap i : Nat} {es es2 : Nat → Option Nat} {L P : List RA} (hq : cQ cap es L P) (hi : i + 1 < L.length) (h2 : ∀ k, k < L.length → es2 k = if k = i then some (gl L (i + 1)).2.1 else if k = i + 1 then some (gl L i).2.1 else es k) : cQ cap es2 ((L.set i (gl L (i + 1))).set (i + 1) (gl L i)) P ∧ RS ((L.set i (gl L (i + 1))).set (i + 1) (gl L i)) = swL (RS L) i := by
  obtain ⟨⟨sg, h1, h3⟩, hok, hc, hc2, hes⟩ := hq
  have hl1 : i < L.length := by omega
  have hl2 : i + 1 < (L.set i (gl L (i + 1))).length := by rw [List.length_set]; exact hi
  have hg : ∀ k, gl ((L.set i (gl L (i + 1))).set (i + 1) (gl L i)) k = if k = i then gl L (i + 1) else if k = i + 1 then gl L i else gl L k := fun k => by
    rw [gl_set _ _ _ _ hl2, gl_set _ _ _ _ hl1]
    by_cases a : k = i
    · rw [if_neg (by omega), if_pos a, if_pos a]
    · rw [if_neg a, if_neg a]
  have hl : ((L.set i (gl L (i + 1))).set (i + 1) (gl L i)).length = L.length := by rw [List.length_set, List.length_set]
  have hRS : RS ((L.set i (gl L (i + 1))).set (i + 1) (gl L i)) = swL (RS L) i := by
    have hi2 : i + 1 < (RS L).length := by rw [RS_len]; exact hi
    refine gt_ext (by rw [RS_len, hl, swL_len hi2, RS_len]) fun k _ => ?_
    rw [gt_RS, hg, swL_gt hi2, gt_RS, gt_RS, gt_RS]
    by_cases a : k = i
    · rw [if_pos a, if_pos a]
    · rw [if_neg a, if_neg a]
      by_cases b : k = i + 1
      · rw [if_pos b, if_pos b]
      · rw [if_neg b, if_neg b]
  refine ⟨⟨⟨fun k => if k = i then sg (i + 1) else if k = i + 1 then sg i else sg k, fun k hk => ?_, fun a b ha hb he => ?_⟩, by rw [hRS]; exact swL_ok hok (by rw [RS_len]; exact hi), by rw [hl]; exact hc, hc2, fun k hk => ?_⟩, hRS⟩
  · rw [hl] at hk
    rw [hg]
    by_cases a : k = i
    · simp only [if_pos a]; exact h1 (i + 1) hi
    · simp only [if_neg a]
      by_cases b : k = i + 1
      · simp only [if_pos b]; exact h1 i hl1
      · simp only [if_neg b]; exact h1 k hk
  · rw [hl] at ha hb
    have key : ∀ k, k < L.length → ∃ z, z < L.length ∧ (if k = i then sg (i + 1) else if k = i + 1 then sg i else sg k) = sg z ∧ (if k = i then i + 1 else if k = i + 1 then i else k) = z := fun k hk => by
      by_cases a : k = i
      · simp only [if_pos a]; exact ⟨i + 1, hi, rfl, rfl⟩
      · simp only [if_neg a]
        by_cases b : k = i + 1
        · simp only [if_pos b]; exact ⟨i, hl1, rfl, rfl⟩
        · simp only [if_neg b]; exact ⟨k, hk, rfl, rfl⟩
    obtain ⟨z1, hz1, e1, f1⟩ := key a ha
    obtain ⟨z2, hz2, e2, f2⟩ := key b hb
    have hz := h3 z1 z2 hz1 hz2 (by rw [← e1, ← e2]; exact he)
    rw [← f1, ← f2] at hz
    (repeat' split at hz) <;> omega
  · rw [hl] at hk
    rw [h2 k hk, hg]
    by_cases a : k = i
    · rw [if_pos a, if_pos a]
    · rw [if_neg a, if_neg a]
      by_cases b : k = i + 1
      · rw [if_pos b, if_pos b]
      · rw [if_neg b, if_neg b]; exact hes k hk
