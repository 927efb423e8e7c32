/-! the class made, a rule added -/
theorem i_iff (v a b : Int32) : inI v a b = true ↔ a.toInt ≤ v.toInt ∧ v.toInt ≤ b.toInt := by
  unfold inI
  rw [Bool.and_eq_true, decide_eq_true_eq, decide_eq_true_eq, Int32.le_iff_toInt_le, Int32.le_iff_toInt_le]
theorem rg_iff (a b : Int32) : rgB a b = true ↔ 0 ≤ a.toInt ∧ a.toInt ≤ b.toInt ∧ b.toInt ≤ 31 := by
  unfold rgB
  rw [Bool.and_eq_true, i_iff, i_iff, nI_toInt (by decide), nI_toInt (by decide)]
  omega
theorem rg_t {a b : Int32} (h1 : ¬ a < 0) (h2 : ¬ b < a) (h3 : ¬ nI 32 ≤ b) : rgB a b = true := by
  rw [Int32.lt_iff_toInt_lt, show (0 : Int32).toInt = 0 from by decide] at h1
  rw [Int32.lt_iff_toInt_lt] at h2
  rw [Int32.le_iff_toInt_le, nI_toInt (by decide)] at h3
  rw [rg_iff]
  omega
theorem rg_f {a b : Int32} (h : a < 0 ∨ b < a ∨ nI 32 ≤ b) : rgB a b = false := by
  rw [Bool.eq_false_iff]
  intro q
  rw [rg_iff] at q
  rw [Int32.lt_iff_toInt_lt, Int32.lt_iff_toInt_lt, Int32.le_iff_toInt_le, show (0 : Int32).toInt = 0 from by decide, nI_toInt (by decide)] at h
  omega
theorem rg_N {a b : Nat} (h : a ≤ b) (h2 : b ≤ 31) : rgB (nI a) (nI b) = true := by
  rw [rg_iff, nI_toInt (by omega), nI_toInt (by omega)]
  omega
theorem dfX2 : ∀ j, j < 5 → defaultValue (tyX2 j) = vp_V [.null, .null, .int (nI 0), .int (nI 0), .int (nI 0)] j
  | 0, _ => rfl
  | 1, _ => rfl
  | 2, _ => rfl
  | 3, _ => rfl
  | 4, _ => rfl
  | _ + 5, h => absurd h (by omega)
/-- three cells at the end in another order -/
theorem m3In {W : va_W} {a b c : Nat × va_E} : ∀ (i : Nat) (q : Nat × va_E), (W ++ [c, a, b])[i]? = some q → (W ++ [a] ++ [b] ++ [c])[if i < W.length then i else if i = W.length then W.length + 2 else i - 1]? = some q := by
  intro i q hi
  rw [List.append_assoc, List.append_assoc]
  show (W ++ [a, b, c])[_]? = _
  by_cases h : i < W.length
  · rw [if_pos h, List.getElem?_append_left h]
    rw [List.getElem?_append_left h] at hi
    exact hi
  · rw [if_neg h]
    rw [List.getElem?_append_right (by omega)] at hi
    by_cases h2 : i = W.length
    · rw [if_pos h2, List.getElem?_append_right (by omega), show W.length + 2 - W.length = 2 from by omega]
      rw [h2, Nat.sub_self] at hi
      exact hi
    · rw [if_neg h2, List.getElem?_append_right (by omega)]
      have h3 : i - W.length < 3 := (List.getElem?_eq_some_iff.mp hi).1
      rcases (show i - W.length = 1 ∨ i - W.length = 2 from by omega) with z | z
      · rw [z] at hi
        rw [show i - 1 - W.length = 0 from by omega]
        exact hi
      · rw [z] at hi
        rw [show i - 1 - W.length = 1 from by omega]
        exact hi
theorem m3P {D : va_G} {W : va_W} {a b c : Nat × va_E} {H : Heap} (hP : va_P D aCl (W ++ [a] ++ [b] ++ [c]) H) : va_P D aCl (W ++ [c, a, b]) H := hP.by _ m3In
theorem m3D {F : Nat → Prop} {W : va_W} {a b c : Nat × va_E} (hD : va_D F (W ++ [a] ++ [b] ++ [c])) : va_D F (W ++ [c, a, b]) := by
  refine va_D.by hD _ m3In fun i j hi hj hij => ?_
  rw [List.length_append] at hi hj
  have hi : i < W.length + 3 := hi
  have hj : j < W.length + 3 := hj
  have hij : (if i < W.length then i else if i = W.length then W.length + 2 else i - 1) = (if j < W.length then j else if j = W.length then W.length + 2 else j - 1) := hij
  (repeat' split at hij) <;> omega
/-- a rule behind the others -/
theorem RS_app (L : List RA) (z : RA) : RS (L ++ [z]) = RS L ++ [z.1] := List.map_append ..
theorem gl_app (L : List RA) (z : RA) (i : Nat) : gl (L ++ [z]) i = if i < L.length then gl L i else if i = L.length then z else gl [] 0 := by
  unfold gl
  rw [List.getD_eq_getElem?_getD, List.getD_eq_getElem?_getD]
  by_cases h : i < L.length
  · rw [if_pos h, List.getElem?_append_left h]
  · rw [if_neg h, List.getElem?_append_right (by omega)]
    by_cases h2 : i = L.length
    · rw [if_pos h2, h2, Nat.sub_self]
      rfl
    · rw [if_neg h2, List.getElem?_eq_none (by show 1 ≤ _; omega)]
      rfl
theorem cQ_app {cap2 : Nat} {es es2 : Nat → Option Nat} {L P : List RA} {z : RA} (hp : poolOk P L) (hok : rsOk (RS L)) (h16 : L.length ≤ 15) (hes : ∀ i, i < L.length → es i = some (gl L i).2.1) (hz : rvOk z.1) (hc : L.length < cap2 ∧ cap2 < 2 ^ 30) (he : ∀ j, j < L.length → es2 j = es j) (hv : es2 L.length = some z.2.1) : cQ cap2 es2 (L ++ [z]) (P ++ [z]) := by
  obtain ⟨sg, h1, h2⟩ := hp
  have hl : (L ++ [z]).length = L.length + 1 := List.length_append
  have hl2 : (P ++ [z]).length = P.length + 1 := List.length_append
  refine ⟨⟨fun i => if i < L.length then sg i else P.length, fun i hi => ?_, fun i j hi hj hij => ?_⟩, ?_, by omega, hc.2, fun i hi => ?_⟩
  · rw [hl] at hi
    rw [hl2]
    by_cases h : i < L.length
    · simp only [if_pos h]
      have h3 := h1 i h
      refine ⟨by omega, ?_⟩
      rw [gl_app, gl_app, if_pos h, if_pos h3.1]
      exact h3.2
    · simp only [if_neg h]
      refine ⟨by omega, ?_⟩
      rw [gl_app, gl_app, if_neg h, if_pos (by omega), if_neg (Nat.lt_irrefl _), if_pos rfl]
  · rw [hl] at hi hj
    by_cases a : i < L.length <;> by_cases b : j < L.length
    · simp only [if_pos a, if_pos b] at hij
      exact h2 i j a b hij
    · simp only [if_pos a, if_neg b] at hij
      have := (h1 i a).1
      omega
    · simp only [if_neg a, if_pos b] at hij
      have := (h1 j b).1
      omega
    · omega
  · rw [RS_app]
    refine ⟨by rw [List.length_append, RS_len]; show L.length + 1 ≤ 16; omega, fun i hi => ?_⟩
    rw [List.length_append, RS_len] at hi
    have hi : i < L.length + 1 := hi
    rw [← RS_app, gt_RS, gl_app]
    by_cases h : i < L.length
    · rw [if_pos h, ← gt_RS]
      exact hok.2 i (by rw [RS_len]; exact h)
    · rw [if_neg h, if_pos (by omega)]
      exact hz
  · rw [hl] at hi
    rw [gl_app]
    by_cases h : i < L.length
    · rw [if_pos h, he i h]
      exact hes i h
    · rw [if_neg h, if_pos (by omega), show i = L.length from by omega]
      exact hv
set_option maxHeartbeats 4000000 in
set_option maxRecDepth 100000 in
theorem k_X2_isRange (l : Launch) {D : va_G} {Y : Nat → ClassId} {H : Heap} (a b : Int32) : Rd l yX2_isRange wsX2_isRange 0 D Y [.int (a), .int (b)] H (bI (rgB a b)) := by
  refine Rd.start (cc := cX2_isRange) (maxL := 2) (rt := .boolean) (by decide) rfl (Nat.le_of_ble_eq_true rfl) ?_
  intro p e s m args below meth c ls Q S hK hl hE
  have S : CallFix p m c cX2_isRange 2 s args wsX2_isRange RX2 := S
  have hx := S.1
  have hb := S.2.1
  have hts := S.2.2.2.2
  have hl : lv_has ls 2 [(0, .int (a)), (1, .int (b))] := hl
  refine lv_iload_n hx hb dX2_isRange_0 rfl (lv_at hl 0 rfl) ?_
  refine lv_if_lt (tgt := 19) hx hb dX2_isRange_1 (by decide) (fun c_1 => ?_) (fun c_1 => ?_)
  · refine lv_iconst (v := (nI (0))) hx hb dX2_isRange_19 (by decide +kernel) ?_
    exact hE _ _ _ dX2_isRange_20 (rfl) (bI_f (rg_f (by first | exact Or.inl c_1 | exact Or.inr (Or.inl c_6) | exact Or.inr (Or.inr c_12))))
  · refine lv_iload_n hx hb dX2_isRange_4 rfl (lv_at hl 0 rfl) ?_
    refine lv_iload_n hx hb dX2_isRange_5 rfl (lv_at hl 1 rfl) ?_
    refine lv_icmp_gt (tgt := 19) hx hb dX2_isRange_6 (by decide) (fun c_6 => ?_) (fun c_6 => ?_)
    · refine lv_iconst (v := (nI (0))) hx hb dX2_isRange_19 (by decide +kernel) ?_
      exact hE _ _ _ dX2_isRange_20 (rfl) (bI_f (rg_f (by first | exact Or.inl c_1 | exact Or.inr (Or.inl c_6) | exact Or.inr (Or.inr c_12))))
    · refine lv_iload_n hx hb dX2_isRange_9 rfl (lv_at hl 1 rfl) ?_
      refine lv_bipush (v := (nI (32))) hx hb dX2_isRange_10 (by decide +kernel) ?_
      refine lv_icmp_ge (tgt := 19) hx hb dX2_isRange_12 (by decide) (fun c_12 => ?_) (fun c_12 => ?_)
      · refine lv_iconst (v := (nI (0))) hx hb dX2_isRange_19 (by decide +kernel) ?_
        exact hE _ _ _ dX2_isRange_20 (rfl) (bI_f (rg_f (by first | exact Or.inl c_1 | exact Or.inr (Or.inl c_6) | exact Or.inr (Or.inr c_12))))
      · refine lv_iconst (v := (nI (1))) hx hb dX2_isRange_15 (by decide +kernel) ?_
        refine lv_goto (tgt := 20) hx hb dX2_isRange_16 (by decide) ?_
        exact hE _ _ _ dX2_isRange_20 (rfl) (bI_t (rg_t c_1 c_6 c_12))
set_option maxHeartbeats 4000000 in
set_option maxRecDepth 100000 in
theorem k_X2_init (l : Launch) {D : va_G} {Y : Nat → ClassId} {H0 : Heap} {F : Nat → Prop} {ws : va_W} {q0 x t0 : Nat} (hP : va_P D aCl (ws) H0) (hD : va_D F (ws)) (hFr : ∀ q, H0.size ≤ q → F q) (he : ws[q0]? = some (x, .inr (2, [.null, .null, .int (nI (0)), .int (nI (0)), .int (nI (0))]))) : UC l yX2_init wsX2_init 4 2 131 D Y (eZ t0 F) [.ref (x)] H0 F (bV_ (fun H => ∃ la na, va_P D aCl (ws.set q0 (x, .inr (2, [.ref la, .ref na, .int (nI 0), .int (nI 0), .int (nI 0)])) ++ [(la, .inr (4, [.int (nI 0), .ref t0, .int (nI 0)]))] ++ [(na, .inl (Y 0, 128, .inl (fun _ => nI 0)))]) H ∧ va_D F (ws.set q0 (x, .inr (2, [.ref la, .ref na, .int (nI 0), .int (nI 0), .int (nI 0)])) ++ [(la, .inr (4, [.int (nI 0), .ref t0, .int (nI 0)]))] ++ [(na, .inl (Y 0, 128, .inl (fun _ => nI 0)))]))) := by
  refine UCv.start (cc := cX2_init) (maxL := 1) (by decide) rfl (Nat.le_of_ble_eq_true rfl) ?_
  intro p e s m args below meth c ls H locs Q S hK hH0 hE0 hHH hS hl hin hE
  rw [← hHH] at hP
  have S : CallFix p m c cX2_init 1 s args wsX2_init RX2 := S
  have hx := S.1
  have hb := S.2.1
  have hts := S.2.2.2.2
  have hl : lv_has ls 1 [(0, .ref (x))] := hl
  subst hH0
  have hP : va_P D aCl (ws.set q0 (x, .inr (2, [.null, .null, .int (nI (0)), .int (nI (0)), .int (nI (0))]))) H := by rw [setSelf he]; exact hP
  have hD : va_D F (ws.set q0 (x, .inr (2, [.null, .null, .int (nI (0)), .int (nI (0)), .int (nI (0))]))) := by rw [setSelf he]; exact hD
  refine lv_aload_n hx hb dX2_init_0 rfl (lv_at hl 0 rfl) ?_
  refine nr_obj S (List.mem_of_getElem? (i := 1) rfl) (List.mem_of_getElem? (i := 2) rfl) (List.mem_of_getElem? (i := 3) rfl) hl.1 dX2_init_1 (Nat.le_of_ble_eq_true rfl) (Nat.le_of_ble_eq_true rfl) ?_
  refine lv_aload_n hx hb dX2_init_4 rfl (lv_at hl 0 rfl) ?_
  refine nr_new (C := RJx4a65c) (T := TJx4a65c) (N := 3) (ci := 4) (fs := [.int (nI (0)), .null, .int (nI (0))]) S (fun _ h => List.mem_cons_of_mem _ (List.mem_append_left _ (List.mem_append_right _ (h)))) tyJx4a65c tyJx4a65c_ok (List.mem_of_getElem? (i := 4) rfl) (List.mem_of_getElem? (i := 5) rfl) (List.mem_of_getElem? (i := 6) rfl) hK hP hD hS hFr rfl dfJx4a65c (Nat.le_of_ble_eq_true rfl) (Nat.le_of_ble_eq_true rfl) dX2_init_5 (fun q5 H hP hD hS => ?_)
  have hP : va_P D aCl (ws.set q0 (x, .inr (2, [.null, .null, .int (nI (0)), .int (nI (0)), .int (nI (0))])) ++ [(q5, .inr (4, [.int (nI (0)), .null, .int (nI (0))]))]) H := hP
  have hD : va_D F (ws.set q0 (x, .inr (2, [.null, .null, .int (nI (0)), .int (nI (0)), .int (nI (0))])) ++ [(q5, .inr (4, [.int (nI (0)), .null, .int (nI (0))]))]) := hD
  refine lv_dup hx hb dX2_init_8 rfl ?_
  refine UC.callI (As := []) S (k_Jx4a65c_init_da8c8 l hP hD (atE _ _)) (cwI 0 hts gX2_init_Jx4a65c_init_da8c8 rfl rfl rfl (hts _ (List.mem_of_getElem? (i := 6) rfl)) (hts _ (List.mem_of_getElem? (i := 10) rfl)) (hts _ (List.mem_of_getElem? (i := 11) rfl)) rfl (by decide +kernel) ⟨Nat.le_of_ble_eq_true rfl, Nat.le_of_ble_eq_true rfl⟩) hK eZ_bl (fun U hW hU => eZ_go hE0 hS hW hU) hS (fun _ h => h) rfl hl.1 rfl (Nat.le_of_ble_eq_true rfl) dX2_init_9 ⟨(by show _ ≤ 2; omega), (by show _ ≤ 131; omega)⟩ (fun v H locs hB hS hsz hkp => ?_)
  obtain ⟨rfl, hB⟩ := hB
  rw [setE] at hB
  have hP : va_P D aCl (ws.set q0 (x, .inr (2, [.null, .null, .int (nI (0)), .int (nI (0)), .int (nI (0))])) ++ [(q5, .inr (4, [.int (nI (0)), .ref (t0), .int (nI (0))]))]) H := hB
  have hD : va_D F (ws.set q0 (x, .inr (2, [.null, .null, .int (nI (0)), .int (nI (0)), .int (nI (0))])) ++ [(q5, .inr (4, [.int (nI (0)), .ref (t0), .int (nI (0))]))]) := va_D.same hD (by rw [List.map_append, List.map_append]; rfl)
  refine nr_putF (C := RX2) (T := TX2) (N := 5) (ci := 2) (v := .ref (q5)) S (fun _ h => List.mem_cons_of_mem _ (List.mem_append_right _ (h))) tyX2 tyX2_ok nmX2 hK hP hD hS q0 (atA (atSS he)) rfl 0 (by decide) (List.mem_of_getElem? (i := 7) rfl) (hin rfl) rfl rfl rfl rfl (Nat.le_of_ble_eq_true rfl) dX2_init_12 (fun H locs hP hD hS => ?_)
  first | rw [set2 he] at hP | rw [set1 he] at hP | rw [List.set_set] at hP
  first | rw [set2 he] at hD | rw [set1 he] at hD | rw [List.set_set] at hD
  have hP : va_P D aCl (ws.set q0 (x, .inr (2, [.ref (q5), .null, .int (nI (0)), .int (nI (0)), .int (nI (0))])) ++ [(q5, .inr (4, [.int (nI (0)), .ref (t0), .int (nI (0))]))]) H := hP
  have hD : va_D F (ws.set q0 (x, .inr (2, [.ref (q5), .null, .int (nI (0)), .int (nI (0)), .int (nI (0))])) ++ [(q5, .inr (4, [.int (nI (0)), .ref (t0), .int (nI (0))]))]) := hD
  refine lv_aload_n hx hb dX2_init_15 rfl (lv_at hl 0 rfl) ?_
  refine lv_sipush (v := (nI (128))) hx hb dX2_init_16 (by decide +kernel) ?_
  refine nr_newi (N := 128) S (List.mem_of_getElem? (i := 8) rfl) hK hP hD hS hFr (Nat.le_of_ble_eq_true rfl) (Nat.le_of_ble_eq_true rfl) (Nat.le_of_ble_eq_true rfl) dX2_init_19 (fun q19 H hP hD hS => ?_)
  have hP : va_P D aCl (ws.set q0 (x, .inr (2, [.ref (q5), .null, .int (nI (0)), .int (nI (0)), .int (nI (0))])) ++ [(q5, .inr (4, [.int (nI (0)), .ref (t0), .int (nI (0))]))] ++ [(q19, .inl (Y 0, 128, .inl (fun _ => nI 0)))]) H := hP
  have hD : va_D F (ws.set q0 (x, .inr (2, [.ref (q5), .null, .int (nI (0)), .int (nI (0)), .int (nI (0))])) ++ [(q5, .inr (4, [.int (nI (0)), .ref (t0), .int (nI (0))]))] ++ [(q19, .inl (Y 0, 128, .inl (fun _ => nI 0)))]) := hD
  refine nr_putF (C := RX2) (T := TX2) (N := 5) (ci := 2) (v := .ref (q19)) S (fun _ h => List.mem_cons_of_mem _ (List.mem_append_right _ (h))) tyX2 tyX2_ok nmX2 hK hP hD hS q0 (atA (atA (atSS he))) rfl 1 (by decide) (List.mem_of_getElem? (i := 9) rfl) (hin rfl) rfl rfl rfl rfl (Nat.le_of_ble_eq_true rfl) dX2_init_21 (fun H locs hP hD hS => ?_)
  first | rw [set2 he] at hP | rw [set1 he] at hP | rw [List.set_set] at hP
  first | rw [set2 he] at hD | rw [set1 he] at hD | rw [List.set_set] at hD
  have hP : va_P D aCl (ws.set q0 (x, .inr (2, [.ref (q5), .ref (q19), .int (nI (0)), .int (nI (0)), .int (nI (0))])) ++ [(q5, .inr (4, [.int (nI (0)), .ref (t0), .int (nI (0))]))] ++ [(q19, .inl (Y 0, 128, .inl (fun _ => nI 0)))]) H := hP
  have hD : va_D F (ws.set q0 (x, .inr (2, [.ref (q5), .ref (q19), .int (nI (0)), .int (nI (0)), .int (nI (0))])) ++ [(q5, .inr (4, [.int (nI (0)), .ref (t0), .int (nI (0))]))] ++ [(q19, .inl (Y 0, 128, .inl (fun _ => nI 0)))]) := hD
  refine W.widen (k := 2) (n := 131) (by omega) (by omega) ?_
  exact hE _ _ _ _ dX2_init_24 (⟨_, _, hP, hD⟩) hS
set_option maxHeartbeats 4000000 in
set_option maxRecDepth 100000 in
theorem k_X2_add_r (l : Launch) {D : va_G} {Y : Nat → ClassId} {H0 : Heap} {F : Nat → Prop} {la x na ea cap : Nat} {mod ju mi lo : Int32} {es : Nat → Option Nat} {nt : Nat → Int32} {L P : List RA} {a b c0 d0 q0 : Nat} {pm : Bool} (hP : va_P D aCl ([(la, .inr (4, [.int (mod), .ref (ea), .int (nI (L.length))])), (x, .inr (2, [.ref (la), .ref (na), .int (ju), .int (mi), .int (lo)])), (na, .inl (Y 0, 128, .inl nt)), (ea, .inl (Y 1, cap, .inr (.inr (.inr (.inr es)))))] ++ plW P) H0) (hD : va_D F ([(la, .inr (4, [.int (mod), .ref (ea), .int (nI (L.length))])), (x, .inr (2, [.ref (la), .ref (na), .int (ju), .int (mi), .int (lo)])), (na, .inl (Y 0, 128, .inl nt)), (ea, .inl (Y 1, cap, .inr (.inr (.inr (.inr es)))))] ++ plW P)) (hFr : ∀ q, H0.size ≤ q → F q) (hq : cQ cap es L P) (hroom : L.length < cap) (h15 : L.length ≤ 15) (hr : rvOk (a, b, c0, d0, q0, pm, 0)) : UC l yX2_add wsX2_add 7 4 75 D Y (eT) [.ref (x), .int (nI (a)), .int (nI (b)), .int (nI (c0)), .int (nI (d0)), .int (nI (q0)), .int (bI (pm))] H0 F (bI_ (nI (L.length)) (fun H => ∃ ea2 cap2, ccB D Y F la x na ea2 cap2 ju mi lo (RS L ++ [(a, b, c0, d0, q0, pm, 0)]) H)) := by
  refine UCi.start (cc := cX2_add) (maxL := 9) (rt := .int) (by decide) rfl (Nat.le_of_ble_eq_true rfl) ?_
  intro p e s m args below meth c ls H locs Q S hK hH0 hE0 hHH hS hl hin hE
  rw [← hHH] at hP
  have S : CallFix p m c cX2_add 9 s args wsX2_add RX2 := S
  have hx := S.1
  have hb := S.2.1
  have hts := S.2.2.2.2
  have hl : lv_has ls 9 [(0, .ref (x)), (1, .int (nI (a))), (2, .int (nI (b))), (3, .int (nI (c0))), (4, .int (nI (d0))), (5, .int (nI (q0))), (6, .int (bI (pm)))] := hl
  have hv := hr
  unfold rvOk at hv
  have hv : a ≤ b ∧ b ≤ 31 ∧ c0 ≤ d0 ∧ d0 ≤ 31 ∧ 1 ≤ q0 ∧ q0 ≤ 15 := hv
  have hcq := hq.2.2.2.1
  refine lv_iload_n hx hb dX2_add_0 rfl (lv_at hl 1 rfl) ?_
  refine lv_iload_n hx hb dX2_add_1 rfl (lv_at hl 2 rfl) ?_
  refine Rd.callS (r := (bI (rgB (nI (a)) (nI (b))))) (As := [.int (nI (a)), .int (nI (b))]) S (k_X2_isRange l (nI (a)) (nI (b))) (va_cwS 2 hts gX2_add_X2_isRange rfl rfl rfl (by decide +kernel) ⟨Nat.le_of_ble_eq_true rfl, Nat.le_of_ble_eq_true rfl⟩) hK rfl hl.1 rfl (Nat.le_of_ble_eq_true rfl) dX2_add_2 ⟨(by show _ ≤ 4; omega), (by show _ ≤ 75; omega)⟩ ?_
  refine nr_ifB_eq (tgt := 17) hx hb dX2_add_5 (by decide) (fun c_5 => absurd c_5 (by rw [rg_N hv.1 hv.2.1]; decide)) (fun c_5 => ?_)
  refine lv_iload_n hx hb dX2_add_8 rfl (lv_at hl 3 rfl) ?_
  refine lv_iload hx hb dX2_add_9 (lv_at hl 4 rfl) ?_
  refine Rd.callS (r := (bI (rgB (nI (c0)) (nI (d0))))) (As := [.int (nI (c0)), .int (nI (d0))]) S (k_X2_isRange l (nI (c0)) (nI (d0))) (va_cwS 2 hts gX2_add_X2_isRange rfl rfl rfl (by decide +kernel) ⟨Nat.le_of_ble_eq_true rfl, Nat.le_of_ble_eq_true rfl⟩) hK rfl hl.1 rfl (Nat.le_of_ble_eq_true rfl) dX2_add_11 ⟨(by show _ ≤ 4; omega), (by show _ ≤ 75; omega)⟩ ?_
  refine nr_ifB_ne (tgt := 27) hx hb dX2_add_14 (by decide) (fun c_14 => ?_) (fun c_14 => absurd c_14 (by rw [rg_N hv.2.2.1 hv.2.2.2.1]; decide))
  refine lv_iload hx hb dX2_add_27 (lv_at hl 5 rfl) ?_
  refine lv_iconst (v := (nI (1))) hx hb dX2_add_29 (by decide +kernel) ?_
  refine nr_icmp_lt (tgt := 40) hx hb (by omega) (by omega) dX2_add_30 (by decide) (fun c_30 => absurd c_30 (by omega)) (fun c_30 => ?_)
  refine lv_iload hx hb dX2_add_33 (lv_at hl 5 rfl) ?_
  refine lv_bipush (v := (nI (15))) hx hb dX2_add_35 (by decide +kernel) ?_
  refine nr_icmp_le (tgt := 50) hx hb (by omega) (by omega) dX2_add_37 (by decide) (fun c_37 => ?_) (fun c_37 => absurd c_37 (by omega))
  refine lv_aload_n hx hb dX2_add_50 rfl (lv_at hl 0 rfl) ?_
  refine nr_get (C := RX2) (T := TX2) (N := 5) (ci := 2) S (fun _ h => List.mem_cons_of_mem _ (List.mem_append_left _ (List.mem_append_left _ (List.mem_append_left _ (List.mem_append_left _ (List.mem_append_left _ (List.mem_append_right _ (h)))))))) hK hP 1 rfl rfl 0 (by decide) (List.mem_of_getElem? (i := 5) rfl) rfl dX2_add_51 ?_
  refine Rd.callV (r := (nI (L.length))) (As := []) S (k_Jx4a65c_size_8abf5 l (hP.sub [0] rfl)) (cwV 0 hts gX2_add_Jx4a65c_size_8abf5 rfl rfl rfl (by decide +kernel) ⟨Nat.le_of_ble_eq_true rfl, Nat.le_of_ble_eq_true rfl⟩) hK (va_recv hK.1 hP (ci := 4) (q0 := 0) rfl rfl) rfl hl.1 rfl (Nat.le_of_ble_eq_true rfl) dX2_add_54 ⟨(by show _ ≤ 4; omega), (by show _ ≤ 75; omega)⟩ ?_
  refine lv_bipush (v := (nI (16))) hx hb dX2_add_57 (by decide +kernel) ?_
  refine nr_icmp_lt (tgt := 72) hx hb (by omega) (by omega) dX2_add_59 (by decide) (fun c_59 => ?_) (fun c_59 => absurd c_59 (by omega))
  refine nr_new (C := RX0) (T := TX0) (N := 3) (ci := 0) (fs := [.int (nI (0)), .int (nI (0)), .int (nI (0))]) S (fun _ h => List.mem_cons_of_mem _ (List.mem_append_left _ (List.mem_append_left _ (List.mem_append_left _ (List.mem_append_left _ (List.mem_append_right _ (h))))))) tyX0 tyX0_ok (List.mem_of_getElem? (i := 6) rfl) (List.mem_of_getElem? (i := 7) rfl) (List.mem_of_getElem? (i := 8) rfl) hK hP hD hS hFr rfl dfX0 (Nat.le_of_ble_eq_true rfl) (Nat.le_of_ble_eq_true rfl) dX2_add_72 (fun q72 H hP hD hS => ?_)
  have hP : va_P D aCl ([(la, .inr (4, [.int (mod), .ref (ea), .int (nI (L.length))])), (x, .inr (2, [.ref (la), .ref (na), .int (ju), .int (mi), .int (lo)])), (na, .inl (Y 0, 128, .inl nt)), (ea, .inl (Y 1, cap, .inr (.inr (.inr (.inr es)))))] ++ plW P ++ [(q72, .inr (0, [.int (nI (0)), .int (nI (0)), .int (nI (0))]))]) H := hP
  have hD : va_D F ([(la, .inr (4, [.int (mod), .ref (ea), .int (nI (L.length))])), (x, .inr (2, [.ref (la), .ref (na), .int (ju), .int (mi), .int (lo)])), (na, .inl (Y 0, 128, .inl nt)), (ea, .inl (Y 1, cap, .inr (.inr (.inr (.inr es)))))] ++ plW P ++ [(q72, .inr (0, [.int (nI (0)), .int (nI (0)), .int (nI (0))]))]) := hD
  refine lv_dup hx hb dX2_add_75 rfl ?_
  refine lv_iload_n hx hb dX2_add_76 rfl (lv_at hl 1 rfl) ?_
  refine lv_iload_n hx hb dX2_add_77 rfl (lv_at hl 2 rfl) ?_
  refine UC.callI (As := [.int (nI (a)), .int (nI (b))]) S (k_X0_init l hP hD (atE _ _) (by omega)) (cwI 2 hts gX2_add_X0_init rfl rfl rfl (hts _ (List.mem_of_getElem? (i := 8) rfl)) (hts _ (List.mem_of_getElem? (i := 22) rfl)) (hts _ (List.mem_of_getElem? (i := 23) rfl)) rfl (by decide +kernel) ⟨Nat.le_of_ble_eq_true rfl, Nat.le_of_ble_eq_true rfl⟩) hK eT_bl (fun _ _ _ => trivial) hS (fun _ h => h) rfl hl.1 rfl (Nat.le_of_ble_eq_true rfl) dX2_add_78 ⟨(by show _ ≤ 4; omega), (by show _ ≤ 75; omega)⟩ (fun v H locs hB hS hsz hkp => ?_)
  obtain ⟨rfl, hB⟩ := hB
  rw [setE] at hB
  have hP : va_P D aCl ([(la, .inr (4, [.int (mod), .ref (ea), .int (nI (L.length))])), (x, .inr (2, [.ref (la), .ref (na), .int (ju), .int (mi), .int (lo)])), (na, .inl (Y 0, 128, .inl nt)), (ea, .inl (Y 1, cap, .inr (.inr (.inr (.inr es)))))] ++ plW P ++ [(q72, .inr (0, [.int (nI (a)), .int (nI (b)), .int (mkI (a) (b))]))]) H := hB
  have hD : va_D F ([(la, .inr (4, [.int (mod), .ref (ea), .int (nI (L.length))])), (x, .inr (2, [.ref (la), .ref (na), .int (ju), .int (mi), .int (lo)])), (na, .inl (Y 0, 128, .inl nt)), (ea, .inl (Y 1, cap, .inr (.inr (.inr (.inr es)))))] ++ plW P ++ [(q72, .inr (0, [.int (nI (a)), .int (nI (b)), .int (mkI (a) (b))]))]) := va_D.same hD (by simp only [List.map_append]; rfl)
  refine lv_astore (lv' := [(7, .ref (q72)), (0, .ref (x)), (1, .int (nI (a))), (2, .int (nI (b))), (3, .int (nI (c0))), (4, .int (nI (d0))), (5, .int (nI (q0))), (6, .int (bI (pm)))]) hx hb dX2_add_81 hl (by decide) rfl (fun ls hl => ?_)
  refine nr_new (C := RX0) (T := TX0) (N := 3) (ci := 0) (fs := [.int (nI (0)), .int (nI (0)), .int (nI (0))]) S (fun _ h => List.mem_cons_of_mem _ (List.mem_append_left _ (List.mem_append_left _ (List.mem_append_left _ (List.mem_append_left _ (List.mem_append_right _ (h))))))) tyX0 tyX0_ok (List.mem_of_getElem? (i := 6) rfl) (List.mem_of_getElem? (i := 7) rfl) (List.mem_of_getElem? (i := 8) rfl) hK hP hD hS hFr rfl dfX0 (Nat.le_of_ble_eq_true rfl) (Nat.le_of_ble_eq_true rfl) dX2_add_83 (fun q83 H hP hD hS => ?_)
  have hP : va_P D aCl ([(la, .inr (4, [.int (mod), .ref (ea), .int (nI (L.length))])), (x, .inr (2, [.ref (la), .ref (na), .int (ju), .int (mi), .int (lo)])), (na, .inl (Y 0, 128, .inl nt)), (ea, .inl (Y 1, cap, .inr (.inr (.inr (.inr es)))))] ++ plW P ++ [(q72, .inr (0, [.int (nI (a)), .int (nI (b)), .int (mkI (a) (b))]))] ++ [(q83, .inr (0, [.int (nI (0)), .int (nI (0)), .int (nI (0))]))]) H := hP
  have hD : va_D F ([(la, .inr (4, [.int (mod), .ref (ea), .int (nI (L.length))])), (x, .inr (2, [.ref (la), .ref (na), .int (ju), .int (mi), .int (lo)])), (na, .inl (Y 0, 128, .inl nt)), (ea, .inl (Y 1, cap, .inr (.inr (.inr (.inr es)))))] ++ plW P ++ [(q72, .inr (0, [.int (nI (a)), .int (nI (b)), .int (mkI (a) (b))]))] ++ [(q83, .inr (0, [.int (nI (0)), .int (nI (0)), .int (nI (0))]))]) := hD
  refine lv_dup hx hb dX2_add_86 rfl ?_
  refine lv_iload_n hx hb dX2_add_87 rfl (lv_at hl 4 rfl) ?_
  refine lv_iload hx hb dX2_add_88 (lv_at hl 5 rfl) ?_
  refine UC.callI (As := [.int (nI (c0)), .int (nI (d0))]) S (k_X0_init l hP hD (atE _ _) (by omega)) (cwI 2 hts gX2_add_X0_init rfl rfl rfl (hts _ (List.mem_of_getElem? (i := 8) rfl)) (hts _ (List.mem_of_getElem? (i := 22) rfl)) (hts _ (List.mem_of_getElem? (i := 23) rfl)) rfl (by decide +kernel) ⟨Nat.le_of_ble_eq_true rfl, Nat.le_of_ble_eq_true rfl⟩) hK eT_bl (fun _ _ _ => trivial) hS (fun _ h => h) rfl hl.1 rfl (Nat.le_of_ble_eq_true rfl) dX2_add_90 ⟨(by show _ ≤ 4; omega), (by show _ ≤ 75; omega)⟩ (fun v H locs hB hS hsz hkp => ?_)
  obtain ⟨rfl, hB⟩ := hB
  rw [setE] at hB
  have hP : va_P D aCl ([(la, .inr (4, [.int (mod), .ref (ea), .int (nI (L.length))])), (x, .inr (2, [.ref (la), .ref (na), .int (ju), .int (mi), .int (lo)])), (na, .inl (Y 0, 128, .inl nt)), (ea, .inl (Y 1, cap, .inr (.inr (.inr (.inr es)))))] ++ plW P ++ [(q72, .inr (0, [.int (nI (a)), .int (nI (b)), .int (mkI (a) (b))]))] ++ [(q83, .inr (0, [.int (nI (c0)), .int (nI (d0)), .int (mkI (c0) (d0))]))]) H := hB
  have hD : va_D F ([(la, .inr (4, [.int (mod), .ref (ea), .int (nI (L.length))])), (x, .inr (2, [.ref (la), .ref (na), .int (ju), .int (mi), .int (lo)])), (na, .inl (Y 0, 128, .inl nt)), (ea, .inl (Y 1, cap, .inr (.inr (.inr (.inr es)))))] ++ plW P ++ [(q72, .inr (0, [.int (nI (a)), .int (nI (b)), .int (mkI (a) (b))]))] ++ [(q83, .inr (0, [.int (nI (c0)), .int (nI (d0)), .int (mkI (c0) (d0))]))]) := va_D.same hD (by simp only [List.map_append]; rfl)
  refine lv_astore (lv' := [(8, .ref (q83)), (7, .ref (q72)), (0, .ref (x)), (1, .int (nI (a))), (2, .int (nI (b))), (3, .int (nI (c0))), (4, .int (nI (d0))), (5, .int (nI (q0))), (6, .int (bI (pm)))]) hx hb dX2_add_93 hl (by decide) rfl (fun ls hl => ?_)
  refine lv_aload_n hx hb dX2_add_95 rfl (lv_at hl 2 rfl) ?_
  refine nr_get (C := RX2) (T := TX2) (N := 5) (ci := 2) S (fun _ h => List.mem_cons_of_mem _ (List.mem_append_left _ (List.mem_append_left _ (List.mem_append_left _ (List.mem_append_left _ (List.mem_append_left _ (List.mem_append_right _ (h)))))))) hK hP 1 rfl rfl 0 (by decide) (List.mem_of_getElem? (i := 5) rfl) rfl dX2_add_96 ?_
  refine nr_new (C := RX1) (T := TX1) (N := 5) (ci := 1) (fs := [.int (nI (0)), .null, .null, .int (nI (0)), .int (nI (0))]) S (fun _ h => List.mem_cons_of_mem _ (List.mem_append_left _ (List.mem_append_left _ (List.mem_append_left _ (List.mem_append_right _ (h)))))) tyX1 tyX1_ok (List.mem_of_getElem? (i := 9) rfl) (List.mem_of_getElem? (i := 10) rfl) (List.mem_of_getElem? (i := 11) rfl) hK hP hD hS hFr rfl dfX1 (Nat.le_of_ble_eq_true rfl) (Nat.le_of_ble_eq_true rfl) dX2_add_99 (fun q99 H hP hD hS => ?_)
  have hP : va_P D aCl ([(la, .inr (4, [.int (mod), .ref (ea), .int (nI (L.length))])), (x, .inr (2, [.ref (la), .ref (na), .int (ju), .int (mi), .int (lo)])), (na, .inl (Y 0, 128, .inl nt)), (ea, .inl (Y 1, cap, .inr (.inr (.inr (.inr es)))))] ++ plW P ++ [(q72, .inr (0, [.int (nI (a)), .int (nI (b)), .int (mkI (a) (b))]))] ++ [(q83, .inr (0, [.int (nI (c0)), .int (nI (d0)), .int (mkI (c0) (d0))]))] ++ [(q99, .inr (1, [.int (nI (0)), .null, .null, .int (nI (0)), .int (nI (0))]))]) H := hP
  have hD : va_D F ([(la, .inr (4, [.int (mod), .ref (ea), .int (nI (L.length))])), (x, .inr (2, [.ref (la), .ref (na), .int (ju), .int (mi), .int (lo)])), (na, .inl (Y 0, 128, .inl nt)), (ea, .inl (Y 1, cap, .inr (.inr (.inr (.inr es)))))] ++ plW P ++ [(q72, .inr (0, [.int (nI (a)), .int (nI (b)), .int (mkI (a) (b))]))] ++ [(q83, .inr (0, [.int (nI (c0)), .int (nI (d0)), .int (mkI (c0) (d0))]))] ++ [(q99, .inr (1, [.int (nI (0)), .null, .null, .int (nI (0)), .int (nI (0))]))]) := hD
  refine lv_dup hx hb dX2_add_102 rfl ?_
  refine lv_aload hx hb dX2_add_103 (lv_at hl 1 rfl) ?_
  refine lv_aload hx hb dX2_add_105 (lv_at hl 0 rfl) ?_
  refine lv_iload hx hb dX2_add_107 (lv_at hl 7 rfl) ?_
  refine lv_iload hx hb dX2_add_109 (lv_at hl 8 rfl) ?_
  refine UC.callI (As := [.ref (q72), .ref (q83), .int (nI (q0)), .int (bI (pm))]) S (k_X1_init l hP hD (atE _ _)) (cwI 4 hts gX2_add_X1_init rfl rfl rfl (hts _ (List.mem_of_getElem? (i := 11) rfl)) (hts _ (List.mem_of_getElem? (i := 33) rfl)) (hts _ (List.mem_of_getElem? (i := 34) rfl)) rfl (by decide +kernel) ⟨Nat.le_of_ble_eq_true rfl, Nat.le_of_ble_eq_true rfl⟩) hK eT_bl (fun _ _ _ => trivial) hS (fun _ h => h) rfl hl.1 rfl (Nat.le_of_ble_eq_true rfl) dX2_add_111 ⟨(by show _ ≤ 4; omega), (by show _ ≤ 75; omega)⟩ (fun v H locs hB hS hsz hkp => ?_)
  obtain ⟨rfl, hB⟩ := hB
  rw [setE] at hB
  have hP : va_P D aCl ([(la, .inr (4, [.int (mod), .ref (ea), .int (nI (L.length))])), (x, .inr (2, [.ref (la), .ref (na), .int (ju), .int (mi), .int (lo)])), (na, .inl (Y 0, 128, .inl nt)), (ea, .inl (Y 1, cap, .inr (.inr (.inr (.inr es)))))] ++ plW P ++ [(q72, .inr (0, [.int (nI (a)), .int (nI (b)), .int (mkI (a) (b))]))] ++ [(q83, .inr (0, [.int (nI (c0)), .int (nI (d0)), .int (mkI (c0) (d0))]))] ++ [(q99, .inr (1, [.int (bI (pm)), .ref (q72), .ref (q83), .int (nI (q0)), .int (nI (0))]))]) H := hB
  have hD : va_D F ([(la, .inr (4, [.int (mod), .ref (ea), .int (nI (L.length))])), (x, .inr (2, [.ref (la), .ref (na), .int (ju), .int (mi), .int (lo)])), (na, .inl (Y 0, 128, .inl nt)), (ea, .inl (Y 1, cap, .inr (.inr (.inr (.inr es)))))] ++ plW P ++ [(q72, .inr (0, [.int (nI (a)), .int (nI (b)), .int (mkI (a) (b))]))] ++ [(q83, .inr (0, [.int (nI (c0)), .int (nI (d0)), .int (mkI (c0) (d0))]))] ++ [(q99, .inr (1, [.int (bI (pm)), .ref (q72), .ref (q83), .int (nI (q0)), .int (nI (0))]))]) := va_D.same hD (by simp only [List.map_append]; rfl)
  have hP := m3P hP
  have hD := m3D hD
  have hP : va_P D aCl ([(la, .inr (4, [.int (mod), .ref (ea), .int (nI (L.length))])), (x, .inr (2, [.ref (la), .ref (na), .int (ju), .int (mi), .int (lo)])), (na, .inl (Y 0, 128, .inl nt)), (ea, .inl (Y 1, cap, .inr (.inr (.inr (.inr es)))))] ++ (plW P ++ [(q99, .inr (1, [.int (bI (pm)), .ref (q72), .ref (q83), .int (nI (q0)), .int (nI (0))])), (q72, .inr (0, [.int (nI (a)), .int (nI (b)), .int (mkI (a) (b))])), (q83, .inr (0, [.int (nI (c0)), .int (nI (d0)), .int (mkI (c0) (d0))]))])) H := by rw [← List.append_assoc]; exact hP
  have hD : va_D F ([(la, .inr (4, [.int (mod), .ref (ea), .int (nI (L.length))])), (x, .inr (2, [.ref (la), .ref (na), .int (ju), .int (mi), .int (lo)])), (na, .inl (Y 0, 128, .inl nt)), (ea, .inl (Y 1, cap, .inr (.inr (.inr (.inr es)))))] ++ (plW P ++ [(q99, .inr (1, [.int (bI (pm)), .ref (q72), .ref (q83), .int (nI (q0)), .int (nI (0))])), (q72, .inr (0, [.int (nI (a)), .int (nI (b)), .int (mkI (a) (b))])), (q83, .inr (0, [.int (nI (c0)), .int (nI (d0)), .int (mkI (c0) (d0))]))])) := by rw [← List.append_assoc]; exact hD
  have hv9 : ((plW P ++ [(q99, .inr (1, [.int (bI (pm)), .ref (q72), .ref (q83), .int (nI (q0)), .int (nI (0))])), (q72, .inr (0, [.int (nI (a)), .int (nI (b)), .int (mkI (a) (b))])), (q83, .inr (0, [.int (nI (c0)), .int (nI (d0)), .int (mkI (c0) (d0))]))]) : va_W)[(plW P).length]? = some (q99, .inr (1, [.int (bI (pm)), .ref (q72), .ref (q83), .int (nI (q0)), .int (nI (0))])) := by rw [List.getElem?_append_right (Nat.le_refl _), Nat.sub_self]; rfl
  refine UC.callV (As := [.ref (q99)]) S (k_Jx4a65c_add_9ea2d l hP hD (fun q hq => hFr q (Nat.le_trans hS.1 hq)) hv9 (by omega)) (cwV 1 hts gX2_add_Jx4a65c_add_9ea2d rfl rfl rfl (by decide +kernel) ⟨Nat.le_of_ble_eq_true rfl, Nat.le_of_ble_eq_true rfl⟩) hK eT_bl (fun _ _ _ => trivial) hS (fun _ h => h) (va_recv hK.1 hP (ci := 4) (q0 := 0) rfl rfl) rfl hl.1 rfl (Nat.le_of_ble_eq_true rfl) dX2_add_114 ⟨(by show _ ≤ 4; omega), (by show _ ≤ 75; omega)⟩ (fun v H locs hB hS hsz hkp => ?_)
  obtain ⟨rfl, hB⟩ := hB
  obtain ⟨ea2, cap2, es2, hc2, he2, hv2, hP, hD⟩ := hB
  refine lv_pop hx hb dX2_add_117 rfl ?_
  refine lv_aload_n hx hb dX2_add_118 rfl (lv_at hl 2 rfl) ?_
  refine nr_get (C := RX2) (T := TX2) (N := 5) (ci := 2) S (fun _ h => List.mem_cons_of_mem _ (List.mem_append_left _ (List.mem_append_left _ (List.mem_append_left _ (List.mem_append_left _ (List.mem_append_left _ (List.mem_append_right _ (h)))))))) hK hP 1 rfl rfl 0 (by decide) (List.mem_of_getElem? (i := 5) rfl) rfl dX2_add_119 ?_
  refine Rd.callV (r := (nI (L.length + 1))) (As := []) S (k_Jx4a65c_size_8abf5 l (hP.sub [0] rfl)) (cwV 0 hts gX2_add_Jx4a65c_size_8abf5 rfl rfl rfl (by decide +kernel) ⟨Nat.le_of_ble_eq_true rfl, Nat.le_of_ble_eq_true rfl⟩) hK (va_recv hK.1 hP (ci := 4) (q0 := 0) rfl rfl) rfl hl.1 rfl (Nat.le_of_ble_eq_true rfl) dX2_add_122 ⟨(by show _ ≤ 4; omega), (by show _ ≤ 75; omega)⟩ ?_
  refine lv_iconst (v := (nI (1))) hx hb dX2_add_125 (by decide +kernel) ?_
  refine nr_isub hx hb (by omega) dX2_add_126 ?_
  have hP : va_P D aCl ([(la, .inr (4, [.int (mod + nI 1), .ref (ea2), .int (nI ((L ++ [((a, b, c0, d0, q0, pm, 0), q99, q72, q83)]).length))])), (x, .inr (2, [.ref (la), .ref (na), .int (ju), .int (mi), .int (lo)])), (na, .inl (Y 0, 128, .inl nt)), (ea2, .inl (Y 1, cap2, .inr (.inr (.inr (.inr es2)))))] ++ plW (P ++ [((a, b, c0, d0, q0, pm, 0), q99, q72, q83)])) H := by rw [plW_app, List.length_append]; exact hP
  have hD : va_D F ([(la, .inr (4, [.int (mod + nI 1), .ref (ea2), .int (nI ((L ++ [((a, b, c0, d0, q0, pm, 0), q99, q72, q83)]).length))])), (x, .inr (2, [.ref (la), .ref (na), .int (ju), .int (mi), .int (lo)])), (na, .inl (Y 0, 128, .inl nt)), (ea2, .inl (Y 1, cap2, .inr (.inr (.inr (.inr es2)))))] ++ plW (P ++ [((a, b, c0, d0, q0, pm, 0), q99, q72, q83)])) := by rw [plW_app, List.length_append]; exact hD
  refine W.widen (k := 4) (n := 75) (by omega) (by omega) ?_
  exact hE _ _ _ _ _ dX2_add_127 (vp_nar_int _) (congrArg nI (by omega)) (⟨ea2, cap2, _, es2, nt, L ++ [((a, b, c0, d0, q0, pm, 0), q99, q72, q83)], P ++ [((a, b, c0, d0, q0, pm, 0), q99, q72, q83)], RS_app _ _, cQ_app hq.1 hq.2.1 h15 hq.2.2.2.2 hr hc2 he2 hv2, hP, hD⟩) hS
set_option maxHeartbeats 4000000 in
set_option maxRecDepth 100000 in
theorem k_X2_add_f (l : Launch) {D : va_G} {Y : Nat → ClassId} {H0 : Heap} {F : Nat → Prop} {la x na ea : Nat} {mod ju mi lo : Int32} {es : Nat → Option Nat} {nt : Nat → Int32} {L P : List RA} {a b c0 d0 q0 : Nat} {pm : Bool} (hP : va_P D aCl ([(la, .inr (4, [.int (mod), .ref (ea), .int (nI (L.length))])), (x, .inr (2, [.ref (la), .ref (na), .int (ju), .int (mi), .int (lo)])), (na, .inl (Y 0, 128, .inl nt)), (ea, .inl (Y 1, L.length, .inr (.inr (.inr (.inr es)))))] ++ plW P) H0) (hD : va_D F ([(la, .inr (4, [.int (mod), .ref (ea), .int (nI (L.length))])), (x, .inr (2, [.ref (la), .ref (na), .int (ju), .int (mi), .int (lo)])), (na, .inl (Y 0, 128, .inl nt)), (ea, .inl (Y 1, L.length, .inr (.inr (.inr (.inr es)))))] ++ plW P)) (hFr : ∀ q, H0.size ≤ q → F q) (hq : cQ L.length es L P) (hfull : 1 ≤ L.length) (h15 : L.length ≤ 15) (hr : rvOk (a, b, c0, d0, q0, pm, 0)) : UC l yX2_add wsX2_add 7 4 75 D Y (eT) [.ref (x), .int (nI (a)), .int (nI (b)), .int (nI (c0)), .int (nI (d0)), .int (nI (q0)), .int (bI (pm))] H0 F (bI_ (nI (L.length)) (fun H => ∃ ea2 cap2, ccB D Y F la x na ea2 cap2 ju mi lo (RS L ++ [(a, b, c0, d0, q0, pm, 0)]) H)) := by
  refine UCi.start (cc := cX2_add) (maxL := 9) (rt := .int) (by decide) rfl (Nat.le_of_ble_eq_true rfl) ?_
  intro p e s m args below meth c ls H locs Q S hK hH0 hE0 hHH hS hl hin hE
  rw [← hHH] at hP
  have S : CallFix p m c cX2_add 9 s args wsX2_add RX2 := S
  have hx := S.1
  have hb := S.2.1
  have hts := S.2.2.2.2
  have hl : lv_has ls 9 [(0, .ref (x)), (1, .int (nI (a))), (2, .int (nI (b))), (3, .int (nI (c0))), (4, .int (nI (d0))), (5, .int (nI (q0))), (6, .int (bI (pm)))] := hl
  have hv := hr
  unfold rvOk at hv
  have hv : a ≤ b ∧ b ≤ 31 ∧ c0 ≤ d0 ∧ d0 ≤ 31 ∧ 1 ≤ q0 ∧ q0 ≤ 15 := hv
  have hcq := hq.2.2.2.1
  refine lv_iload_n hx hb dX2_add_0 rfl (lv_at hl 1 rfl) ?_
  refine lv_iload_n hx hb dX2_add_1 rfl (lv_at hl 2 rfl) ?_
  refine Rd.callS (r := (bI (rgB (nI (a)) (nI (b))))) (As := [.int (nI (a)), .int (nI (b))]) S (k_X2_isRange l (nI (a)) (nI (b))) (va_cwS 2 hts gX2_add_X2_isRange rfl rfl rfl (by decide +kernel) ⟨Nat.le_of_ble_eq_true rfl, Nat.le_of_ble_eq_true rfl⟩) hK rfl hl.1 rfl (Nat.le_of_ble_eq_true rfl) dX2_add_2 ⟨(by show _ ≤ 4; omega), (by show _ ≤ 75; omega)⟩ ?_
  refine nr_ifB_eq (tgt := 17) hx hb dX2_add_5 (by decide) (fun c_5 => absurd c_5 (by rw [rg_N hv.1 hv.2.1]; decide)) (fun c_5 => ?_)
  refine lv_iload_n hx hb dX2_add_8 rfl (lv_at hl 3 rfl) ?_
  refine lv_iload hx hb dX2_add_9 (lv_at hl 4 rfl) ?_
  refine Rd.callS (r := (bI (rgB (nI (c0)) (nI (d0))))) (As := [.int (nI (c0)), .int (nI (d0))]) S (k_X2_isRange l (nI (c0)) (nI (d0))) (va_cwS 2 hts gX2_add_X2_isRange rfl rfl rfl (by decide +kernel) ⟨Nat.le_of_ble_eq_true rfl, Nat.le_of_ble_eq_true rfl⟩) hK rfl hl.1 rfl (Nat.le_of_ble_eq_true rfl) dX2_add_11 ⟨(by show _ ≤ 4; omega), (by show _ ≤ 75; omega)⟩ ?_
  refine nr_ifB_ne (tgt := 27) hx hb dX2_add_14 (by decide) (fun c_14 => ?_) (fun c_14 => absurd c_14 (by rw [rg_N hv.2.2.1 hv.2.2.2.1]; decide))
  refine lv_iload hx hb dX2_add_27 (lv_at hl 5 rfl) ?_
  refine lv_iconst (v := (nI (1))) hx hb dX2_add_29 (by decide +kernel) ?_
  refine nr_icmp_lt (tgt := 40) hx hb (by omega) (by omega) dX2_add_30 (by decide) (fun c_30 => absurd c_30 (by omega)) (fun c_30 => ?_)
  refine lv_iload hx hb dX2_add_33 (lv_at hl 5 rfl) ?_
  refine lv_bipush (v := (nI (15))) hx hb dX2_add_35 (by decide +kernel) ?_
  refine nr_icmp_le (tgt := 50) hx hb (by omega) (by omega) dX2_add_37 (by decide) (fun c_37 => ?_) (fun c_37 => absurd c_37 (by omega))
  refine lv_aload_n hx hb dX2_add_50 rfl (lv_at hl 0 rfl) ?_
  refine nr_get (C := RX2) (T := TX2) (N := 5) (ci := 2) S (fun _ h => List.mem_cons_of_mem _ (List.mem_append_left _ (List.mem_append_left _ (List.mem_append_left _ (List.mem_append_left _ (List.mem_append_left _ (List.mem_append_right _ (h)))))))) hK hP 1 rfl rfl 0 (by decide) (List.mem_of_getElem? (i := 5) rfl) rfl dX2_add_51 ?_
  refine Rd.callV (r := (nI (L.length))) (As := []) S (k_Jx4a65c_size_8abf5 l (hP.sub [0] rfl)) (cwV 0 hts gX2_add_Jx4a65c_size_8abf5 rfl rfl rfl (by decide +kernel) ⟨Nat.le_of_ble_eq_true rfl, Nat.le_of_ble_eq_true rfl⟩) hK (va_recv hK.1 hP (ci := 4) (q0 := 0) rfl rfl) rfl hl.1 rfl (Nat.le_of_ble_eq_true rfl) dX2_add_54 ⟨(by show _ ≤ 4; omega), (by show _ ≤ 75; omega)⟩ ?_
  refine lv_bipush (v := (nI (16))) hx hb dX2_add_57 (by decide +kernel) ?_
  refine nr_icmp_lt (tgt := 72) hx hb (by omega) (by omega) dX2_add_59 (by decide) (fun c_59 => ?_) (fun c_59 => absurd c_59 (by omega))
  refine nr_new (C := RX0) (T := TX0) (N := 3) (ci := 0) (fs := [.int (nI (0)), .int (nI (0)), .int (nI (0))]) S (fun _ h => List.mem_cons_of_mem _ (List.mem_append_left _ (List.mem_append_left _ (List.mem_append_left _ (List.mem_append_left _ (List.mem_append_right _ (h))))))) tyX0 tyX0_ok (List.mem_of_getElem? (i := 6) rfl) (List.mem_of_getElem? (i := 7) rfl) (List.mem_of_getElem? (i := 8) rfl) hK hP hD hS hFr rfl dfX0 (Nat.le_of_ble_eq_true rfl) (Nat.le_of_ble_eq_true rfl) dX2_add_72 (fun q72 H hP hD hS => ?_)
  have hP : va_P D aCl ([(la, .inr (4, [.int (mod), .ref (ea), .int (nI (L.length))])), (x, .inr (2, [.ref (la), .ref (na), .int (ju), .int (mi), .int (lo)])), (na, .inl (Y 0, 128, .inl nt)), (ea, .inl (Y 1, L.length, .inr (.inr (.inr (.inr es)))))] ++ plW P ++ [(q72, .inr (0, [.int (nI (0)), .int (nI (0)), .int (nI (0))]))]) H := hP
  have hD : va_D F ([(la, .inr (4, [.int (mod), .ref (ea), .int (nI (L.length))])), (x, .inr (2, [.ref (la), .ref (na), .int (ju), .int (mi), .int (lo)])), (na, .inl (Y 0, 128, .inl nt)), (ea, .inl (Y 1, L.length, .inr (.inr (.inr (.inr es)))))] ++ plW P ++ [(q72, .inr (0, [.int (nI (0)), .int (nI (0)), .int (nI (0))]))]) := hD
  refine lv_dup hx hb dX2_add_75 rfl ?_
  refine lv_iload_n hx hb dX2_add_76 rfl (lv_at hl 1 rfl) ?_
  refine lv_iload_n hx hb dX2_add_77 rfl (lv_at hl 2 rfl) ?_
  refine UC.callI (As := [.int (nI (a)), .int (nI (b))]) S (k_X0_init l hP hD (atE _ _) (by omega)) (cwI 2 hts gX2_add_X0_init rfl rfl rfl (hts _ (List.mem_of_getElem? (i := 8) rfl)) (hts _ (List.mem_of_getElem? (i := 22) rfl)) (hts _ (List.mem_of_getElem? (i := 23) rfl)) rfl (by decide +kernel) ⟨Nat.le_of_ble_eq_true rfl, Nat.le_of_ble_eq_true rfl⟩) hK eT_bl (fun _ _ _ => trivial) hS (fun _ h => h) rfl hl.1 rfl (Nat.le_of_ble_eq_true rfl) dX2_add_78 ⟨(by show _ ≤ 4; omega), (by show _ ≤ 75; omega)⟩ (fun v H locs hB hS hsz hkp => ?_)
  obtain ⟨rfl, hB⟩ := hB
  rw [setE] at hB
  have hP : va_P D aCl ([(la, .inr (4, [.int (mod), .ref (ea), .int (nI (L.length))])), (x, .inr (2, [.ref (la), .ref (na), .int (ju), .int (mi), .int (lo)])), (na, .inl (Y 0, 128, .inl nt)), (ea, .inl (Y 1, L.length, .inr (.inr (.inr (.inr es)))))] ++ plW P ++ [(q72, .inr (0, [.int (nI (a)), .int (nI (b)), .int (mkI (a) (b))]))]) H := hB
  have hD : va_D F ([(la, .inr (4, [.int (mod), .ref (ea), .int (nI (L.length))])), (x, .inr (2, [.ref (la), .ref (na), .int (ju), .int (mi), .int (lo)])), (na, .inl (Y 0, 128, .inl nt)), (ea, .inl (Y 1, L.length, .inr (.inr (.inr (.inr es)))))] ++ plW P ++ [(q72, .inr (0, [.int (nI (a)), .int (nI (b)), .int (mkI (a) (b))]))]) := va_D.same hD (by simp only [List.map_append]; rfl)
  refine lv_astore (lv' := [(7, .ref (q72)), (0, .ref (x)), (1, .int (nI (a))), (2, .int (nI (b))), (3, .int (nI (c0))), (4, .int (nI (d0))), (5, .int (nI (q0))), (6, .int (bI (pm)))]) hx hb dX2_add_81 hl (by decide) rfl (fun ls hl => ?_)
  refine nr_new (C := RX0) (T := TX0) (N := 3) (ci := 0) (fs := [.int (nI (0)), .int (nI (0)), .int (nI (0))]) S (fun _ h => List.mem_cons_of_mem _ (List.mem_append_left _ (List.mem_append_left _ (List.mem_append_left _ (List.mem_append_left _ (List.mem_append_right _ (h))))))) tyX0 tyX0_ok (List.mem_of_getElem? (i := 6) rfl) (List.mem_of_getElem? (i := 7) rfl) (List.mem_of_getElem? (i := 8) rfl) hK hP hD hS hFr rfl dfX0 (Nat.le_of_ble_eq_true rfl) (Nat.le_of_ble_eq_true rfl) dX2_add_83 (fun q83 H hP hD hS => ?_)
  have hP : va_P D aCl ([(la, .inr (4, [.int (mod), .ref (ea), .int (nI (L.length))])), (x, .inr (2, [.ref (la), .ref (na), .int (ju), .int (mi), .int (lo)])), (na, .inl (Y 0, 128, .inl nt)), (ea, .inl (Y 1, L.length, .inr (.inr (.inr (.inr es)))))] ++ plW P ++ [(q72, .inr (0, [.int (nI (a)), .int (nI (b)), .int (mkI (a) (b))]))] ++ [(q83, .inr (0, [.int (nI (0)), .int (nI (0)), .int (nI (0))]))]) H := hP
  have hD : va_D F ([(la, .inr (4, [.int (mod), .ref (ea), .int (nI (L.length))])), (x, .inr (2, [.ref (la), .ref (na), .int (ju), .int (mi), .int (lo)])), (na, .inl (Y 0, 128, .inl nt)), (ea, .inl (Y 1, L.length, .inr (.inr (.inr (.inr es)))))] ++ plW P ++ [(q72, .inr (0, [.int (nI (a)), .int (nI (b)), .int (mkI (a) (b))]))] ++ [(q83, .inr (0, [.int (nI (0)), .int (nI (0)), .int (nI (0))]))]) := hD
  refine lv_dup hx hb dX2_add_86 rfl ?_
  refine lv_iload_n hx hb dX2_add_87 rfl (lv_at hl 4 rfl) ?_
  refine lv_iload hx hb dX2_add_88 (lv_at hl 5 rfl) ?_
  refine UC.callI (As := [.int (nI (c0)), .int (nI (d0))]) S (k_X0_init l hP hD (atE _ _) (by omega)) (cwI 2 hts gX2_add_X0_init rfl rfl rfl (hts _ (List.mem_of_getElem? (i := 8) rfl)) (hts _ (List.mem_of_getElem? (i := 22) rfl)) (hts _ (List.mem_of_getElem? (i := 23) rfl)) rfl (by decide +kernel) ⟨Nat.le_of_ble_eq_true rfl, Nat.le_of_ble_eq_true rfl⟩) hK eT_bl (fun _ _ _ => trivial) hS (fun _ h => h) rfl hl.1 rfl (Nat.le_of_ble_eq_true rfl) dX2_add_90 ⟨(by show _ ≤ 4; omega), (by show _ ≤ 75; omega)⟩ (fun v H locs hB hS hsz hkp => ?_)
  obtain ⟨rfl, hB⟩ := hB
  rw [setE] at hB
  have hP : va_P D aCl ([(la, .inr (4, [.int (mod), .ref (ea), .int (nI (L.length))])), (x, .inr (2, [.ref (la), .ref (na), .int (ju), .int (mi), .int (lo)])), (na, .inl (Y 0, 128, .inl nt)), (ea, .inl (Y 1, L.length, .inr (.inr (.inr (.inr es)))))] ++ plW P ++ [(q72, .inr (0, [.int (nI (a)), .int (nI (b)), .int (mkI (a) (b))]))] ++ [(q83, .inr (0, [.int (nI (c0)), .int (nI (d0)), .int (mkI (c0) (d0))]))]) H := hB
  have hD : va_D F ([(la, .inr (4, [.int (mod), .ref (ea), .int (nI (L.length))])), (x, .inr (2, [.ref (la), .ref (na), .int (ju), .int (mi), .int (lo)])), (na, .inl (Y 0, 128, .inl nt)), (ea, .inl (Y 1, L.length, .inr (.inr (.inr (.inr es)))))] ++ plW P ++ [(q72, .inr (0, [.int (nI (a)), .int (nI (b)), .int (mkI (a) (b))]))] ++ [(q83, .inr (0, [.int (nI (c0)), .int (nI (d0)), .int (mkI (c0) (d0))]))]) := va_D.same hD (by simp only [List.map_append]; rfl)
  refine lv_astore (lv' := [(8, .ref (q83)), (7, .ref (q72)), (0, .ref (x)), (1, .int (nI (a))), (2, .int (nI (b))), (3, .int (nI (c0))), (4, .int (nI (d0))), (5, .int (nI (q0))), (6, .int (bI (pm)))]) hx hb dX2_add_93 hl (by decide) rfl (fun ls hl => ?_)
  refine lv_aload_n hx hb dX2_add_95 rfl (lv_at hl 2 rfl) ?_
  refine nr_get (C := RX2) (T := TX2) (N := 5) (ci := 2) S (fun _ h => List.mem_cons_of_mem _ (List.mem_append_left _ (List.mem_append_left _ (List.mem_append_left _ (List.mem_append_left _ (List.mem_append_left _ (List.mem_append_right _ (h)))))))) hK hP 1 rfl rfl 0 (by decide) (List.mem_of_getElem? (i := 5) rfl) rfl dX2_add_96 ?_
  refine nr_new (C := RX1) (T := TX1) (N := 5) (ci := 1) (fs := [.int (nI (0)), .null, .null, .int (nI (0)), .int (nI (0))]) S (fun _ h => List.mem_cons_of_mem _ (List.mem_append_left _ (List.mem_append_left _ (List.mem_append_left _ (List.mem_append_right _ (h)))))) tyX1 tyX1_ok (List.mem_of_getElem? (i := 9) rfl) (List.mem_of_getElem? (i := 10) rfl) (List.mem_of_getElem? (i := 11) rfl) hK hP hD hS hFr rfl dfX1 (Nat.le_of_ble_eq_true rfl) (Nat.le_of_ble_eq_true rfl) dX2_add_99 (fun q99 H hP hD hS => ?_)
  have hP : va_P D aCl ([(la, .inr (4, [.int (mod), .ref (ea), .int (nI (L.length))])), (x, .inr (2, [.ref (la), .ref (na), .int (ju), .int (mi), .int (lo)])), (na, .inl (Y 0, 128, .inl nt)), (ea, .inl (Y 1, L.length, .inr (.inr (.inr (.inr es)))))] ++ plW P ++ [(q72, .inr (0, [.int (nI (a)), .int (nI (b)), .int (mkI (a) (b))]))] ++ [(q83, .inr (0, [.int (nI (c0)), .int (nI (d0)), .int (mkI (c0) (d0))]))] ++ [(q99, .inr (1, [.int (nI (0)), .null, .null, .int (nI (0)), .int (nI (0))]))]) H := hP
  have hD : va_D F ([(la, .inr (4, [.int (mod), .ref (ea), .int (nI (L.length))])), (x, .inr (2, [.ref (la), .ref (na), .int (ju), .int (mi), .int (lo)])), (na, .inl (Y 0, 128, .inl nt)), (ea, .inl (Y 1, L.length, .inr (.inr (.inr (.inr es)))))] ++ plW P ++ [(q72, .inr (0, [.int (nI (a)), .int (nI (b)), .int (mkI (a) (b))]))] ++ [(q83, .inr (0, [.int (nI (c0)), .int (nI (d0)), .int (mkI (c0) (d0))]))] ++ [(q99, .inr (1, [.int (nI (0)), .null, .null, .int (nI (0)), .int (nI (0))]))]) := hD
  refine lv_dup hx hb dX2_add_102 rfl ?_
  refine lv_aload hx hb dX2_add_103 (lv_at hl 1 rfl) ?_
  refine lv_aload hx hb dX2_add_105 (lv_at hl 0 rfl) ?_
  refine lv_iload hx hb dX2_add_107 (lv_at hl 7 rfl) ?_
  refine lv_iload hx hb dX2_add_109 (lv_at hl 8 rfl) ?_
  refine UC.callI (As := [.ref (q72), .ref (q83), .int (nI (q0)), .int (bI (pm))]) S (k_X1_init l hP hD (atE _ _)) (cwI 4 hts gX2_add_X1_init rfl rfl rfl (hts _ (List.mem_of_getElem? (i := 11) rfl)) (hts _ (List.mem_of_getElem? (i := 33) rfl)) (hts _ (List.mem_of_getElem? (i := 34) rfl)) rfl (by decide +kernel) ⟨Nat.le_of_ble_eq_true rfl, Nat.le_of_ble_eq_true rfl⟩) hK eT_bl (fun _ _ _ => trivial) hS (fun _ h => h) rfl hl.1 rfl (Nat.le_of_ble_eq_true rfl) dX2_add_111 ⟨(by show _ ≤ 4; omega), (by show _ ≤ 75; omega)⟩ (fun v H locs hB hS hsz hkp => ?_)
  obtain ⟨rfl, hB⟩ := hB
  rw [setE] at hB
  have hP : va_P D aCl ([(la, .inr (4, [.int (mod), .ref (ea), .int (nI (L.length))])), (x, .inr (2, [.ref (la), .ref (na), .int (ju), .int (mi), .int (lo)])), (na, .inl (Y 0, 128, .inl nt)), (ea, .inl (Y 1, L.length, .inr (.inr (.inr (.inr es)))))] ++ plW P ++ [(q72, .inr (0, [.int (nI (a)), .int (nI (b)), .int (mkI (a) (b))]))] ++ [(q83, .inr (0, [.int (nI (c0)), .int (nI (d0)), .int (mkI (c0) (d0))]))] ++ [(q99, .inr (1, [.int (bI (pm)), .ref (q72), .ref (q83), .int (nI (q0)), .int (nI (0))]))]) H := hB
  have hD : va_D F ([(la, .inr (4, [.int (mod), .ref (ea), .int (nI (L.length))])), (x, .inr (2, [.ref (la), .ref (na), .int (ju), .int (mi), .int (lo)])), (na, .inl (Y 0, 128, .inl nt)), (ea, .inl (Y 1, L.length, .inr (.inr (.inr (.inr es)))))] ++ plW P ++ [(q72, .inr (0, [.int (nI (a)), .int (nI (b)), .int (mkI (a) (b))]))] ++ [(q83, .inr (0, [.int (nI (c0)), .int (nI (d0)), .int (mkI (c0) (d0))]))] ++ [(q99, .inr (1, [.int (bI (pm)), .ref (q72), .ref (q83), .int (nI (q0)), .int (nI (0))]))]) := va_D.same hD (by simp only [List.map_append]; rfl)
  have hP := m3P hP
  have hD := m3D hD
  have hP : va_P D aCl ([(la, .inr (4, [.int (mod), .ref (ea), .int (nI (L.length))])), (x, .inr (2, [.ref (la), .ref (na), .int (ju), .int (mi), .int (lo)])), (na, .inl (Y 0, 128, .inl nt)), (ea, .inl (Y 1, L.length, .inr (.inr (.inr (.inr es)))))] ++ (plW P ++ [(q99, .inr (1, [.int (bI (pm)), .ref (q72), .ref (q83), .int (nI (q0)), .int (nI (0))])), (q72, .inr (0, [.int (nI (a)), .int (nI (b)), .int (mkI (a) (b))])), (q83, .inr (0, [.int (nI (c0)), .int (nI (d0)), .int (mkI (c0) (d0))]))])) H := by rw [← List.append_assoc]; exact hP
  have hD : va_D F ([(la, .inr (4, [.int (mod), .ref (ea), .int (nI (L.length))])), (x, .inr (2, [.ref (la), .ref (na), .int (ju), .int (mi), .int (lo)])), (na, .inl (Y 0, 128, .inl nt)), (ea, .inl (Y 1, L.length, .inr (.inr (.inr (.inr es)))))] ++ (plW P ++ [(q99, .inr (1, [.int (bI (pm)), .ref (q72), .ref (q83), .int (nI (q0)), .int (nI (0))])), (q72, .inr (0, [.int (nI (a)), .int (nI (b)), .int (mkI (a) (b))])), (q83, .inr (0, [.int (nI (c0)), .int (nI (d0)), .int (mkI (c0) (d0))]))])) := by rw [← List.append_assoc]; exact hD
  have hv9 : ((plW P ++ [(q99, .inr (1, [.int (bI (pm)), .ref (q72), .ref (q83), .int (nI (q0)), .int (nI (0))])), (q72, .inr (0, [.int (nI (a)), .int (nI (b)), .int (mkI (a) (b))])), (q83, .inr (0, [.int (nI (c0)), .int (nI (d0)), .int (mkI (c0) (d0))]))]) : va_W)[(plW P).length]? = some (q99, .inr (1, [.int (bI (pm)), .ref (q72), .ref (q83), .int (nI (q0)), .int (nI (0))])) := by rw [List.getElem?_append_right (Nat.le_refl _), Nat.sub_self]; rfl
  refine UC.callV (As := [.ref (q99)]) S (k_Jx4a65c_add_9ea2d_f l hP hD (fun q hq => hFr q (Nat.le_trans hS.1 hq)) hv9 (fun j hj => by obtain ⟨y, k, fs, e1, e2⟩ := hes_of hq j hj; exact ⟨y, k, fs, e1, atA e2⟩) (by omega)) (cwV 1 hts gX2_add_Jx4a65c_add_9ea2d rfl rfl rfl (by decide +kernel) ⟨Nat.le_of_ble_eq_true rfl, Nat.le_of_ble_eq_true rfl⟩) hK eT_bl (fun _ _ _ => trivial) hS (fun _ h => h) (va_recv hK.1 hP (ci := 4) (q0 := 0) rfl rfl) rfl hl.1 rfl (Nat.le_of_ble_eq_true rfl) dX2_add_114 ⟨(by show _ ≤ 4; omega), (by show _ ≤ 75; omega)⟩ (fun v H locs hB hS hsz hkp => ?_)
  obtain ⟨rfl, hB⟩ := hB
  obtain ⟨ea2, cap2, es2, hc2, he2, hv2, hP, hD⟩ := hB
  refine lv_pop hx hb dX2_add_117 rfl ?_
  refine lv_aload_n hx hb dX2_add_118 rfl (lv_at hl 2 rfl) ?_
  refine nr_get (C := RX2) (T := TX2) (N := 5) (ci := 2) S (fun _ h => List.mem_cons_of_mem _ (List.mem_append_left _ (List.mem_append_left _ (List.mem_append_left _ (List.mem_append_left _ (List.mem_append_left _ (List.mem_append_right _ (h)))))))) hK hP 1 rfl rfl 0 (by decide) (List.mem_of_getElem? (i := 5) rfl) rfl dX2_add_119 ?_
  refine Rd.callV (r := (nI (L.length + 1))) (As := []) S (k_Jx4a65c_size_8abf5 l (hP.sub [0] rfl)) (cwV 0 hts gX2_add_Jx4a65c_size_8abf5 rfl rfl rfl (by decide +kernel) ⟨Nat.le_of_ble_eq_true rfl, Nat.le_of_ble_eq_true rfl⟩) hK (va_recv hK.1 hP (ci := 4) (q0 := 0) rfl rfl) rfl hl.1 rfl (Nat.le_of_ble_eq_true rfl) dX2_add_122 ⟨(by show _ ≤ 4; omega), (by show _ ≤ 75; omega)⟩ ?_
  refine lv_iconst (v := (nI (1))) hx hb dX2_add_125 (by decide +kernel) ?_
  refine nr_isub hx hb (by omega) dX2_add_126 ?_
  have hP : va_P D aCl ([(la, .inr (4, [.int (mod + nI 1), .ref (ea2), .int (nI ((L ++ [((a, b, c0, d0, q0, pm, 0), q99, q72, q83)]).length))])), (x, .inr (2, [.ref (la), .ref (na), .int (ju), .int (mi), .int (lo)])), (na, .inl (Y 0, 128, .inl nt)), (ea2, .inl (Y 1, cap2, .inr (.inr (.inr (.inr es2)))))] ++ plW (P ++ [((a, b, c0, d0, q0, pm, 0), q99, q72, q83)])) H := by rw [plW_app, List.length_append]; exact hP
  have hD : va_D F ([(la, .inr (4, [.int (mod + nI 1), .ref (ea2), .int (nI ((L ++ [((a, b, c0, d0, q0, pm, 0), q99, q72, q83)]).length))])), (x, .inr (2, [.ref (la), .ref (na), .int (ju), .int (mi), .int (lo)])), (na, .inl (Y 0, 128, .inl nt)), (ea2, .inl (Y 1, cap2, .inr (.inr (.inr (.inr es2)))))] ++ plW (P ++ [((a, b, c0, d0, q0, pm, 0), q99, q72, q83)])) := by rw [plW_app, List.length_append]; exact hD
  refine W.widen (k := 4) (n := 75) (by omega) (by omega) ?_
  exact hE _ _ _ _ _ dX2_add_127 (vp_nar_int _) (congrArg nI (by omega)) (⟨ea2, cap2, _, es2, nt, L ++ [((a, b, c0, d0, q0, pm, 0), q99, q72, q83)], P ++ [((a, b, c0, d0, q0, pm, 0), q99, q72, q83)], RS_app _ _, cQ_app hq.1 hq.2.1 h15 hq.2.2.2.2 hr hc2 he2 hv2, hP, hD⟩) hS
set_option maxHeartbeats 4000000 in
set_option maxRecDepth 100000 in
theorem k_X2_add_z (l : Launch) {D : va_G} {Y : Nat → ClassId} {H0 : Heap} {F : Nat → Prop} {la x na t0 : Nat} {mod ju mi lo : Int32} {nt : Nat → Int32} {a b c0 d0 q0 : Nat} {pm : Bool} (hP : va_P D aCl ([(la, .inr (4, [.int (mod), .ref (t0), .int (nI (0))])), (x, .inr (2, [.ref (la), .ref (na), .int (ju), .int (mi), .int (lo)])), (na, .inl (Y 0, 128, .inl nt))] ++ ([] : va_W)) H0) (hD : va_D F ([(la, .inr (4, [.int (mod), .ref (t0), .int (nI (0))])), (x, .inr (2, [.ref (la), .ref (na), .int (ju), .int (mi), .int (lo)])), (na, .inl (Y 0, 128, .inl nt))] ++ ([] : va_W))) (hFr : ∀ q, H0.size ≤ q → F q) (hr : rvOk (a, b, c0, d0, q0, pm, 0)) : UC l yX2_add wsX2_add 7 4 75 D Y (eZ t0 F) [.ref (x), .int (nI (a)), .int (nI (b)), .int (nI (c0)), .int (nI (d0)), .int (nI (q0)), .int (bI (pm))] H0 F (bI_ (nI (0)) (fun H => ∃ ea2 cap2, ccB D Y F la x na ea2 cap2 ju mi lo (([] : List RV) ++ [(a, b, c0, d0, q0, pm, 0)]) H)) := by
  refine UCi.start (cc := cX2_add) (maxL := 9) (rt := .int) (by decide) rfl (Nat.le_of_ble_eq_true rfl) ?_
  intro p e s m args below meth c ls H locs Q S hK hH0 hE0 hHH hS hl hin hE
  rw [← hHH] at hP
  have S : CallFix p m c cX2_add 9 s args wsX2_add RX2 := S
  have hx := S.1
  have hb := S.2.1
  have hts := S.2.2.2.2
  have hl : lv_has ls 9 [(0, .ref (x)), (1, .int (nI (a))), (2, .int (nI (b))), (3, .int (nI (c0))), (4, .int (nI (d0))), (5, .int (nI (q0))), (6, .int (bI (pm)))] := hl
  subst hH0
  have hv := hr
  unfold rvOk at hv
  have hv : a ≤ b ∧ b ≤ 31 ∧ c0 ≤ d0 ∧ d0 ≤ 31 ∧ 1 ≤ q0 ∧ q0 ≤ 15 := hv
  refine lv_iload_n hx hb dX2_add_0 rfl (lv_at hl 1 rfl) ?_
  refine lv_iload_n hx hb dX2_add_1 rfl (lv_at hl 2 rfl) ?_
  refine Rd.callS (r := (bI (rgB (nI (a)) (nI (b))))) (As := [.int (nI (a)), .int (nI (b))]) S (k_X2_isRange l (nI (a)) (nI (b))) (va_cwS 2 hts gX2_add_X2_isRange rfl rfl rfl (by decide +kernel) ⟨Nat.le_of_ble_eq_true rfl, Nat.le_of_ble_eq_true rfl⟩) hK rfl hl.1 rfl (Nat.le_of_ble_eq_true rfl) dX2_add_2 ⟨(by show _ ≤ 4; omega), (by show _ ≤ 75; omega)⟩ ?_
  refine nr_ifB_eq (tgt := 17) hx hb dX2_add_5 (by decide) (fun c_5 => absurd c_5 (by rw [rg_N hv.1 hv.2.1]; decide)) (fun c_5 => ?_)
  refine lv_iload_n hx hb dX2_add_8 rfl (lv_at hl 3 rfl) ?_
  refine lv_iload hx hb dX2_add_9 (lv_at hl 4 rfl) ?_
  refine Rd.callS (r := (bI (rgB (nI (c0)) (nI (d0))))) (As := [.int (nI (c0)), .int (nI (d0))]) S (k_X2_isRange l (nI (c0)) (nI (d0))) (va_cwS 2 hts gX2_add_X2_isRange rfl rfl rfl (by decide +kernel) ⟨Nat.le_of_ble_eq_true rfl, Nat.le_of_ble_eq_true rfl⟩) hK rfl hl.1 rfl (Nat.le_of_ble_eq_true rfl) dX2_add_11 ⟨(by show _ ≤ 4; omega), (by show _ ≤ 75; omega)⟩ ?_
  refine nr_ifB_ne (tgt := 27) hx hb dX2_add_14 (by decide) (fun c_14 => ?_) (fun c_14 => absurd c_14 (by rw [rg_N hv.2.2.1 hv.2.2.2.1]; decide))
  refine lv_iload hx hb dX2_add_27 (lv_at hl 5 rfl) ?_
  refine lv_iconst (v := (nI (1))) hx hb dX2_add_29 (by decide +kernel) ?_
  refine nr_icmp_lt (tgt := 40) hx hb (by omega) (by omega) dX2_add_30 (by decide) (fun c_30 => absurd c_30 (by omega)) (fun c_30 => ?_)
  refine lv_iload hx hb dX2_add_33 (lv_at hl 5 rfl) ?_
  refine lv_bipush (v := (nI (15))) hx hb dX2_add_35 (by decide +kernel) ?_
  refine nr_icmp_le (tgt := 50) hx hb (by omega) (by omega) dX2_add_37 (by decide) (fun c_37 => ?_) (fun c_37 => absurd c_37 (by omega))
  refine lv_aload_n hx hb dX2_add_50 rfl (lv_at hl 0 rfl) ?_
  refine nr_get (C := RX2) (T := TX2) (N := 5) (ci := 2) S (fun _ h => List.mem_cons_of_mem _ (List.mem_append_left _ (List.mem_append_left _ (List.mem_append_left _ (List.mem_append_left _ (List.mem_append_left _ (List.mem_append_right _ (h)))))))) hK hP 1 rfl rfl 0 (by decide) (List.mem_of_getElem? (i := 5) rfl) rfl dX2_add_51 ?_
  refine Rd.callV (r := (nI (0))) (As := []) S (k_Jx4a65c_size_8abf5 l (hP.sub [0] rfl)) (cwV 0 hts gX2_add_Jx4a65c_size_8abf5 rfl rfl rfl (by decide +kernel) ⟨Nat.le_of_ble_eq_true rfl, Nat.le_of_ble_eq_true rfl⟩) hK (va_recv hK.1 hP (ci := 4) (q0 := 0) rfl rfl) rfl hl.1 rfl (Nat.le_of_ble_eq_true rfl) dX2_add_54 ⟨(by show _ ≤ 4; omega), (by show _ ≤ 75; omega)⟩ ?_
  refine lv_bipush (v := (nI (16))) hx hb dX2_add_57 (by decide +kernel) ?_
  refine nr_icmp_lt (tgt := 72) hx hb (by omega) (by omega) dX2_add_59 (by decide) (fun c_59 => ?_) (fun c_59 => absurd c_59 (by decide))
  refine nr_new (C := RX0) (T := TX0) (N := 3) (ci := 0) (fs := [.int (nI (0)), .int (nI (0)), .int (nI (0))]) S (fun _ h => List.mem_cons_of_mem _ (List.mem_append_left _ (List.mem_append_left _ (List.mem_append_left _ (List.mem_append_left _ (List.mem_append_right _ (h))))))) tyX0 tyX0_ok (List.mem_of_getElem? (i := 6) rfl) (List.mem_of_getElem? (i := 7) rfl) (List.mem_of_getElem? (i := 8) rfl) hK hP hD hS hFr rfl dfX0 (Nat.le_of_ble_eq_true rfl) (Nat.le_of_ble_eq_true rfl) dX2_add_72 (fun q72 H hP hD hS => ?_)
  have hP : va_P D aCl ([(la, .inr (4, [.int (mod), .ref (t0), .int (nI (0))])), (x, .inr (2, [.ref (la), .ref (na), .int (ju), .int (mi), .int (lo)])), (na, .inl (Y 0, 128, .inl nt))] ++ ([] : va_W) ++ [(q72, .inr (0, [.int (nI (0)), .int (nI (0)), .int (nI (0))]))]) H := hP
  have hD : va_D F ([(la, .inr (4, [.int (mod), .ref (t0), .int (nI (0))])), (x, .inr (2, [.ref (la), .ref (na), .int (ju), .int (mi), .int (lo)])), (na, .inl (Y 0, 128, .inl nt))] ++ ([] : va_W) ++ [(q72, .inr (0, [.int (nI (0)), .int (nI (0)), .int (nI (0))]))]) := hD
  refine lv_dup hx hb dX2_add_75 rfl ?_
  refine lv_iload_n hx hb dX2_add_76 rfl (lv_at hl 1 rfl) ?_
  refine lv_iload_n hx hb dX2_add_77 rfl (lv_at hl 2 rfl) ?_
  refine UC.callI (As := [.int (nI (a)), .int (nI (b))]) S (k_X0_init l hP hD (atE _ _) (by omega)) (cwI 2 hts gX2_add_X0_init rfl rfl rfl (hts _ (List.mem_of_getElem? (i := 8) rfl)) (hts _ (List.mem_of_getElem? (i := 22) rfl)) (hts _ (List.mem_of_getElem? (i := 23) rfl)) rfl (by decide +kernel) ⟨Nat.le_of_ble_eq_true rfl, Nat.le_of_ble_eq_true rfl⟩) hK eT_bl (fun _ _ _ => trivial) hS (fun _ h => h) rfl hl.1 rfl (Nat.le_of_ble_eq_true rfl) dX2_add_78 ⟨(by show _ ≤ 4; omega), (by show _ ≤ 75; omega)⟩ (fun v H locs hB hS hsz hkp => ?_)
  obtain ⟨rfl, hB⟩ := hB
  rw [setE] at hB
  have hP : va_P D aCl ([(la, .inr (4, [.int (mod), .ref (t0), .int (nI (0))])), (x, .inr (2, [.ref (la), .ref (na), .int (ju), .int (mi), .int (lo)])), (na, .inl (Y 0, 128, .inl nt))] ++ ([] : va_W) ++ [(q72, .inr (0, [.int (nI (a)), .int (nI (b)), .int (mkI (a) (b))]))]) H := hB
  have hD : va_D F ([(la, .inr (4, [.int (mod), .ref (t0), .int (nI (0))])), (x, .inr (2, [.ref (la), .ref (na), .int (ju), .int (mi), .int (lo)])), (na, .inl (Y 0, 128, .inl nt))] ++ ([] : va_W) ++ [(q72, .inr (0, [.int (nI (a)), .int (nI (b)), .int (mkI (a) (b))]))]) := va_D.same hD (by simp only [List.map_append]; rfl)
  refine lv_astore (lv' := [(7, .ref (q72)), (0, .ref (x)), (1, .int (nI (a))), (2, .int (nI (b))), (3, .int (nI (c0))), (4, .int (nI (d0))), (5, .int (nI (q0))), (6, .int (bI (pm)))]) hx hb dX2_add_81 hl (by decide) rfl (fun ls hl => ?_)
  refine nr_new (C := RX0) (T := TX0) (N := 3) (ci := 0) (fs := [.int (nI (0)), .int (nI (0)), .int (nI (0))]) S (fun _ h => List.mem_cons_of_mem _ (List.mem_append_left _ (List.mem_append_left _ (List.mem_append_left _ (List.mem_append_left _ (List.mem_append_right _ (h))))))) tyX0 tyX0_ok (List.mem_of_getElem? (i := 6) rfl) (List.mem_of_getElem? (i := 7) rfl) (List.mem_of_getElem? (i := 8) rfl) hK hP hD hS hFr rfl dfX0 (Nat.le_of_ble_eq_true rfl) (Nat.le_of_ble_eq_true rfl) dX2_add_83 (fun q83 H hP hD hS => ?_)
  have hP : va_P D aCl ([(la, .inr (4, [.int (mod), .ref (t0), .int (nI (0))])), (x, .inr (2, [.ref (la), .ref (na), .int (ju), .int (mi), .int (lo)])), (na, .inl (Y 0, 128, .inl nt))] ++ ([] : va_W) ++ [(q72, .inr (0, [.int (nI (a)), .int (nI (b)), .int (mkI (a) (b))]))] ++ [(q83, .inr (0, [.int (nI (0)), .int (nI (0)), .int (nI (0))]))]) H := hP
  have hD : va_D F ([(la, .inr (4, [.int (mod), .ref (t0), .int (nI (0))])), (x, .inr (2, [.ref (la), .ref (na), .int (ju), .int (mi), .int (lo)])), (na, .inl (Y 0, 128, .inl nt))] ++ ([] : va_W) ++ [(q72, .inr (0, [.int (nI (a)), .int (nI (b)), .int (mkI (a) (b))]))] ++ [(q83, .inr (0, [.int (nI (0)), .int (nI (0)), .int (nI (0))]))]) := hD
  refine lv_dup hx hb dX2_add_86 rfl ?_
  refine lv_iload_n hx hb dX2_add_87 rfl (lv_at hl 4 rfl) ?_
  refine lv_iload hx hb dX2_add_88 (lv_at hl 5 rfl) ?_
  refine UC.callI (As := [.int (nI (c0)), .int (nI (d0))]) S (k_X0_init l hP hD (atE _ _) (by omega)) (cwI 2 hts gX2_add_X0_init rfl rfl rfl (hts _ (List.mem_of_getElem? (i := 8) rfl)) (hts _ (List.mem_of_getElem? (i := 22) rfl)) (hts _ (List.mem_of_getElem? (i := 23) rfl)) rfl (by decide +kernel) ⟨Nat.le_of_ble_eq_true rfl, Nat.le_of_ble_eq_true rfl⟩) hK eT_bl (fun _ _ _ => trivial) hS (fun _ h => h) rfl hl.1 rfl (Nat.le_of_ble_eq_true rfl) dX2_add_90 ⟨(by show _ ≤ 4; omega), (by show _ ≤ 75; omega)⟩ (fun v H locs hB hS hsz hkp => ?_)
  obtain ⟨rfl, hB⟩ := hB
  rw [setE] at hB
  have hP : va_P D aCl ([(la, .inr (4, [.int (mod), .ref (t0), .int (nI (0))])), (x, .inr (2, [.ref (la), .ref (na), .int (ju), .int (mi), .int (lo)])), (na, .inl (Y 0, 128, .inl nt))] ++ ([] : va_W) ++ [(q72, .inr (0, [.int (nI (a)), .int (nI (b)), .int (mkI (a) (b))]))] ++ [(q83, .inr (0, [.int (nI (c0)), .int (nI (d0)), .int (mkI (c0) (d0))]))]) H := hB
  have hD : va_D F ([(la, .inr (4, [.int (mod), .ref (t0), .int (nI (0))])), (x, .inr (2, [.ref (la), .ref (na), .int (ju), .int (mi), .int (lo)])), (na, .inl (Y 0, 128, .inl nt))] ++ ([] : va_W) ++ [(q72, .inr (0, [.int (nI (a)), .int (nI (b)), .int (mkI (a) (b))]))] ++ [(q83, .inr (0, [.int (nI (c0)), .int (nI (d0)), .int (mkI (c0) (d0))]))]) := va_D.same hD (by simp only [List.map_append]; rfl)
  refine lv_astore (lv' := [(8, .ref (q83)), (7, .ref (q72)), (0, .ref (x)), (1, .int (nI (a))), (2, .int (nI (b))), (3, .int (nI (c0))), (4, .int (nI (d0))), (5, .int (nI (q0))), (6, .int (bI (pm)))]) hx hb dX2_add_93 hl (by decide) rfl (fun ls hl => ?_)
  refine lv_aload_n hx hb dX2_add_95 rfl (lv_at hl 2 rfl) ?_
  refine nr_get (C := RX2) (T := TX2) (N := 5) (ci := 2) S (fun _ h => List.mem_cons_of_mem _ (List.mem_append_left _ (List.mem_append_left _ (List.mem_append_left _ (List.mem_append_left _ (List.mem_append_left _ (List.mem_append_right _ (h)))))))) hK hP 1 rfl rfl 0 (by decide) (List.mem_of_getElem? (i := 5) rfl) rfl dX2_add_96 ?_
  refine nr_new (C := RX1) (T := TX1) (N := 5) (ci := 1) (fs := [.int (nI (0)), .null, .null, .int (nI (0)), .int (nI (0))]) S (fun _ h => List.mem_cons_of_mem _ (List.mem_append_left _ (List.mem_append_left _ (List.mem_append_left _ (List.mem_append_right _ (h)))))) tyX1 tyX1_ok (List.mem_of_getElem? (i := 9) rfl) (List.mem_of_getElem? (i := 10) rfl) (List.mem_of_getElem? (i := 11) rfl) hK hP hD hS hFr rfl dfX1 (Nat.le_of_ble_eq_true rfl) (Nat.le_of_ble_eq_true rfl) dX2_add_99 (fun q99 H hP hD hS => ?_)
  have hP : va_P D aCl ([(la, .inr (4, [.int (mod), .ref (t0), .int (nI (0))])), (x, .inr (2, [.ref (la), .ref (na), .int (ju), .int (mi), .int (lo)])), (na, .inl (Y 0, 128, .inl nt))] ++ ([] : va_W) ++ [(q72, .inr (0, [.int (nI (a)), .int (nI (b)), .int (mkI (a) (b))]))] ++ [(q83, .inr (0, [.int (nI (c0)), .int (nI (d0)), .int (mkI (c0) (d0))]))] ++ [(q99, .inr (1, [.int (nI (0)), .null, .null, .int (nI (0)), .int (nI (0))]))]) H := hP
  have hD : va_D F ([(la, .inr (4, [.int (mod), .ref (t0), .int (nI (0))])), (x, .inr (2, [.ref (la), .ref (na), .int (ju), .int (mi), .int (lo)])), (na, .inl (Y 0, 128, .inl nt))] ++ ([] : va_W) ++ [(q72, .inr (0, [.int (nI (a)), .int (nI (b)), .int (mkI (a) (b))]))] ++ [(q83, .inr (0, [.int (nI (c0)), .int (nI (d0)), .int (mkI (c0) (d0))]))] ++ [(q99, .inr (1, [.int (nI (0)), .null, .null, .int (nI (0)), .int (nI (0))]))]) := hD
  refine lv_dup hx hb dX2_add_102 rfl ?_
  refine lv_aload hx hb dX2_add_103 (lv_at hl 1 rfl) ?_
  refine lv_aload hx hb dX2_add_105 (lv_at hl 0 rfl) ?_
  refine lv_iload hx hb dX2_add_107 (lv_at hl 7 rfl) ?_
  refine lv_iload hx hb dX2_add_109 (lv_at hl 8 rfl) ?_
  refine UC.callI (As := [.ref (q72), .ref (q83), .int (nI (q0)), .int (bI (pm))]) S (k_X1_init l hP hD (atE _ _)) (cwI 4 hts gX2_add_X1_init rfl rfl rfl (hts _ (List.mem_of_getElem? (i := 11) rfl)) (hts _ (List.mem_of_getElem? (i := 33) rfl)) (hts _ (List.mem_of_getElem? (i := 34) rfl)) rfl (by decide +kernel) ⟨Nat.le_of_ble_eq_true rfl, Nat.le_of_ble_eq_true rfl⟩) hK eT_bl (fun _ _ _ => trivial) hS (fun _ h => h) rfl hl.1 rfl (Nat.le_of_ble_eq_true rfl) dX2_add_111 ⟨(by show _ ≤ 4; omega), (by show _ ≤ 75; omega)⟩ (fun v H locs hB hS hsz hkp => ?_)
  obtain ⟨rfl, hB⟩ := hB
  rw [setE] at hB
  have hP : va_P D aCl ([(la, .inr (4, [.int (mod), .ref (t0), .int (nI (0))])), (x, .inr (2, [.ref (la), .ref (na), .int (ju), .int (mi), .int (lo)])), (na, .inl (Y 0, 128, .inl nt))] ++ ([] : va_W) ++ [(q72, .inr (0, [.int (nI (a)), .int (nI (b)), .int (mkI (a) (b))]))] ++ [(q83, .inr (0, [.int (nI (c0)), .int (nI (d0)), .int (mkI (c0) (d0))]))] ++ [(q99, .inr (1, [.int (bI (pm)), .ref (q72), .ref (q83), .int (nI (q0)), .int (nI (0))]))]) H := hB
  have hD : va_D F ([(la, .inr (4, [.int (mod), .ref (t0), .int (nI (0))])), (x, .inr (2, [.ref (la), .ref (na), .int (ju), .int (mi), .int (lo)])), (na, .inl (Y 0, 128, .inl nt))] ++ ([] : va_W) ++ [(q72, .inr (0, [.int (nI (a)), .int (nI (b)), .int (mkI (a) (b))]))] ++ [(q83, .inr (0, [.int (nI (c0)), .int (nI (d0)), .int (mkI (c0) (d0))]))] ++ [(q99, .inr (1, [.int (bI (pm)), .ref (q72), .ref (q83), .int (nI (q0)), .int (nI (0))]))]) := va_D.same hD (by simp only [List.map_append]; rfl)
  have hP := m3P hP
  have hD := m3D hD
  have hP : va_P D aCl ([(la, .inr (4, [.int (mod), .ref (t0), .int (nI (0))])), (x, .inr (2, [.ref (la), .ref (na), .int (ju), .int (mi), .int (lo)])), (na, .inl (Y 0, 128, .inl nt))] ++ (([] : va_W) ++ [(q99, .inr (1, [.int (bI (pm)), .ref (q72), .ref (q83), .int (nI (q0)), .int (nI (0))])), (q72, .inr (0, [.int (nI (a)), .int (nI (b)), .int (mkI (a) (b))])), (q83, .inr (0, [.int (nI (c0)), .int (nI (d0)), .int (mkI (c0) (d0))]))])) H := by rw [← List.append_assoc]; exact hP
  have hD : va_D F ([(la, .inr (4, [.int (mod), .ref (t0), .int (nI (0))])), (x, .inr (2, [.ref (la), .ref (na), .int (ju), .int (mi), .int (lo)])), (na, .inl (Y 0, 128, .inl nt))] ++ (([] : va_W) ++ [(q99, .inr (1, [.int (bI (pm)), .ref (q72), .ref (q83), .int (nI (q0)), .int (nI (0))])), (q72, .inr (0, [.int (nI (a)), .int (nI (b)), .int (mkI (a) (b))])), (q83, .inr (0, [.int (nI (c0)), .int (nI (d0)), .int (mkI (c0) (d0))]))])) := by rw [← List.append_assoc]; exact hD
  have hv9 : ((([] : va_W) ++ [(q99, .inr (1, [.int (bI (pm)), .ref (q72), .ref (q83), .int (nI (q0)), .int (nI (0))])), (q72, .inr (0, [.int (nI (a)), .int (nI (b)), .int (mkI (a) (b))])), (q83, .inr (0, [.int (nI (c0)), .int (nI (d0)), .int (mkI (c0) (d0))]))]) : va_W)[(([] : va_W)).length]? = some (q99, .inr (1, [.int (bI (pm)), .ref (q72), .ref (q83), .int (nI (q0)), .int (nI (0))])) := by rw [List.getElem?_append_right (Nat.le_refl _), Nat.sub_self]; rfl
  refine UC.callV (As := [.ref (q99)]) S (k_Jx4a65c_add_9ea2d_z l hP hD (fun q hq => hFr q (Nat.le_trans hS.1 hq)) hv9) (cwV 1 hts gX2_add_Jx4a65c_add_9ea2d rfl rfl rfl (by decide +kernel) ⟨Nat.le_of_ble_eq_true rfl, Nat.le_of_ble_eq_true rfl⟩) hK eZ_bl (fun U hW hU => eZ_go hE0 hS hW hU) hS (fun _ h => h) (va_recv hK.1 hP (ci := 4) (q0 := 0) rfl rfl) rfl hl.1 rfl (Nat.le_of_ble_eq_true rfl) dX2_add_114 ⟨(by show _ ≤ 4; omega), (by show _ ≤ 75; omega)⟩ (fun v H locs hB hS hsz hkp => ?_)
  obtain ⟨rfl, hB⟩ := hB
  obtain ⟨ea2, cap2, es2, hc2, he2, hv2, hP, hD⟩ := hB
  refine lv_pop hx hb dX2_add_117 rfl ?_
  refine lv_aload_n hx hb dX2_add_118 rfl (lv_at hl 2 rfl) ?_
  refine nr_get (C := RX2) (T := TX2) (N := 5) (ci := 2) S (fun _ h => List.mem_cons_of_mem _ (List.mem_append_left _ (List.mem_append_left _ (List.mem_append_left _ (List.mem_append_left _ (List.mem_append_left _ (List.mem_append_right _ (h)))))))) hK hP 1 rfl rfl 0 (by decide) (List.mem_of_getElem? (i := 5) rfl) rfl dX2_add_119 ?_
  refine Rd.callV (r := (nI (0 + 1))) (As := []) S (k_Jx4a65c_size_8abf5 l (hP.sub [0] rfl)) (cwV 0 hts gX2_add_Jx4a65c_size_8abf5 rfl rfl rfl (by decide +kernel) ⟨Nat.le_of_ble_eq_true rfl, Nat.le_of_ble_eq_true rfl⟩) hK (va_recv hK.1 hP (ci := 4) (q0 := 0) rfl rfl) rfl hl.1 rfl (Nat.le_of_ble_eq_true rfl) dX2_add_122 ⟨(by show _ ≤ 4; omega), (by show _ ≤ 75; omega)⟩ ?_
  refine lv_iconst (v := (nI (1))) hx hb dX2_add_125 (by decide +kernel) ?_
  refine nr_isub hx hb (by omega) dX2_add_126 ?_
  have hP : va_P D aCl ([(la, .inr (4, [.int (mod + nI 1), .ref (ea2), .int (nI ((([] : List RA) ++ [((a, b, c0, d0, q0, pm, 0), q99, q72, q83)]).length))])), (x, .inr (2, [.ref (la), .ref (na), .int (ju), .int (mi), .int (lo)])), (na, .inl (Y 0, 128, .inl nt)), (ea2, .inl (Y 1, cap2, .inr (.inr (.inr (.inr es2)))))] ++ plW (([] : List RA) ++ [((a, b, c0, d0, q0, pm, 0), q99, q72, q83)])) H := by rw [plW_app, List.length_append]; exact hP
  have hD : va_D F ([(la, .inr (4, [.int (mod + nI 1), .ref (ea2), .int (nI ((([] : List RA) ++ [((a, b, c0, d0, q0, pm, 0), q99, q72, q83)]).length))])), (x, .inr (2, [.ref (la), .ref (na), .int (ju), .int (mi), .int (lo)])), (na, .inl (Y 0, 128, .inl nt)), (ea2, .inl (Y 1, cap2, .inr (.inr (.inr (.inr es2)))))] ++ plW (([] : List RA) ++ [((a, b, c0, d0, q0, pm, 0), q99, q72, q83)])) := by rw [plW_app, List.length_append]; exact hD
  refine W.widen (k := 4) (n := 75) (by omega) (by omega) ?_
  exact hE _ _ _ _ _ dX2_add_127 (vp_nar_int _) (congrArg nI (by omega)) (⟨ea2, cap2, _, es2, nt, [] ++ [((a, b, c0, d0, q0, pm, 0), q99, q72, q83)], [] ++ [((a, b, c0, d0, q0, pm, 0), q99, q72, q83)], by rw [RS_app]; rfl, cQ_app (es := fun _ => none) ⟨fun i => i, fun i hi => absurd hi (Nat.not_lt_zero _), fun i j hi => absurd hi (Nat.not_lt_zero _)⟩ ⟨Nat.zero_le _, fun i hi => absurd hi (Nat.not_lt_zero _)⟩ (Nat.zero_le _) (fun i hi => absurd hi (Nat.not_lt_zero _)) hr hc2 he2 hv2, hP, hD⟩) hS
