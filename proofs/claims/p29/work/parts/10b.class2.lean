/-! the class's reading methods -/
abbrev RA : Type := RV × Nat × Nat × Nat
def RS (L : List RA) : List RV := L.map (fun q => q.1)
def gl (L : List RA) (i : Nat) : RA := L.getD i (rv0, 0, 0, 0)
theorem gt_RS (L : List RA) (i : Nat) : gt (RS L) i = (gl L i).1 := by
  unfold gt RS gl
  rw [List.getD_eq_getElem?_getD, List.getD_eq_getElem?_getD, List.getElem?_map]
  cases L[i]? <;> rfl
/-- the class's cells as they are read: the object x, its list, its rows, its rules -/
def rdA (D : va_G) (Y : Nat → ClassId) (x la na ea cap : Nat) (mod : Int32) (es : Nat → Option Nat) (nt : Nat → Int32) (ju mi lo : Int32) (L : List RA) (H : Heap) : Prop :=
  va_P D aCl [(x, .inr (2, [.ref la, .ref na, .int ju, .int mi, .int lo]))] H ∧ va_P D aCl [(la, .inr (4, [.int mod, .ref ea, .int (nI L.length)]))] H ∧ va_P D aCl [(na, .inl (Y 0, 128, .inl nt))] H ∧
  (0 < L.length → va_P D aCl [(ea, .inl (Y 1, cap, .inr (.inr (.inr (.inr es)))))] H ∧ L.length ≤ cap ∧ cap < 2 ^ 31) ∧
  (∀ i, i < L.length → es i = some (gl L i).2.1 ∧ va_P D aCl (ruC (gt (RS L) i) (gl L i).2) H) ∧ rsOk (RS L)
set_option maxHeartbeats 4000000 in
set_option maxRecDepth 100000 in
theorem k_X2_permittedDestinations (l : Launch) {D : va_G} {Y : Nat → ClassId} {H : Heap} {x la na ea cap : Nat} {mod ju mi lo : Int32} {es : Nat → Option Nat} {nt : Nat → Int32} {L : List RA} {s0 p0 : Nat} {wo : Int32}  (hA : rdA D Y x la na ea cap mod es nt ju mi lo L H) (hs : s0 < 32) (hp : p0 < 4) : Rd l yX2_permittedDestinations wsX2_permittedDestinations 3 D Y [.ref (x), .int (nI (s0)), .int (nI (p0)), .int (wo)] H (pmI (RS L) s0 p0 wo) := by
  refine Rd.start (cc := cX2_permittedDestinations) (maxL := 9) (rt := .int) (by decide) rfl (Nat.le_of_ble_eq_true rfl) ?_
  intro p e s m args below meth c ls Q S hK hl hE
  have S : CallFix p m c cX2_permittedDestinations 9 s args wsX2_permittedDestinations RX2 := S
  have hx := S.1
  have hb := S.2.1
  have hts := S.2.2.2.2
  have hl : lv_has ls 9 [(0, .ref (x)), (1, .int (nI (s0))), (2, .int (nI (p0))), (3, .int (wo))] := hl
  obtain ⟨hX, hL, hN, hE2, hR, hok⟩ := hA
  have hlen : (RS L).length = L.length := List.length_map ..
  have hn : L.length ≤ 16 := by have := hok.1; omega
  have hoo : ∀ i, i < L.length → rvOk (gt (RS L) i) := fun i hi => hok.2 i (by omega)
  refine lv_iconst (v := ((-1 : Int32))) hx hb dX2_permittedDestinations_0 (by decide +kernel) ?_
  refine lv_istore (lv' := [(4, .int ((-1 : Int32))), (0, .ref (x)), (1, .int (nI (s0))), (2, .int (nI (p0))), (3, .int (wo))]) hx hb dX2_permittedDestinations_1 hl (by decide) rfl (fun ls hl => ?_)
  refine lv_iconst (v := (nI (0))) hx hb dX2_permittedDestinations_3 (by decide +kernel) ?_
  refine lv_istore (lv' := [(5, .int (nI (0))), (4, .int ((-1 : Int32))), (0, .ref (x)), (1, .int (nI (s0))), (2, .int (nI (p0))), (3, .int (wo))]) hx hb dX2_permittedDestinations_4 hl (by decide) rfl (fun ls hl => ?_)
  refine lv_iconst (v := (nI (0))) hx hb dX2_permittedDestinations_6 (by decide +kernel) ?_
  refine lv_istore (lv' := [(6, .int (nI (0))), (5, .int (nI (0))), (4, .int ((-1 : Int32))), (0, .ref (x)), (1, .int (nI (s0))), (2, .int (nI (p0))), (3, .int (wo))]) hx hb dX2_permittedDestinations_7 hl (by decide) rfl (fun ls hl => ?_)
  have loop_9 : ∀ (fu_9 : Nat) (op : Int32) (ac : Int32) (i : Nat), (i ≤ L.length) → (op = (pmN (RS L) s0 p0 wo i).1) → (ac = (pmN (RS L) s0 p0 wo i).2) → L.length - i < fu_9 → ∀ ls : Array Slot, lv_has ls 9 [(6, .int (nI (i))), (5, .int (ac)), (4, .int (op)), (0, .ref (x)), (1, .int (nI (s0))), (2, .int (nI (p0))), (3, .int (wo))] → W p l e (rmN 3) s m args below meth c H [] 0 0 Q (F0 m 9 ls []) := by
    intro fu_9
    induction fu_9 with
    | zero => exact fun op ac i _ _ _ hk => absurd hk (Nat.not_lt_zero _)
    | succ fu_9 ih_9 =>
      intro op ac i h1 h2 h3 hk_9 ls hl
      refine lv_iload hx hb dX2_permittedDestinations_9 (lv_at hl 0 rfl) ?_
      refine lv_aload_n hx hb dX2_permittedDestinations_11 rfl (lv_at hl 3 rfl) ?_
      refine nr_get (C := RX2) (T := TX2) (N := 5) (ci := 2) S (fun _ h => List.mem_cons_of_mem _ (List.mem_append_left _ (List.mem_append_left _ (List.mem_append_left _ (List.mem_append_right _ (h)))))) hK hX 0 rfl rfl 0 (by decide) (List.mem_of_getElem? (i := 1) rfl) rfl dX2_permittedDestinations_12 ?_
      refine Rd.callV (r := (nI (L.length))) (As := []) S (k_Jx4a65c_size_8abf5 l hL) (cwV 0 hts gX2_permittedDestinations_Jx4a65c_size_8abf5 rfl rfl rfl (by decide +kernel) ⟨Nat.le_of_ble_eq_true rfl, Nat.le_of_ble_eq_true rfl⟩) hK (va_recv hK.1 hL (ci := 4) (q0 := 0) rfl rfl) rfl hl.1 rfl (Nat.le_of_ble_eq_true rfl) dX2_permittedDestinations_15 ⟨Nat.zero_le _, Nat.zero_le _⟩ ?_
      refine nr_icmp_ge (tgt := 94) hx hb (by omega) (by omega) dX2_permittedDestinations_18 (by decide) (fun c_18 => ?_) (fun c_18 => ?_)
      · refine lv_iload hx hb dX2_permittedDestinations_94 (lv_at hl 1 rfl) ?_
        exact hE _ _ _ dX2_permittedDestinations_96 (vp_nar_int _) (pmI_end (by omega) (by omega) h3)
      · refine lv_aload_n hx hb dX2_permittedDestinations_21 rfl (lv_at hl 3 rfl) ?_
        refine nr_get (C := RX2) (T := TX2) (N := 5) (ci := 2) S (fun _ h => List.mem_cons_of_mem _ (List.mem_append_left _ (List.mem_append_left _ (List.mem_append_left _ (List.mem_append_right _ (h)))))) hK hX 0 rfl rfl 0 (by decide) (List.mem_of_getElem? (i := 1) rfl) rfl dX2_permittedDestinations_22 ?_
        refine lv_iload hx hb dX2_permittedDestinations_25 (lv_at hl 0 rfl) ?_
        refine RdA.callV (x := (gl L (i)).2.1) (As := [.int (nI (i))]) S (k_Jx4a65c_get_915e3 l hL (hE2 (by omega)).1 (i := i) (by omega) (hE2 (by omega)).2.1 (hE2 (by omega)).2.2 (hR (i) (by omega)).1) (cwV 1 hts gX2_permittedDestinations_Jx4a65c_get_915e3 rfl rfl rfl (by decide +kernel) ⟨Nat.le_of_ble_eq_true rfl, Nat.le_of_ble_eq_true rfl⟩) hK (va_recv hK.1 hL (ci := 4) (q0 := 0) rfl rfl) rfl hl.1 rfl (Nat.le_of_ble_eq_true rfl) dX2_permittedDestinations_27 ⟨Nat.zero_le _, Nat.zero_le _⟩ ?_
        refine nr_cast (C := RX1) (T := TX1) (N := 5) (ci := 1) S (List.mem_of_getElem? (i := 2) rfl) hK (hR (i) (by omega)).2 0 rfl rfl dX2_permittedDestinations_30 ?_
        refine lv_astore (lv' := [(7, .ref ((gl L (i)).2.1)), (6, .int (nI (i))), (5, .int (ac)), (4, .int (op)), (0, .ref (x)), (1, .int (nI (s0))), (2, .int (nI (p0))), (3, .int (wo))]) hx hb dX2_permittedDestinations_33 hl (by decide) rfl (fun ls hl => ?_)
        refine lv_iload hx hb dX2_permittedDestinations_35 (lv_at hl 1 rfl) ?_
        refine lv_iload_n hx hb dX2_permittedDestinations_37 rfl (lv_at hl 7 rfl) ?_
        refine lv_icmp_eq (tgt := 88) hx hb dX2_permittedDestinations_38 (by decide) (fun c_38 => ?_) (fun c_38 => ?_)
        · refine lv_iinc (v := (nI (i + 1))) (lv' := [(6, .int (nI (i + 1))), (7, .ref ((gl L (i)).2.1)), (5, .int (ac)), (4, .int (op)), (0, .ref (x)), (1, .int (nI (s0))), (2, .int (nI (p0))), (3, .int (wo))]) hx hb dX2_permittedDestinations_88 hl (k := 1) rfl (nI_add _ _) (by decide) rfl (fun ls hl => ?_)
          refine lv_goto (tgt := 9) hx hb dX2_permittedDestinations_91 (by decide) ?_
          exact ih_9 ((op)) ((ac)) (i + 1) (by omega) (by first | (rw [pmN_e c_38]; exact h2) | (rw [pmN_nc c_48]; exact h2) | (rw [pmN_c1 c_38 c_48, ← h2])) (by first | (rw [pmN_e c_38]; exact h3) | (rw [pmN_nc c_48]; exact h3) | (rw [pmN_c2 c_38 c_48 c_66, ← h2, ← h3]) | (rw [pmN_f c_38 c_66]; exact h3)) (by omega) ls (lv_sub hl [0, 2, 3, 4, 5, 6, 7] rfl)
        · refine lv_aload hx hb dX2_permittedDestinations_41 (lv_at hl 0 rfl) ?_
          refine lv_iload_n hx hb dX2_permittedDestinations_43 rfl (lv_at hl 5 rfl) ?_
          refine lv_iload_n hx hb dX2_permittedDestinations_44 rfl (lv_at hl 6 rfl) ?_
          refine Rd.callV (r := (bI (con (gt (RS L) (i)) (s0) (p0)))) (As := [.int (nI (s0)), .int (nI (p0))]) S (k_X1_concerns l (hR (i) (by omega)).2 (hoo (i) (by omega)) (s0 := s0) (p0 := p0) (by omega) (by omega)) (cwV 2 hts gX2_permittedDestinations_X1_concerns rfl rfl rfl (by decide +kernel) ⟨Nat.le_of_ble_eq_true rfl, Nat.le_of_ble_eq_true rfl⟩) hK (va_recv hK.1 (hR (i) (by omega)).2 (ci := 1) (q0 := 0) rfl rfl) rfl hl.1 rfl (Nat.le_of_ble_eq_true rfl) dX2_permittedDestinations_45 ⟨Nat.zero_le _, Nat.zero_le _⟩ ?_
          refine nr_ifB_eq (tgt := 88) hx hb dX2_permittedDestinations_48 (by decide) (fun c_48 => ?_) (fun c_48 => ?_)
          · refine lv_iinc (v := (nI (i + 1))) (lv' := [(6, .int (nI (i + 1))), (7, .ref ((gl L (i)).2.1)), (5, .int (ac)), (4, .int (op)), (0, .ref (x)), (1, .int (nI (s0))), (2, .int (nI (p0))), (3, .int (wo))]) hx hb dX2_permittedDestinations_88 hl (k := 1) rfl (nI_add _ _) (by decide) rfl (fun ls hl => ?_)
            refine lv_goto (tgt := 9) hx hb dX2_permittedDestinations_91 (by decide) ?_
            exact ih_9 ((op)) ((ac)) (i + 1) (by omega) (by first | (rw [pmN_e c_38]; exact h2) | (rw [pmN_nc c_48]; exact h2) | (rw [pmN_c1 c_38 c_48, ← h2])) (by first | (rw [pmN_e c_38]; exact h3) | (rw [pmN_nc c_48]; exact h3) | (rw [pmN_c2 c_38 c_48 c_66, ← h2, ← h3]) | (rw [pmN_f c_38 c_66]; exact h3)) (by omega) ls (lv_sub hl [0, 2, 3, 4, 5, 6, 7] rfl)
          · refine lv_aload hx hb dX2_permittedDestinations_51 (lv_at hl 0 rfl) ?_
            refine nr_get (C := RX1) (T := TX1) (N := 5) (ci := 1) S (fun _ h => List.mem_cons_of_mem _ (List.mem_append_left _ (List.mem_append_left _ (List.mem_append_right _ (h))))) hK (hR (i) (by omega)).2 0 rfl rfl 2 (by decide) (List.mem_of_getElem? (i := 3) rfl) rfl dX2_permittedDestinations_53 ?_
            refine nr_get (C := RX0) (T := TX0) (N := 3) (ci := 0) S (fun _ h => List.mem_cons_of_mem _ (List.mem_append_left _ (List.mem_append_right _ (h)))) hK (hR (i) (by omega)).2 2 rfl rfl 2 (by decide) (List.mem_of_getElem? (i := 4) rfl) rfl dX2_permittedDestinations_56 ?_
            refine lv_istore (lv' := [(8, .int (mkI (dF (gt (RS L) (i))) (dT (gt (RS L) (i))))), (7, .ref ((gl L (i)).2.1)), (6, .int (nI (i))), (5, .int (ac)), (4, .int (op)), (0, .ref (x)), (1, .int (nI (s0))), (2, .int (nI (p0))), (3, .int (wo))]) hx hb dX2_permittedDestinations_59 hl (by decide) rfl (fun ls hl => ?_)
            refine lv_aload hx hb dX2_permittedDestinations_61 (lv_at hl 1 rfl) ?_
            refine nr_get (C := RX1) (T := TX1) (N := 5) (ci := 1) S (fun _ h => List.mem_cons_of_mem _ (List.mem_append_left _ (List.mem_append_left _ (List.mem_append_right _ (h))))) hK (hR (i) (by omega)).2 0 rfl rfl 0 (by decide) (List.mem_of_getElem? (i := 5) rfl) rfl dX2_permittedDestinations_63 ?_
            refine nr_ifB_eq (tgt := 79) hx hb dX2_permittedDestinations_66 (by decide) (fun c_66 => ?_) (fun c_66 => ?_)
            · refine lv_iload hx hb dX2_permittedDestinations_79 (lv_at hl 4 rfl) ?_
              refine lv_iload hx hb dX2_permittedDestinations_81 (lv_at hl 0 rfl) ?_
              refine lv_iconst (v := ((-1 : Int32))) hx hb dX2_permittedDestinations_83 (by decide +kernel) ?_
              refine lv_ixor hx hb dX2_permittedDestinations_84 ?_
              refine lv_iand hx hb dX2_permittedDestinations_85 ?_
              refine lv_istore (lv' := [(4, .int (((op) &&& (((mkI (dF (gt (RS L) (i))) (dT (gt (RS L) (i)))) ^^^ ((-1 : Int32))))))), (8, .int (mkI (dF (gt (RS L) (i))) (dT (gt (RS L) (i))))), (7, .ref ((gl L (i)).2.1)), (6, .int (nI (i))), (5, .int (ac)), (0, .ref (x)), (1, .int (nI (s0))), (2, .int (nI (p0))), (3, .int (wo))]) hx hb dX2_permittedDestinations_86 hl (by decide) rfl (fun ls hl => ?_)
              refine lv_iinc (v := (nI (i + 1))) (lv' := [(6, .int (nI (i + 1))), (4, .int (((op) &&& (((mkI (dF (gt (RS L) (i))) (dT (gt (RS L) (i)))) ^^^ ((-1 : Int32))))))), (8, .int (mkI (dF (gt (RS L) (i))) (dT (gt (RS L) (i))))), (7, .ref ((gl L (i)).2.1)), (5, .int (ac)), (0, .ref (x)), (1, .int (nI (s0))), (2, .int (nI (p0))), (3, .int (wo))]) hx hb dX2_permittedDestinations_88 hl (k := 3) rfl (nI_add _ _) (by decide) rfl (fun ls hl => ?_)
              refine lv_goto (tgt := 9) hx hb dX2_permittedDestinations_91 (by decide) ?_
              exact ih_9 ((((op) &&& (((mkI (dF (gt (RS L) (i))) (dT (gt (RS L) (i)))) ^^^ ((-1 : Int32))))))) ((ac)) (i + 1) (by omega) (by first | (rw [pmN_e c_38]; exact h2) | (rw [pmN_nc c_48]; exact h2) | (rw [pmN_c1 c_38 c_48, ← h2])) (by first | (rw [pmN_e c_38]; exact h3) | (rw [pmN_nc c_48]; exact h3) | (rw [pmN_c2 c_38 c_48 c_66, ← h2, ← h3]) | (rw [pmN_f c_38 c_66]; exact h3)) (by omega) ls (lv_sub hl [0, 4, 1, 5, 6, 7, 8] rfl)
            · refine lv_iload hx hb dX2_permittedDestinations_69 (lv_at hl 3 rfl) ?_
              refine lv_iload hx hb dX2_permittedDestinations_71 (lv_at hl 4 rfl) ?_
              refine lv_iload hx hb dX2_permittedDestinations_73 (lv_at hl 0 rfl) ?_
              refine lv_iand hx hb dX2_permittedDestinations_75 ?_
              refine lv_ior hx hb dX2_permittedDestinations_76 ?_
              refine lv_istore (lv' := [(5, .int (((ac) ||| (((op) &&& (mkI (dF (gt (RS L) (i))) (dT (gt (RS L) (i))))))))), (8, .int (mkI (dF (gt (RS L) (i))) (dT (gt (RS L) (i))))), (7, .ref ((gl L (i)).2.1)), (6, .int (nI (i))), (4, .int (op)), (0, .ref (x)), (1, .int (nI (s0))), (2, .int (nI (p0))), (3, .int (wo))]) hx hb dX2_permittedDestinations_77 hl (by decide) rfl (fun ls hl => ?_)
              refine lv_iload hx hb dX2_permittedDestinations_79 (lv_at hl 4 rfl) ?_
              refine lv_iload hx hb dX2_permittedDestinations_81 (lv_at hl 1 rfl) ?_
              refine lv_iconst (v := ((-1 : Int32))) hx hb dX2_permittedDestinations_83 (by decide +kernel) ?_
              refine lv_ixor hx hb dX2_permittedDestinations_84 ?_
              refine lv_iand hx hb dX2_permittedDestinations_85 ?_
              refine lv_istore (lv' := [(4, .int (((op) &&& (((mkI (dF (gt (RS L) (i))) (dT (gt (RS L) (i)))) ^^^ ((-1 : Int32))))))), (5, .int (((ac) ||| (((op) &&& (mkI (dF (gt (RS L) (i))) (dT (gt (RS L) (i))))))))), (8, .int (mkI (dF (gt (RS L) (i))) (dT (gt (RS L) (i))))), (7, .ref ((gl L (i)).2.1)), (6, .int (nI (i))), (0, .ref (x)), (1, .int (nI (s0))), (2, .int (nI (p0))), (3, .int (wo))]) hx hb dX2_permittedDestinations_86 hl (by decide) rfl (fun ls hl => ?_)
              refine lv_iinc (v := (nI (i + 1))) (lv' := [(6, .int (nI (i + 1))), (4, .int (((op) &&& (((mkI (dF (gt (RS L) (i))) (dT (gt (RS L) (i)))) ^^^ ((-1 : Int32))))))), (5, .int (((ac) ||| (((op) &&& (mkI (dF (gt (RS L) (i))) (dT (gt (RS L) (i))))))))), (8, .int (mkI (dF (gt (RS L) (i))) (dT (gt (RS L) (i))))), (7, .ref ((gl L (i)).2.1)), (0, .ref (x)), (1, .int (nI (s0))), (2, .int (nI (p0))), (3, .int (wo))]) hx hb dX2_permittedDestinations_88 hl (k := 4) rfl (nI_add _ _) (by decide) rfl (fun ls hl => ?_)
              refine lv_goto (tgt := 9) hx hb dX2_permittedDestinations_91 (by decide) ?_
              exact ih_9 ((((op) &&& (((mkI (dF (gt (RS L) (i))) (dT (gt (RS L) (i)))) ^^^ ((-1 : Int32))))))) ((((ac) ||| (((op) &&& (mkI (dF (gt (RS L) (i))) (dT (gt (RS L) (i))))))))) (i + 1) (by omega) (by first | (rw [pmN_e c_38]; exact h2) | (rw [pmN_nc c_48]; exact h2) | (rw [pmN_c1 c_38 c_48, ← h2])) (by first | (rw [pmN_e c_38]; exact h3) | (rw [pmN_nc c_48]; exact h3) | (rw [pmN_c2 c_38 c_48 c_66, ← h2, ← h3]) | (rw [pmN_f c_38 c_66]; exact h3)) (by omega) ls (lv_sub hl [0, 2, 1, 5, 6, 7, 8] rfl)
  exact loop_9 _ (((-1 : Int32))) ((nI (0))) (0) (Nat.zero_le _) (rfl) (rfl) (Nat.lt_succ_self _) ls (lv_sub hl [0, 1, 2, 3, 4, 5, 6] rfl)
set_option maxHeartbeats 4000000 in
set_option maxRecDepth 100000 in
theorem k_X2_undecidedDestinations (l : Launch) {D : va_G} {Y : Nat → ClassId} {H : Heap} {x la na ea cap : Nat} {mod ju mi lo : Int32} {es : Nat → Option Nat} {nt : Nat → Int32} {L : List RA} {s0 p0 pl : Nat}  (hA : rdA D Y x la na ea cap mod es nt ju mi lo L H) (hs : s0 < 32) (hp : p0 < 4) (hpl : pl < L.length) : Rd l yX2_undecidedDestinations wsX2_undecidedDestinations 3 D Y [.ref (x), .int (nI (s0)), .int (nI (p0)), .int (nI (pl))] H (udN (RS L) s0 p0 pl) := by
  refine Rd.start (cc := cX2_undecidedDestinations) (maxL := 7) (rt := .int) (by decide) rfl (Nat.le_of_ble_eq_true rfl) ?_
  intro p e s m args below meth c ls Q S hK hl hE
  have S : CallFix p m c cX2_undecidedDestinations 7 s args wsX2_undecidedDestinations RX2 := S
  have hx := S.1
  have hb := S.2.1
  have hts := S.2.2.2.2
  have hl : lv_has ls 7 [(0, .ref (x)), (1, .int (nI (s0))), (2, .int (nI (p0))), (3, .int (nI (pl)))] := hl
  have hA0 := hA
  obtain ⟨hX, hL, hN, hE2, hR, hok⟩ := hA
  have hlen : (RS L).length = L.length := List.length_map ..
  have hn : L.length ≤ 16 := by have := hok.1; omega
  have hoo : ∀ i, i < L.length → rvOk (gt (RS L) i) := fun i hi => hok.2 i (by omega)
  refine lv_iconst (v := ((-1 : Int32))) hx hb dX2_undecidedDestinations_0 (by decide +kernel) ?_
  refine lv_istore (lv' := [(4, .int ((-1 : Int32))), (0, .ref (x)), (1, .int (nI (s0))), (2, .int (nI (p0))), (3, .int (nI (pl)))]) hx hb dX2_undecidedDestinations_1 hl (by decide) rfl (fun ls hl => ?_)
  refine lv_iconst (v := (nI (0))) hx hb dX2_undecidedDestinations_3 (by decide +kernel) ?_
  refine lv_istore (lv' := [(5, .int (nI (0))), (4, .int ((-1 : Int32))), (0, .ref (x)), (1, .int (nI (s0))), (2, .int (nI (p0))), (3, .int (nI (pl)))]) hx hb dX2_undecidedDestinations_4 hl (by decide) rfl (fun ls hl => ?_)
  have loop_6 : ∀ (fu_6 : Nat) (u : Int32) (a : Nat), (a ≤ pl) → (u = udN (RS L) s0 p0 a) → pl - a < fu_6 → ∀ ls : Array Slot, lv_has ls 7 [(5, .int (nI (a))), (4, .int (u)), (0, .ref (x)), (1, .int (nI (s0))), (2, .int (nI (p0))), (3, .int (nI (pl)))] → W p l e (rmN 3) s m args below meth c H [] 0 0 Q (F0 m 6 ls []) := by
    intro fu_6
    induction fu_6 with
    | zero => exact fun u a _ _ hk => absurd hk (Nat.not_lt_zero _)
    | succ fu_6 ih_6 =>
      intro u a h1 h2 hk_6 ls hl
      refine lv_iload hx hb dX2_undecidedDestinations_6 (lv_at hl 0 rfl) ?_
      refine lv_iload_n hx hb dX2_undecidedDestinations_8 rfl (lv_at hl 5 rfl) ?_
      refine nr_icmp_ge (tgt := 69) hx hb (by omega) (by omega) dX2_undecidedDestinations_9 (by decide) (fun c_9 => ?_) (fun c_9 => ?_)
      · refine lv_iload hx hb dX2_undecidedDestinations_69 (lv_at hl 1 rfl) ?_
        exact hE _ _ _ dX2_undecidedDestinations_71 (vp_nar_int _) (by rw [h2, Nat.le_antisymm h1 c_9])
      · refine lv_iload hx hb dX2_undecidedDestinations_12 (lv_at hl 0 rfl) ?_
        refine lv_aload_n hx hb dX2_undecidedDestinations_14 rfl (lv_at hl 2 rfl) ?_
        refine nr_get (C := RX2) (T := TX2) (N := 5) (ci := 2) S (fun _ h => List.mem_cons_of_mem _ (List.mem_append_left _ (List.mem_append_left _ (List.mem_append_left _ (List.mem_append_right _ (h)))))) hK hX 0 rfl rfl 0 (by decide) (List.mem_of_getElem? (i := 1) rfl) rfl dX2_undecidedDestinations_15 ?_
        refine Rd.callV (r := (nI (L.length))) (As := []) S (k_Jx4a65c_size_8abf5 l hL) (cwV 0 hts gX2_undecidedDestinations_Jx4a65c_size_8abf5 rfl rfl rfl (by decide +kernel) ⟨Nat.le_of_ble_eq_true rfl, Nat.le_of_ble_eq_true rfl⟩) hK (va_recv hK.1 hL (ci := 4) (q0 := 0) rfl rfl) rfl hl.1 rfl (Nat.le_of_ble_eq_true rfl) dX2_undecidedDestinations_18 ⟨Nat.zero_le _, Nat.zero_le _⟩ ?_
        refine nr_icmp_ge (tgt := 69) hx hb (by omega) (by omega) dX2_undecidedDestinations_21 (by decide) (fun c_21 => absurd c_21 (by omega)) (fun c_21 => ?_)
        refine lv_aload_n hx hb dX2_undecidedDestinations_24 rfl (lv_at hl 2 rfl) ?_
        refine nr_get (C := RX2) (T := TX2) (N := 5) (ci := 2) S (fun _ h => List.mem_cons_of_mem _ (List.mem_append_left _ (List.mem_append_left _ (List.mem_append_left _ (List.mem_append_right _ (h)))))) hK hX 0 rfl rfl 0 (by decide) (List.mem_of_getElem? (i := 1) rfl) rfl dX2_undecidedDestinations_25 ?_
        refine lv_iload hx hb dX2_undecidedDestinations_28 (lv_at hl 0 rfl) ?_
        refine RdA.callV (x := (gl L (a)).2.1) (As := [.int (nI (a))]) S (k_Jx4a65c_get_915e3 l hL (hE2 (by omega)).1 (i := a) (by omega) (hE2 (by omega)).2.1 (hE2 (by omega)).2.2 (hR (a) (by omega)).1) (cwV 1 hts gX2_undecidedDestinations_Jx4a65c_get_915e3 rfl rfl rfl (by decide +kernel) ⟨Nat.le_of_ble_eq_true rfl, Nat.le_of_ble_eq_true rfl⟩) hK (va_recv hK.1 hL (ci := 4) (q0 := 0) rfl rfl) rfl hl.1 rfl (Nat.le_of_ble_eq_true rfl) dX2_undecidedDestinations_30 ⟨Nat.zero_le _, Nat.zero_le _⟩ ?_
        refine nr_cast (C := RX1) (T := TX1) (N := 5) (ci := 1) S (List.mem_of_getElem? (i := 2) rfl) hK (hR (a) (by omega)).2 0 rfl rfl dX2_undecidedDestinations_33 ?_
        refine lv_astore (lv' := [(6, .ref ((gl L (a)).2.1)), (5, .int (nI (a))), (4, .int (u)), (0, .ref (x)), (1, .int (nI (s0))), (2, .int (nI (p0))), (3, .int (nI (pl)))]) hx hb dX2_undecidedDestinations_36 hl (by decide) rfl (fun ls hl => ?_)
        refine lv_aload hx hb dX2_undecidedDestinations_38 (lv_at hl 0 rfl) ?_
        refine lv_iload_n hx hb dX2_undecidedDestinations_40 rfl (lv_at hl 4 rfl) ?_
        refine lv_iload_n hx hb dX2_undecidedDestinations_41 rfl (lv_at hl 5 rfl) ?_
        refine Rd.callV (r := (bI (con (gt (RS L) (a)) (s0) (p0)))) (As := [.int (nI (s0)), .int (nI (p0))]) S (k_X1_concerns l (hR (a) (by omega)).2 (hoo (a) (by omega)) (s0 := s0) (p0 := p0) (by omega) (by omega)) (cwV 2 hts gX2_undecidedDestinations_X1_concerns rfl rfl rfl (by decide +kernel) ⟨Nat.le_of_ble_eq_true rfl, Nat.le_of_ble_eq_true rfl⟩) hK (va_recv hK.1 (hR (a) (by omega)).2 (ci := 1) (q0 := 0) rfl rfl) rfl hl.1 rfl (Nat.le_of_ble_eq_true rfl) dX2_undecidedDestinations_42 ⟨Nat.zero_le _, Nat.zero_le _⟩ ?_
        refine nr_ifB_eq (tgt := 63) hx hb dX2_undecidedDestinations_45 (by decide) (fun c_45 => ?_) (fun c_45 => ?_)
        · refine lv_iinc (v := (nI (a + 1))) (lv' := [(5, .int (nI (a + 1))), (6, .ref ((gl L (a)).2.1)), (4, .int (u)), (0, .ref (x)), (1, .int (nI (s0))), (2, .int (nI (p0))), (3, .int (nI (pl)))]) hx hb dX2_undecidedDestinations_63 hl (k := 1) rfl (nI_add _ _) (by decide) rfl (fun ls hl => ?_)
          refine lv_goto (tgt := 6) hx hb dX2_undecidedDestinations_66 (by decide) ?_
          exact ih_6 ((u)) (a + 1) (by omega) (by first | (rw [udN_f c_45]; exact h2) | (rw [udN_t c_45, ← h2])) (by omega) ls (lv_sub hl [0, 2, 3, 4, 5, 6] rfl)
        · refine lv_iload hx hb dX2_undecidedDestinations_48 (lv_at hl 2 rfl) ?_
          refine lv_aload hx hb dX2_undecidedDestinations_50 (lv_at hl 0 rfl) ?_
          refine nr_get (C := RX1) (T := TX1) (N := 5) (ci := 1) S (fun _ h => List.mem_cons_of_mem _ (List.mem_append_left _ (List.mem_append_left _ (List.mem_append_right _ (h))))) hK (hR (a) (by omega)).2 0 rfl rfl 2 (by decide) (List.mem_of_getElem? (i := 3) rfl) rfl dX2_undecidedDestinations_52 ?_
          refine nr_get (C := RX0) (T := TX0) (N := 3) (ci := 0) S (fun _ h => List.mem_cons_of_mem _ (List.mem_append_left _ (List.mem_append_right _ (h)))) hK (hR (a) (by omega)).2 2 rfl rfl 2 (by decide) (List.mem_of_getElem? (i := 4) rfl) rfl dX2_undecidedDestinations_55 ?_
          refine lv_iconst (v := ((-1 : Int32))) hx hb dX2_undecidedDestinations_58 (by decide +kernel) ?_
          refine lv_ixor hx hb dX2_undecidedDestinations_59 ?_
          refine lv_iand hx hb dX2_undecidedDestinations_60 ?_
          refine lv_istore (lv' := [(4, .int (((u) &&& (((mkI (dF (gt (RS L) (a))) (dT (gt (RS L) (a)))) ^^^ ((-1 : Int32))))))), (6, .ref ((gl L (a)).2.1)), (5, .int (nI (a))), (0, .ref (x)), (1, .int (nI (s0))), (2, .int (nI (p0))), (3, .int (nI (pl)))]) hx hb dX2_undecidedDestinations_61 hl (by decide) rfl (fun ls hl => ?_)
          refine lv_iinc (v := (nI (a + 1))) (lv' := [(5, .int (nI (a + 1))), (4, .int (((u) &&& (((mkI (dF (gt (RS L) (a))) (dT (gt (RS L) (a)))) ^^^ ((-1 : Int32))))))), (6, .ref ((gl L (a)).2.1)), (0, .ref (x)), (1, .int (nI (s0))), (2, .int (nI (p0))), (3, .int (nI (pl)))]) hx hb dX2_undecidedDestinations_63 hl (k := 2) rfl (nI_add _ _) (by decide) rfl (fun ls hl => ?_)
          refine lv_goto (tgt := 6) hx hb dX2_undecidedDestinations_66 (by decide) ?_
          exact ih_6 ((((u) &&& (((mkI (dF (gt (RS L) (a))) (dT (gt (RS L) (a)))) ^^^ ((-1 : Int32))))))) (a + 1) (by omega) (by first | (rw [udN_f c_45]; exact h2) | (rw [udN_t c_45, ← h2])) (by omega) ls (lv_sub hl [0, 1, 3, 4, 5, 6] rfl)
  exact loop_6 _ (((-1 : Int32))) (0) (Nat.zero_le _) (rfl) (Nat.lt_succ_self _) ls (lv_sub hl [0, 1, 2, 3, 4, 5] rfl)
set_option maxHeartbeats 4000000 in
set_option maxRecDepth 100000 in
theorem k_X2_decidedPackets (l : Launch) {D : va_G} {Y : Nat → ClassId} {H : Heap} {x la na ea cap : Nat} {mod ju mi lo : Int32} {es : Nat → Option Nat} {nt : Nat → Int32} {L : List RA} {pl : Nat}  (hA : rdA D Y x la na ea cap mod es nt ju mi lo L H) (hpl : pl < L.length) : Rd l yX2_decidedPackets wsX2_decidedPackets 4 D Y [.ref (x), .ref ((gl L (pl)).2.1), .int (nI (pl))] H (nI (dcN (RS L) pl)) := by
  refine Rd.start (cc := cX2_decidedPackets) (maxL := 7) (rt := .int) (by decide) rfl (Nat.le_of_ble_eq_true rfl) ?_
  intro p e s m args below meth c ls Q S hK hl hE
  have S : CallFix p m c cX2_decidedPackets 7 s args wsX2_decidedPackets RX2 := S
  have hx := S.1
  have hb := S.2.1
  have hts := S.2.2.2.2
  have hl : lv_has ls 7 [(0, .ref (x)), (1, .ref ((gl L (pl)).2.1)), (2, .int (nI (pl)))] := hl
  have hA0 := hA
  obtain ⟨hX, hL, hN, hE2, hR, hok⟩ := hA
  have hlen : (RS L).length = L.length := List.length_map ..
  have hn : L.length ≤ 16 := by have := hok.1; omega
  have hoo : ∀ i, i < L.length → rvOk (gt (RS L) i) := fun i hi => hok.2 i (by omega)
  have ho := hoo pl hpl
  unfold rvOk at ho
  refine lv_iconst (v := (nI (0))) hx hb dX2_decidedPackets_0 (by decide +kernel) ?_
  refine lv_istore_n (lv' := [(3, .int (nI (0))), (0, .ref (x)), (1, .ref ((gl L (pl)).2.1)), (2, .int (nI (pl)))]) hx hb dX2_decidedPackets_1 rfl hl (by decide) rfl (fun ls hl => ?_)
  refine lv_aload_n hx hb dX2_decidedPackets_2 rfl (lv_at hl 2 rfl) ?_
  refine nr_get (C := RX1) (T := TX1) (N := 5) (ci := 1) S (fun _ h => List.mem_cons_of_mem _ (List.mem_append_left _ (List.mem_append_left _ (List.mem_append_left _ (List.mem_append_right _ (h)))))) hK (hR (pl) (by omega)).2 0 rfl rfl 1 (by decide) (List.mem_of_getElem? (i := 1) rfl) rfl dX2_decidedPackets_3 ?_
  refine nr_get (C := RX0) (T := TX0) (N := 3) (ci := 0) S (fun _ h => List.mem_cons_of_mem _ (List.mem_append_left _ (List.mem_append_left _ (List.mem_append_right _ (h))))) hK (hR (pl) (by omega)).2 1 rfl rfl 0 (by decide) (List.mem_of_getElem? (i := 2) rfl) rfl dX2_decidedPackets_6 ?_
  refine lv_istore (lv' := [(4, .int (nI (sF (gt (RS L) (pl))))), (3, .int (nI (0))), (0, .ref (x)), (1, .ref ((gl L (pl)).2.1)), (2, .int (nI (pl)))]) hx hb dX2_decidedPackets_9 hl (by decide) rfl (fun ls hl => ?_)
  have loop_11 : ∀ (fu_11 : Nat) (n : Nat) (s1 : Nat), (sF (gt (RS L) (pl)) ≤ s1 ∧ s1 ≤ sT (gt (RS L) (pl)) + 1) → (n = sumN (fun s => sumN (dcG (RS L) pl s) 4) s1) → sT (gt (RS L) (pl)) + 1 - s1 < fu_11 → ∀ ls : Array Slot, lv_has ls 7 [(4, .int (nI (s1))), (3, .int (nI (n))), (0, .ref (x)), (1, .ref ((gl L (pl)).2.1)), (2, .int (nI (pl)))] → W p l e (rmN 4) s m args below meth c H [] 0 0 Q (F0 m 11 ls []) := by
    intro fu_11
    induction fu_11 with
    | zero => exact fun n s1 _ _ hk => absurd hk (Nat.not_lt_zero _)
    | succ fu_11 ih_11 =>
      intro n s1 h1 h2 hk_11 ls hl
      refine lv_iload hx hb dX2_decidedPackets_11 (lv_at hl 0 rfl) ?_
      refine lv_aload_n hx hb dX2_decidedPackets_13 rfl (lv_at hl 3 rfl) ?_
      refine nr_get (C := RX1) (T := TX1) (N := 5) (ci := 1) S (fun _ h => List.mem_cons_of_mem _ (List.mem_append_left _ (List.mem_append_left _ (List.mem_append_left _ (List.mem_append_right _ (h)))))) hK (hR (pl) (by omega)).2 0 rfl rfl 1 (by decide) (List.mem_of_getElem? (i := 1) rfl) rfl dX2_decidedPackets_14 ?_
      refine nr_get (C := RX0) (T := TX0) (N := 3) (ci := 0) S (fun _ h => List.mem_cons_of_mem _ (List.mem_append_left _ (List.mem_append_left _ (List.mem_append_right _ (h))))) hK (hR (pl) (by omega)).2 1 rfl rfl 1 (by decide) (List.mem_of_getElem? (i := 3) rfl) rfl dX2_decidedPackets_17 ?_
      refine nr_icmp_gt (tgt := 83) hx hb (by omega) (by omega) dX2_decidedPackets_20 (by decide) (fun c_20 => ?_) (fun c_20 => ?_)
      · refine lv_iload_n hx hb dX2_decidedPackets_83 rfl (lv_at hl 1 rfl) ?_
        exact hE _ _ _ dX2_decidedPackets_84 (vp_nar_int _) (congrArg nI (by rw [h2, show s1 = sT (gt (RS L) pl) + 1 from by omega]; exact dcN_hi (by omega)))
      · refine lv_iconst (v := (nI (0))) hx hb dX2_decidedPackets_23 (by decide +kernel) ?_
        refine lv_istore (lv' := [(5, .int (nI (0))), (4, .int (nI (s1))), (3, .int (nI (n))), (0, .ref (x)), (1, .ref ((gl L (pl)).2.1)), (2, .int (nI (pl)))]) hx hb dX2_decidedPackets_24 hl (by decide) rfl (fun ls hl => ?_)
        have loop_26 : ∀ (fu_26 : Nat) (n2 : Nat) (p1 : Nat), (p1 ≤ 4) → (n2 = n + sumN (dcG (RS L) pl s1) p1) → 4 - p1 < fu_26 → ∀ ls : Array Slot, lv_has ls 7 [(5, .int (nI (p1))), (4, .int (nI (s1))), (3, .int (nI (n2))), (0, .ref (x)), (1, .ref ((gl L (pl)).2.1)), (2, .int (nI (pl)))] → W p l e (rmN 4) s m args below meth c H [] 0 0 Q (F0 m 26 ls []) := by
          intro fu_26
          induction fu_26 with
          | zero => exact fun n2 p1 _ _ hk => absurd hk (Nat.not_lt_zero _)
          | succ fu_26 ih_26 =>
            intro n2 p1 g1 g2 hk_26 ls hl
            refine lv_iload hx hb dX2_decidedPackets_26 (lv_at hl 0 rfl) ?_
            refine lv_iconst (v := (nI (4))) hx hb dX2_decidedPackets_28 (by decide +kernel) ?_
            refine nr_icmp_ge (tgt := 77) hx hb (by omega) (by omega) dX2_decidedPackets_29 (by decide) (fun c_29 => ?_) (fun c_29 => ?_)
            · refine lv_iinc (v := (nI (s1 + 1))) (lv' := [(4, .int (nI (s1 + 1))), (5, .int (nI (p1))), (3, .int (nI (n2))), (0, .ref (x)), (1, .ref ((gl L (pl)).2.1)), (2, .int (nI (pl)))]) hx hb dX2_decidedPackets_77 hl (k := 1) rfl (nI_add _ _) (by decide) rfl (fun ls hl => ?_)
              refine lv_goto (tgt := 11) hx hb dX2_decidedPackets_80 (by decide) ?_
              exact ih_11 (n2) (s1 + 1) (by omega) (by rw [g2, show p1 = 4 from by omega, h2]; rfl) (by omega) ls (lv_sub hl [0, 2, 3, 4, 5] rfl)
            · refine lv_aload_n hx hb dX2_decidedPackets_32 rfl (lv_at hl 4 rfl) ?_
              refine nr_get (C := RX1) (T := TX1) (N := 5) (ci := 1) S (fun _ h => List.mem_cons_of_mem _ (List.mem_append_left _ (List.mem_append_left _ (List.mem_append_left _ (List.mem_append_right _ (h)))))) hK (hR (pl) (by omega)).2 0 rfl rfl 3 (by decide) (List.mem_of_getElem? (i := 4) rfl) rfl dX2_decidedPackets_33 ?_
              refine lv_iload hx hb dX2_decidedPackets_36 (lv_at hl 0 rfl) ?_
              refine Rd.callS (r := (bI (hol (pR (gt (RS L) (pl))) (p1)))) (As := [.int (nI (pR (gt (RS L) (pl)))), .int (nI (p1))]) S (k_X2_holds l (nI (pR (gt (RS L) (pl)))) (nI (p1))) (va_cwS 2 hts gX2_decidedPackets_X2_holds rfl rfl rfl (by decide +kernel) ⟨Nat.le_of_ble_eq_true rfl, Nat.le_of_ble_eq_true rfl⟩) hK rfl hl.1 rfl (Nat.le_of_ble_eq_true rfl) dX2_decidedPackets_38 ⟨Nat.zero_le _, Nat.zero_le _⟩ ?_
              refine nr_ifB_eq (tgt := 71) hx hb dX2_decidedPackets_41 (by decide) (fun c_41 => ?_) (fun c_41 => ?_)
              · refine lv_iinc (v := (nI (p1 + 1))) (lv' := [(5, .int (nI (p1 + 1))), (4, .int (nI (s1))), (3, .int (nI (n2))), (0, .ref (x)), (1, .ref ((gl L (pl)).2.1)), (2, .int (nI (pl)))]) hx hb dX2_decidedPackets_71 hl (k := 0) rfl (nI_add _ _) (by decide) rfl (fun ls hl => ?_)
                refine lv_goto (tgt := 26) hx hb dX2_decidedPackets_74 (by decide) ?_
                exact ih_26 (n2) (p1 + 1) (by omega) (by first | (rw [sumN, dcG_t (show con (gt (RS L) pl) s1 p1 = true by unfold con; rw [inN_t h1.1 (by omega), c_41]; rfl), g2, Nat.add_assoc]) | (rw [sumN, dcG_f (show con (gt (RS L) pl) s1 p1 = false by unfold con; rw [c_41, Bool.and_false]), g2, Nat.add_zero])) (by omega) ls (lv_sub hl [0, 1, 2, 3, 4, 5] rfl)
              · refine lv_aload_n hx hb dX2_decidedPackets_44 rfl (lv_at hl 4 rfl) ?_
                refine nr_get (C := RX1) (T := TX1) (N := 5) (ci := 1) S (fun _ h => List.mem_cons_of_mem _ (List.mem_append_left _ (List.mem_append_left _ (List.mem_append_left _ (List.mem_append_right _ (h)))))) hK (hR (pl) (by omega)).2 0 rfl rfl 2 (by decide) (List.mem_of_getElem? (i := 5) rfl) rfl dX2_decidedPackets_45 ?_
                refine nr_get (C := RX0) (T := TX0) (N := 3) (ci := 0) S (fun _ h => List.mem_cons_of_mem _ (List.mem_append_left _ (List.mem_append_left _ (List.mem_append_right _ (h))))) hK (hR (pl) (by omega)).2 2 rfl rfl 2 (by decide) (List.mem_of_getElem? (i := 6) rfl) rfl dX2_decidedPackets_48 ?_
                refine lv_aload_n hx hb dX2_decidedPackets_51 rfl (lv_at hl 3 rfl) ?_
                refine lv_iload hx hb dX2_decidedPackets_52 (lv_at hl 1 rfl) ?_
                refine lv_iload hx hb dX2_decidedPackets_54 (lv_at hl 0 rfl) ?_
                refine lv_iload_n hx hb dX2_decidedPackets_56 rfl (lv_at hl 5 rfl) ?_
                refine Rd.callV (r := (udN (RS L) (s1) (p1) (pl))) (As := [.int (nI (s1)), .int (nI (p1)), .int (nI (pl))]) S (k_X2_undecidedDestinations l hA0 (s0 := s1) (p0 := p1) (pl := pl) (by omega) (by omega) (by omega)) (cwV 3 hts gX2_decidedPackets_X2_undecidedDestinations rfl rfl rfl (by decide +kernel) ⟨Nat.le_of_ble_eq_true rfl, Nat.le_of_ble_eq_true rfl⟩) hK (va_recv hK.1 hX (ci := 2) (q0 := 0) rfl rfl) rfl hl.1 rfl (Nat.le_of_ble_eq_true rfl) dX2_decidedPackets_57 ⟨Nat.zero_le _, Nat.zero_le _⟩ ?_
                refine lv_iand hx hb dX2_decidedPackets_60 ?_
                refine lv_istore (lv' := [(6, .int (((mkI (dF (gt (RS L) (pl))) (dT (gt (RS L) (pl)))) &&& (udN (RS L) (s1) (p1) (pl))))), (5, .int (nI (p1))), (4, .int (nI (s1))), (3, .int (nI (n2))), (0, .ref (x)), (1, .ref ((gl L (pl)).2.1)), (2, .int (nI (pl)))]) hx hb dX2_decidedPackets_61 hl (by decide) rfl (fun ls hl => ?_)
                refine lv_iload_n hx hb dX2_decidedPackets_63 rfl (lv_at hl 3 rfl) ?_
                refine lv_iload hx hb dX2_decidedPackets_64 (lv_at hl 0 rfl) ?_
                refine Rd.callS (r := (nI (popI (((mkI (dF (gt (RS L) (pl))) (dT (gt (RS L) (pl)))) &&& (udN (RS L) (s1) (p1) (pl))))))) (As := [.int (((mkI (dF (gt (RS L) (pl))) (dT (gt (RS L) (pl)))) &&& (udN (RS L) (s1) (p1) (pl))))]) S (k_J6_bitCount_0f7a4 l (((mkI (dF (gt (RS L) (pl))) (dT (gt (RS L) (pl)))) &&& (udN (RS L) (s1) (p1) (pl))))) (va_cwS 1 hts gX2_decidedPackets_J6_bitCount_0f7a4 rfl rfl rfl (by decide +kernel) ⟨Nat.le_of_ble_eq_true rfl, Nat.le_of_ble_eq_true rfl⟩) hK rfl hl.1 rfl (Nat.le_of_ble_eq_true rfl) dX2_decidedPackets_66 ⟨Nat.zero_le _, Nat.zero_le _⟩ ?_
                refine nr_iadd hx hb dX2_decidedPackets_69 ?_
                refine lv_istore_n (lv' := [(3, .int (nI (n2 + (popI (((mkI (dF (gt (RS L) (pl))) (dT (gt (RS L) (pl)))) &&& (udN (RS L) (s1) (p1) (pl)))))))), (6, .int (((mkI (dF (gt (RS L) (pl))) (dT (gt (RS L) (pl)))) &&& (udN (RS L) (s1) (p1) (pl))))), (5, .int (nI (p1))), (4, .int (nI (s1))), (0, .ref (x)), (1, .ref ((gl L (pl)).2.1)), (2, .int (nI (pl)))]) hx hb dX2_decidedPackets_70 rfl hl (by decide) rfl (fun ls hl => ?_)
                refine lv_iinc (v := (nI (p1 + 1))) (lv' := [(5, .int (nI (p1 + 1))), (3, .int (nI (n2 + (popI (((mkI (dF (gt (RS L) (pl))) (dT (gt (RS L) (pl)))) &&& (udN (RS L) (s1) (p1) (pl)))))))), (6, .int (((mkI (dF (gt (RS L) (pl))) (dT (gt (RS L) (pl)))) &&& (udN (RS L) (s1) (p1) (pl))))), (4, .int (nI (s1))), (0, .ref (x)), (1, .ref ((gl L (pl)).2.1)), (2, .int (nI (pl)))]) hx hb dX2_decidedPackets_71 hl (k := 2) rfl (nI_add _ _) (by decide) rfl (fun ls hl => ?_)
                refine lv_goto (tgt := 26) hx hb dX2_decidedPackets_74 (by decide) ?_
                exact ih_26 (n2 + (popI (((mkI (dF (gt (RS L) (pl))) (dT (gt (RS L) (pl)))) &&& (udN (RS L) (s1) (p1) (pl)))))) (p1 + 1) (by omega) (by first | (rw [sumN, dcG_t (show con (gt (RS L) pl) s1 p1 = true by unfold con; rw [inN_t h1.1 (by omega), c_41]; rfl), g2, Nat.add_assoc]) | (rw [sumN, dcG_f (show con (gt (RS L) pl) s1 p1 = false by unfold con; rw [c_41, Bool.and_false]), g2, Nat.add_zero])) (by omega) ls (lv_sub hl [0, 3, 1, 4, 5, 6] rfl)
        exact loop_26 _ (n) (0) (Nat.zero_le _) (rfl) (Nat.lt_succ_self _) ls (lv_sub hl [0, 1, 2, 3, 4, 5] rfl)
  exact loop_11 _ (0) (sF (gt (RS L) (pl))) (by omega) ((dcN_lo _ _).symm) (Nat.lt_succ_self _) ls (lv_sub hl [0, 1, 2, 3, 4] rfl)
set_option maxHeartbeats 4000000 in
set_option maxRecDepth 100000 in
theorem k_X2_isNeedless (l : Launch) {D : va_G} {Y : Nat → ClassId} {H : Heap} {x la na ea cap : Nat} {mod ju mi lo : Int32} {es : Nat → Option Nat} {nt : Nat → Int32} {L : List RA} {pl : Nat}  (hA : rdA D Y x la na ea cap mod es nt ju mi lo L H) (hpl : pl < L.length) : Rd l yX2_isNeedless wsX2_isNeedless 4 D Y [.ref (x), .ref ((gl L (pl)).2.1), .int (nI (pl))] H (bI (ndB (RS L) pl)) := by
  refine Rd.start (cc := cX2_isNeedless) (maxL := 5) (rt := .boolean) (by decide) rfl (Nat.le_of_ble_eq_true rfl) ?_
  intro p e s m args below meth c ls Q S hK hl hE
  have S : CallFix p m c cX2_isNeedless 5 s args wsX2_isNeedless RX2 := S
  have hx := S.1
  have hb := S.2.1
  have hts := S.2.2.2.2
  have hl : lv_has ls 5 [(0, .ref (x)), (1, .ref ((gl L (pl)).2.1)), (2, .int (nI (pl)))] := hl
  have hA0 := hA
  obtain ⟨hX, hL, hN, hE2, hR, hok⟩ := hA
  have hlen : (RS L).length = L.length := List.length_map ..
  have hn : L.length ≤ 16 := by have := hok.1; omega
  have hoo : ∀ i, i < L.length → rvOk (gt (RS L) i) := fun i hi => hok.2 i (by omega)
  have ho := hoo pl hpl
  unfold rvOk at ho
  refine lv_aload_n hx hb dX2_isNeedless_0 rfl (lv_at hl 1 rfl) ?_
  refine nr_get (C := RX1) (T := TX1) (N := 5) (ci := 1) S (fun _ h => List.mem_cons_of_mem _ (List.mem_append_left _ (List.mem_append_left _ (List.mem_append_left _ (List.mem_append_right _ (h)))))) hK (hR (pl) (by omega)).2 0 rfl rfl 1 (by decide) (List.mem_of_getElem? (i := 1) rfl) rfl dX2_isNeedless_1 ?_
  refine nr_get (C := RX0) (T := TX0) (N := 3) (ci := 0) S (fun _ h => List.mem_cons_of_mem _ (List.mem_append_left _ (List.mem_append_left _ (List.mem_append_right _ (h))))) hK (hR (pl) (by omega)).2 1 rfl rfl 0 (by decide) (List.mem_of_getElem? (i := 2) rfl) rfl dX2_isNeedless_4 ?_
  refine lv_istore_n (lv' := [(3, .int (nI (sF (gt (RS L) (pl))))), (0, .ref (x)), (1, .ref ((gl L (pl)).2.1)), (2, .int (nI (pl)))]) hx hb dX2_isNeedless_7 rfl hl (by decide) rfl (fun ls hl => ?_)
  have loop_8 : ∀ (fu_8 : Nat) (s1 : Nat), (sF (gt (RS L) (pl)) ≤ s1 ∧ s1 ≤ sT (gt (RS L) (pl)) + 1) → (∀ s, sF (gt (RS L) (pl)) ≤ s → s < s1 → ∀ p, p < 4 → pmI (RS L) s p (-1) = pmI (RS L) s p (nI pl)) → sT (gt (RS L) (pl)) + 1 - s1 < fu_8 → ∀ ls : Array Slot, lv_has ls 5 [(3, .int (nI (s1))), (0, .ref (x)), (1, .ref ((gl L (pl)).2.1)), (2, .int (nI (pl)))] → W p l e (rmN 4) s m args below meth c H [] 0 0 Q (F0 m 8 ls []) := by
    intro fu_8
    induction fu_8 with
    | zero => exact fun s1 _ _ hk => absurd hk (Nat.not_lt_zero _)
    | succ fu_8 ih_8 =>
      intro s1 h1 h2 hk_8 ls hl
      refine lv_iload_n hx hb dX2_isNeedless_8 rfl (lv_at hl 0 rfl) ?_
      refine lv_aload_n hx hb dX2_isNeedless_9 rfl (lv_at hl 2 rfl) ?_
      refine nr_get (C := RX1) (T := TX1) (N := 5) (ci := 1) S (fun _ h => List.mem_cons_of_mem _ (List.mem_append_left _ (List.mem_append_left _ (List.mem_append_left _ (List.mem_append_right _ (h)))))) hK (hR (pl) (by omega)).2 0 rfl rfl 1 (by decide) (List.mem_of_getElem? (i := 1) rfl) rfl dX2_isNeedless_10 ?_
      refine nr_get (C := RX0) (T := TX0) (N := 3) (ci := 0) S (fun _ h => List.mem_cons_of_mem _ (List.mem_append_left _ (List.mem_append_left _ (List.mem_append_right _ (h))))) hK (hR (pl) (by omega)).2 1 rfl rfl 1 (by decide) (List.mem_of_getElem? (i := 3) rfl) rfl dX2_isNeedless_13 ?_
      refine nr_icmp_gt (tgt := 73) hx hb (by omega) (by omega) dX2_isNeedless_16 (by decide) (fun c_16 => ?_) (fun c_16 => ?_)
      · refine lv_iconst (v := (nI (1))) hx hb dX2_isNeedless_73 (by decide +kernel) ?_
        exact hE _ _ _ dX2_isNeedless_74 (rfl) (bI_t (ndB_t (by omega) (by omega) (fun s h8 h9 p hp => h2 s h8 (by omega) p hp)))
      · refine lv_iconst (v := (nI (0))) hx hb dX2_isNeedless_19 (by decide +kernel) ?_
        refine lv_istore (lv' := [(4, .int (nI (0))), (3, .int (nI (s1))), (0, .ref (x)), (1, .ref ((gl L (pl)).2.1)), (2, .int (nI (pl)))]) hx hb dX2_isNeedless_20 hl (by decide) rfl (fun ls hl => ?_)
        have loop_22 : ∀ (fu_22 : Nat) (p1 : Nat), (p1 ≤ 4) → (∀ p, p < p1 → pmI (RS L) s1 p (-1) = pmI (RS L) s1 p (nI pl)) → 4 - p1 < fu_22 → ∀ ls : Array Slot, lv_has ls 5 [(4, .int (nI (p1))), (3, .int (nI (s1))), (0, .ref (x)), (1, .ref ((gl L (pl)).2.1)), (2, .int (nI (pl)))] → W p l e (rmN 4) s m args below meth c H [] 0 0 Q (F0 m 22 ls []) := by
          intro fu_22
          induction fu_22 with
          | zero => exact fun p1 _ _ hk => absurd hk (Nat.not_lt_zero _)
          | succ fu_22 ih_22 =>
            intro p1 g1 g2 hk_22 ls hl
            refine lv_iload hx hb dX2_isNeedless_22 (lv_at hl 0 rfl) ?_
            refine lv_iconst (v := (nI (4))) hx hb dX2_isNeedless_24 (by decide +kernel) ?_
            refine nr_icmp_ge (tgt := 67) hx hb (by omega) (by omega) dX2_isNeedless_25 (by decide) (fun c_25 => ?_) (fun c_25 => ?_)
            · refine lv_iinc (v := (nI (s1 + 1))) (lv' := [(3, .int (nI (s1 + 1))), (4, .int (nI (p1))), (0, .ref (x)), (1, .ref ((gl L (pl)).2.1)), (2, .int (nI (pl)))]) hx hb dX2_isNeedless_67 hl (k := 1) rfl (nI_add _ _) (by decide) rfl (fun ls hl => ?_)
              refine lv_goto (tgt := 8) hx hb dX2_isNeedless_70 (by decide) ?_
              exact ih_8 (s1 + 1) (by omega) (fun s h8 h9 p hp => by by_cases hq : s = s1; exact hq ▸ g2 p (by omega); exact h2 s h8 (by omega) p hp) (by omega) ls (lv_sub hl [0, 2, 3, 4] rfl)
            · refine lv_aload_n hx hb dX2_isNeedless_28 rfl (lv_at hl 3 rfl) ?_
              refine nr_get (C := RX1) (T := TX1) (N := 5) (ci := 1) S (fun _ h => List.mem_cons_of_mem _ (List.mem_append_left _ (List.mem_append_left _ (List.mem_append_left _ (List.mem_append_right _ (h)))))) hK (hR (pl) (by omega)).2 0 rfl rfl 3 (by decide) (List.mem_of_getElem? (i := 4) rfl) rfl dX2_isNeedless_29 ?_
              refine lv_iload hx hb dX2_isNeedless_32 (lv_at hl 0 rfl) ?_
              refine Rd.callS (r := (bI (hol (pR (gt (RS L) (pl))) (p1)))) (As := [.int (nI (pR (gt (RS L) (pl)))), .int (nI (p1))]) S (k_X2_holds l (nI (pR (gt (RS L) (pl)))) (nI (p1))) (va_cwS 2 hts gX2_isNeedless_X2_holds rfl rfl rfl (by decide +kernel) ⟨Nat.le_of_ble_eq_true rfl, Nat.le_of_ble_eq_true rfl⟩) hK rfl hl.1 rfl (Nat.le_of_ble_eq_true rfl) dX2_isNeedless_34 ⟨Nat.zero_le _, Nat.zero_le _⟩ ?_
              refine nr_ifB_eq (tgt := 61) hx hb dX2_isNeedless_37 (by decide) (fun c_37 => ?_) (fun c_37 => ?_)
              · refine lv_iinc (v := (nI (p1 + 1))) (lv' := [(4, .int (nI (p1 + 1))), (3, .int (nI (s1))), (0, .ref (x)), (1, .ref ((gl L (pl)).2.1)), (2, .int (nI (pl)))]) hx hb dX2_isNeedless_61 hl (k := 0) rfl (nI_add _ _) (by decide) rfl (fun ls hl => ?_)
                refine lv_goto (tgt := 22) hx hb dX2_isNeedless_64 (by decide) ?_
                exact ih_22 (p1 + 1) (by omega) (lt_s g2 (by first | exact c_56 | exact pmI_out (show con (gt (RS L) pl) s1 p1 = false by unfold con; rw [c_37, Bool.and_false]) (by omega) (by omega))) (by omega) ls (lv_sub hl [0, 1, 2, 3, 4] rfl)
              · refine lv_aload_n hx hb dX2_isNeedless_40 rfl (lv_at hl 2 rfl) ?_
                refine lv_iload_n hx hb dX2_isNeedless_41 rfl (lv_at hl 1 rfl) ?_
                refine lv_iload hx hb dX2_isNeedless_42 (lv_at hl 0 rfl) ?_
                refine lv_iconst (v := ((-1 : Int32))) hx hb dX2_isNeedless_44 (by decide +kernel) ?_
                refine Rd.callV (r := (pmI (RS L) (s1) (p1) ((-1 : Int32)))) (As := [.int (nI (s1)), .int (nI (p1)), .int ((-1 : Int32))]) S (k_X2_permittedDestinations l hA0 (s0 := s1) (p0 := p1) (wo := ((-1 : Int32))) (by omega) (by omega)) (cwV 3 hts gX2_isNeedless_X2_permittedDestinations rfl rfl rfl (by decide +kernel) ⟨Nat.le_of_ble_eq_true rfl, Nat.le_of_ble_eq_true rfl⟩) hK (va_recv hK.1 hX (ci := 2) (q0 := 0) rfl rfl) rfl hl.1 rfl (Nat.le_of_ble_eq_true rfl) dX2_isNeedless_45 ⟨Nat.zero_le _, Nat.zero_le _⟩ ?_
                refine lv_aload_n hx hb dX2_isNeedless_48 rfl (lv_at hl 2 rfl) ?_
                refine lv_iload_n hx hb dX2_isNeedless_49 rfl (lv_at hl 1 rfl) ?_
                refine lv_iload hx hb dX2_isNeedless_50 (lv_at hl 0 rfl) ?_
                refine lv_iload_n hx hb dX2_isNeedless_52 rfl (lv_at hl 4 rfl) ?_
                refine Rd.callV (r := (pmI (RS L) (s1) (p1) (nI (pl)))) (As := [.int (nI (s1)), .int (nI (p1)), .int (nI (pl))]) S (k_X2_permittedDestinations l hA0 (s0 := s1) (p0 := p1) (wo := (nI (pl))) (by omega) (by omega)) (cwV 3 hts gX2_isNeedless_X2_permittedDestinations rfl rfl rfl (by decide +kernel) ⟨Nat.le_of_ble_eq_true rfl, Nat.le_of_ble_eq_true rfl⟩) hK (va_recv hK.1 hX (ci := 2) (q0 := 0) rfl rfl) rfl hl.1 rfl (Nat.le_of_ble_eq_true rfl) dX2_isNeedless_53 ⟨Nat.zero_le _, Nat.zero_le _⟩ ?_
                refine lv_icmp_eq (tgt := 61) hx hb dX2_isNeedless_56 (by decide) (fun c_56 => ?_) (fun c_56 => ?_)
                · refine lv_iinc (v := (nI (p1 + 1))) (lv' := [(4, .int (nI (p1 + 1))), (3, .int (nI (s1))), (0, .ref (x)), (1, .ref ((gl L (pl)).2.1)), (2, .int (nI (pl)))]) hx hb dX2_isNeedless_61 hl (k := 0) rfl (nI_add _ _) (by decide) rfl (fun ls hl => ?_)
                  refine lv_goto (tgt := 22) hx hb dX2_isNeedless_64 (by decide) ?_
                  exact ih_22 (p1 + 1) (by omega) (lt_s g2 (by first | exact c_56 | exact pmI_out (show con (gt (RS L) pl) s1 p1 = false by unfold con; rw [c_37, Bool.and_false]) (by omega) (by omega))) (by omega) ls (lv_sub hl [0, 1, 2, 3, 4] rfl)
                · refine lv_iconst (v := (nI (0))) hx hb dX2_isNeedless_59 (by decide +kernel) ?_
                  exact hE _ _ _ dX2_isNeedless_60 (rfl) (bI_f (ndB_f (by omega) (by omega) c_56))
        exact loop_22 _ (0) (Nat.zero_le _) (fun _ hj => absurd hj (Nat.not_lt_zero _)) (Nat.lt_succ_self _) ls (lv_sub hl [0, 1, 2, 3, 4] rfl)
  exact loop_8 _ (sF (gt (RS L) (pl))) (by omega) (fun s h1 h2 => absurd h2 (Nat.not_lt.mpr h1)) (Nat.lt_succ_self _) ls (lv_sub hl [0, 1, 2, 3] rfl)
set_option maxHeartbeats 4000000 in
set_option maxRecDepth 100000 in
theorem k_X2_firstMatch (l : Launch) {D : va_G} {Y : Nat → ClassId} {H : Heap} {x la na ea cap : Nat} {mod ju mi lo : Int32} {es : Nat → Option Nat} {nt : Nat → Int32} {L : List RA} {s0 d0 p0 : Nat}  (hA : rdA D Y x la na ea cap mod es nt ju mi lo L H) (hs : s0 < 32) (hd : d0 < 32) (hp : p0 < 4) : Rd l yX2_firstMatch wsX2_firstMatch 3 D Y [.ref (x), .int (nI (s0)), .int (nI (d0)), .int (nI (p0))] H (nI (fmN (RS L) s0 d0 p0)) := by
  refine Rd.start (cc := cX2_firstMatch) (maxL := 5) (rt := .int) (by decide) rfl (Nat.le_of_ble_eq_true rfl) ?_
  intro p e s m args below meth c ls Q S hK hl hE
  have S : CallFix p m c cX2_firstMatch 5 s args wsX2_firstMatch RX2 := S
  have hx := S.1
  have hb := S.2.1
  have hts := S.2.2.2.2
  have hl : lv_has ls 5 [(0, .ref (x)), (1, .int (nI (s0))), (2, .int (nI (d0))), (3, .int (nI (p0)))] := hl
  have hA0 := hA
  obtain ⟨hX, hL, hN, hE2, hR, hok⟩ := hA
  have hlen : (RS L).length = L.length := List.length_map ..
  have hn : L.length ≤ 16 := by have := hok.1; omega
  have hoo : ∀ i, i < L.length → rvOk (gt (RS L) i) := fun i hi => hok.2 i (by omega)
  refine lv_iconst (v := (nI (0))) hx hb dX2_firstMatch_0 (by decide +kernel) ?_
  refine lv_istore (lv' := [(4, .int (nI (0))), (0, .ref (x)), (1, .int (nI (s0))), (2, .int (nI (d0))), (3, .int (nI (p0)))]) hx hb dX2_firstMatch_1 hl (by decide) rfl (fun ls hl => ?_)
  have loop_3 : ∀ (fu_3 : Nat) (i : Nat), (i ≤ L.length) → (∀ j, j < i → mbI (gt (RS L) j) s0 d0 p0 = false) → L.length - i < fu_3 → ∀ ls : Array Slot, lv_has ls 5 [(4, .int (nI (i))), (0, .ref (x)), (1, .int (nI (s0))), (2, .int (nI (d0))), (3, .int (nI (p0)))] → W p l e (rmN 3) s m args below meth c H [] 0 0 Q (F0 m 3 ls []) := by
    intro fu_3
    induction fu_3 with
    | zero => exact fun i _ _ hk => absurd hk (Nat.not_lt_zero _)
    | succ fu_3 ih_3 =>
      intro i h1 h2 hk_3 ls hl
      refine lv_iload hx hb dX2_firstMatch_3 (lv_at hl 0 rfl) ?_
      refine lv_aload_n hx hb dX2_firstMatch_5 rfl (lv_at hl 1 rfl) ?_
      refine nr_get (C := RX2) (T := TX2) (N := 5) (ci := 2) S (fun _ h => List.mem_cons_of_mem _ (List.mem_append_left _ (List.mem_append_left _ (List.mem_append_left _ (List.mem_append_right _ (h)))))) hK hX 0 rfl rfl 0 (by decide) (List.mem_of_getElem? (i := 1) rfl) rfl dX2_firstMatch_6 ?_
      refine Rd.callV (r := (nI (L.length))) (As := []) S (k_Jx4a65c_size_8abf5 l hL) (cwV 0 hts gX2_firstMatch_Jx4a65c_size_8abf5 rfl rfl rfl (by decide +kernel) ⟨Nat.le_of_ble_eq_true rfl, Nat.le_of_ble_eq_true rfl⟩) hK (va_recv hK.1 hL (ci := 4) (q0 := 0) rfl rfl) rfl hl.1 rfl (Nat.le_of_ble_eq_true rfl) dX2_firstMatch_9 ⟨Nat.zero_le _, Nat.zero_le _⟩ ?_
      refine nr_icmp_ge (tgt := 42) hx hb (by omega) (by omega) dX2_firstMatch_12 (by decide) (fun c_12 => ?_) (fun c_12 => ?_)
      · refine lv_iload hx hb dX2_firstMatch_42 (lv_at hl 0 rfl) ?_
        exact hE _ _ _ dX2_firstMatch_44 (vp_nar_int _) (by first | exact fmN_end (by omega) (by omega) h2 | exact fmN_hit (by omega) h2 ((mbI_eq (hoo i (by omega)) hd).trans c_33))
      · refine lv_aload_n hx hb dX2_firstMatch_15 rfl (lv_at hl 1 rfl) ?_
        refine nr_get (C := RX2) (T := TX2) (N := 5) (ci := 2) S (fun _ h => List.mem_cons_of_mem _ (List.mem_append_left _ (List.mem_append_left _ (List.mem_append_left _ (List.mem_append_right _ (h)))))) hK hX 0 rfl rfl 0 (by decide) (List.mem_of_getElem? (i := 1) rfl) rfl dX2_firstMatch_16 ?_
        refine lv_iload hx hb dX2_firstMatch_19 (lv_at hl 0 rfl) ?_
        refine RdA.callV (x := (gl L (i)).2.1) (As := [.int (nI (i))]) S (k_Jx4a65c_get_915e3 l hL (hE2 (by omega)).1 (i := i) (by omega) (hE2 (by omega)).2.1 (hE2 (by omega)).2.2 (hR (i) (by omega)).1) (cwV 1 hts gX2_firstMatch_Jx4a65c_get_915e3 rfl rfl rfl (by decide +kernel) ⟨Nat.le_of_ble_eq_true rfl, Nat.le_of_ble_eq_true rfl⟩) hK (va_recv hK.1 hL (ci := 4) (q0 := 0) rfl rfl) rfl hl.1 rfl (Nat.le_of_ble_eq_true rfl) dX2_firstMatch_21 ⟨Nat.zero_le _, Nat.zero_le _⟩ ?_
        refine nr_cast (C := RX1) (T := TX1) (N := 5) (ci := 1) S (List.mem_of_getElem? (i := 2) rfl) hK (hR (i) (by omega)).2 0 rfl rfl dX2_firstMatch_24 ?_
        refine lv_iload_n hx hb dX2_firstMatch_27 rfl (lv_at hl 2 rfl) ?_
        refine lv_iload_n hx hb dX2_firstMatch_28 rfl (lv_at hl 3 rfl) ?_
        refine lv_iload_n hx hb dX2_firstMatch_29 rfl (lv_at hl 4 rfl) ?_
        refine Rd.callV (r := (bI (mtB (gt (RS L) (i)) (s0) (d0) (p0)))) (As := [.int (nI (s0)), .int (nI (d0)), .int (nI (p0))]) S (k_X1_matches l (hR (i) (by omega)).2 (hoo (i) (by omega)) (s0 := s0) (d0 := d0) (p0 := p0) (by omega) (by omega) (by omega)) (cwV 3 hts gX2_firstMatch_X1_matches rfl rfl rfl (by decide +kernel) ⟨Nat.le_of_ble_eq_true rfl, Nat.le_of_ble_eq_true rfl⟩) hK (va_recv hK.1 (hR (i) (by omega)).2 (ci := 1) (q0 := 0) rfl rfl) rfl hl.1 rfl (Nat.le_of_ble_eq_true rfl) dX2_firstMatch_30 ⟨Nat.zero_le _, Nat.zero_le _⟩ ?_
        refine nr_ifB_ne (tgt := 42) hx hb dX2_firstMatch_33 (by decide) (fun c_33 => ?_) (fun c_33 => ?_)
        · refine lv_iload hx hb dX2_firstMatch_42 (lv_at hl 0 rfl) ?_
          exact hE _ _ _ dX2_firstMatch_44 (vp_nar_int _) (by first | exact fmN_end (by omega) (by omega) h2 | exact fmN_hit (by omega) h2 ((mbI_eq (hoo i (by omega)) hd).trans c_33))
        · refine lv_iinc (v := (nI (i + 1))) (lv' := [(4, .int (nI (i + 1))), (0, .ref (x)), (1, .int (nI (s0))), (2, .int (nI (d0))), (3, .int (nI (p0)))]) hx hb dX2_firstMatch_36 hl (k := 0) rfl (nI_add _ _) (by decide) rfl (fun ls hl => ?_)
          refine lv_goto (tgt := 3) hx hb dX2_firstMatch_39 (by decide) ?_
          exact ih_3 (i + 1) (by omega) (lt_s h2 ((mbI_eq (hoo i (by omega)) hd).trans c_33)) (by omega) ls (lv_sub hl [0, 1, 2, 3, 4] rfl)
  exact loop_3 _ (0) (Nat.zero_le _) (fun _ hj => absurd hj (Nat.not_lt_zero _)) (Nat.lt_succ_self _) ls (lv_sub hl [0, 1, 2, 3, 4] rfl)
set_option maxHeartbeats 4000000 in
set_option maxRecDepth 100000 in
theorem k_X2_checkPlace (l : Launch) {D : va_G} {Y : Nat → ClassId} {H : Heap} {x la na ea cap : Nat} {mod ju mi lo : Int32} {es : Nat → Option Nat} {nt : Nat → Int32} {L : List RA} {i : Nat}  (hA : rdA D Y x la na ea cap mod es nt ju mi lo L H) (hi : i < L.length) : RdO l yX2_checkPlace wsX2_checkPlace 1 D Y [.ref (x), .int (nI (i))] H (none) := by
  refine RdU.start (cc := cX2_checkPlace) (maxL := 2) (by decide) rfl (Nat.le_of_ble_eq_true rfl) ?_
  intro p e s m args below meth c ls Q S hK hl hE
  have S : CallFix p m c cX2_checkPlace 2 s args wsX2_checkPlace RX2 := S
  have hx := S.1
  have hb := S.2.1
  have hts := S.2.2.2.2
  have hl : lv_has ls 2 [(0, .ref (x)), (1, .int (nI (i)))] := hl
  have hA0 := hA
  obtain ⟨hX, hL, hN, hE2, hR, hok⟩ := hA
  have hlen : (RS L).length = L.length := List.length_map ..
  have hn : L.length ≤ 16 := by have := hok.1; omega
  have hoo : ∀ i, i < L.length → rvOk (gt (RS L) i) := fun i hi => hok.2 i (by omega)
  refine lv_iload_n hx hb dX2_checkPlace_0 rfl (lv_at hl 1 rfl) ?_
  refine lv_if_lt (tgt := 15) hx hb dX2_checkPlace_1 (by decide) (fun c_1 => absurd c_1 (nI_pos (by omega))) (fun c_1 => ?_)
  refine lv_iload_n hx hb dX2_checkPlace_4 rfl (lv_at hl 1 rfl) ?_
  refine lv_aload_n hx hb dX2_checkPlace_5 rfl (lv_at hl 0 rfl) ?_
  refine nr_get (C := RX2) (T := TX2) (N := 5) (ci := 2) S (fun _ h => List.mem_cons_of_mem _ (List.mem_append_left _ (List.mem_append_left _ (List.mem_append_right _ (h))))) hK hX 0 rfl rfl 0 (by decide) (List.mem_of_getElem? (i := 3) rfl) rfl dX2_checkPlace_6 ?_
  refine Rd.callV (r := (nI (L.length))) (As := []) S (k_Jx4a65c_size_8abf5 l hL) (cwV 0 hts gX2_checkPlace_Jx4a65c_size_8abf5 rfl rfl rfl (by decide +kernel) ⟨Nat.le_of_ble_eq_true rfl, Nat.le_of_ble_eq_true rfl⟩) hK (va_recv hK.1 hL (ci := 4) (q0 := 0) rfl rfl) rfl hl.1 rfl (Nat.le_of_ble_eq_true rfl) dX2_checkPlace_9 ⟨Nat.zero_le _, Nat.zero_le _⟩ ?_
  refine nr_icmp_lt (tgt := 25) hx hb (by omega) (by omega) dX2_checkPlace_12 (by decide) (fun c_12 => ?_) (fun c_12 => absurd c_12 (by omega))
  exact hE _ _ dX2_checkPlace_25
set_option maxHeartbeats 4000000 in
set_option maxRecDepth 100000 in
theorem k_X2_ruleAt (l : Launch) {D : va_G} {Y : Nat → ClassId} {H : Heap} {x la na ea cap : Nat} {mod ju mi lo : Int32} {es : Nat → Option Nat} {nt : Nat → Int32} {L : List RA} {i : Nat}  (hA : rdA D Y x la na ea cap mod es nt ju mi lo L H) (hi : i < L.length) : RdO l yX2_ruleAt wsX2_ruleAt 3 D Y [.ref (x), .int (nI (i))] H (some (.ref (gl L i).2.1)) := by
  refine RdA.start (cc := cX2_ruleAt) (maxL := 2) (rt := (.object "Aclsmith$Rule")) (Or.inl ⟨_, rfl⟩) (by decide) rfl (Nat.le_of_ble_eq_true rfl) ?_
  intro p e s m args below meth c ls Q S hK hl hE
  have S : CallFix p m c cX2_ruleAt 2 s args wsX2_ruleAt RX2 := S
  have hx := S.1
  have hb := S.2.1
  have hts := S.2.2.2.2
  have hl : lv_has ls 2 [(0, .ref (x)), (1, .int (nI (i)))] := hl
  have hA0 := hA
  obtain ⟨hX, hL, hN, hE2, hR, hok⟩ := hA
  have hlen : (RS L).length = L.length := List.length_map ..
  have hn : L.length ≤ 16 := by have := hok.1; omega
  have hoo : ∀ i, i < L.length → rvOk (gt (RS L) i) := fun i hi => hok.2 i (by omega)
  refine lv_aload_n hx hb dX2_ruleAt_0 rfl (lv_at hl 0 rfl) ?_
  refine lv_iload_n hx hb dX2_ruleAt_1 rfl (lv_at hl 1 rfl) ?_
  refine RdU.callV (As := [.int (nI (i))]) S (k_X2_checkPlace l hA0 (i := i) (by omega)) (cwV 1 hts gX2_ruleAt_X2_checkPlace rfl rfl rfl (by decide +kernel) ⟨Nat.le_of_ble_eq_true rfl, Nat.le_of_ble_eq_true rfl⟩) hK (va_recv hK.1 hX (ci := 2) (q0 := 0) rfl rfl) rfl hl.1 rfl (Nat.le_of_ble_eq_true rfl) dX2_ruleAt_2 ⟨Nat.zero_le _, Nat.zero_le _⟩ ?_
  refine lv_aload_n hx hb dX2_ruleAt_5 rfl (lv_at hl 0 rfl) ?_
  refine nr_get (C := RX2) (T := TX2) (N := 5) (ci := 2) S (fun _ h => List.mem_cons_of_mem _ (List.mem_append_left _ (List.mem_append_left _ (List.mem_append_right _ (h))))) hK hX 0 rfl rfl 0 (by decide) (List.mem_of_getElem? (i := 1) rfl) rfl dX2_ruleAt_6 ?_
  refine lv_iload_n hx hb dX2_ruleAt_9 rfl (lv_at hl 1 rfl) ?_
  refine RdA.callV (x := (gl L (i)).2.1) (As := [.int (nI (i))]) S (k_Jx4a65c_get_915e3 l hL (hE2 (by omega)).1 (i := i) (by omega) (hE2 (by omega)).2.1 (hE2 (by omega)).2.2 (hR (i) (by omega)).1) (cwV 1 hts gX2_ruleAt_Jx4a65c_get_915e3 rfl rfl rfl (by decide +kernel) ⟨Nat.le_of_ble_eq_true rfl, Nat.le_of_ble_eq_true rfl⟩) hK (va_recv hK.1 hL (ci := 4) (q0 := 0) rfl rfl) rfl hl.1 rfl (Nat.le_of_ble_eq_true rfl) dX2_ruleAt_10 ⟨Nat.zero_le _, Nat.zero_le _⟩ ?_
  refine nr_cast (C := RX1) (T := TX1) (N := 5) (ci := 1) S (List.mem_of_getElem? (i := 2) rfl) hK (hR (i) (by omega)).2 0 rfl rfl dX2_ruleAt_13 ?_
  exact hE _ _ _ dX2_ruleAt_16 (rfl)
set_option maxHeartbeats 4000000 in
set_option maxRecDepth 100000 in
theorem k_X2_sources (l : Launch) {D : va_G} {Y : Nat → ClassId} {H : Heap} {x la na ea cap : Nat} {mod ju mi lo : Int32} {es : Nat → Option Nat} {nt : Nat → Int32} {L : List RA} {i : Nat}  (hA : rdA D Y x la na ea cap mod es nt ju mi lo L H) (hi : i < L.length) : Rd l yX2_sources wsX2_sources 4 D Y [.ref (x), .int (nI (i))] H (nI (100 * sF (gt (RS L) (i)) + sT (gt (RS L) (i)))) := by
  refine Rd.start (cc := cX2_sources) (maxL := 2) (rt := .int) (by decide) rfl (Nat.le_of_ble_eq_true rfl) ?_
  intro p e s m args below meth c ls Q S hK hl hE
  have S : CallFix p m c cX2_sources 2 s args wsX2_sources RX2 := S
  have hx := S.1
  have hb := S.2.1
  have hts := S.2.2.2.2
  have hl : lv_has ls 2 [(0, .ref (x)), (1, .int (nI (i)))] := hl
  have hA0 := hA
  obtain ⟨hX, hL, hN, hE2, hR, hok⟩ := hA
  have hlen : (RS L).length = L.length := List.length_map ..
  have hn : L.length ≤ 16 := by have := hok.1; omega
  have hoo : ∀ i, i < L.length → rvOk (gt (RS L) i) := fun i hi => hok.2 i (by omega)
  refine lv_aload_n hx hb dX2_sources_0 rfl (lv_at hl 0 rfl) ?_
  refine lv_iload_n hx hb dX2_sources_1 rfl (lv_at hl 1 rfl) ?_
  refine RdA.callV (x := (gl L (i)).2.1) (As := [.int (nI (i))]) S (k_X2_ruleAt l hA0 (i := i) (by omega)) (cwV 1 hts gX2_sources_X2_ruleAt rfl rfl rfl (by decide +kernel) ⟨Nat.le_of_ble_eq_true rfl, Nat.le_of_ble_eq_true rfl⟩) hK (va_recv hK.1 hX (ci := 2) (q0 := 0) rfl rfl) rfl hl.1 rfl (Nat.le_of_ble_eq_true rfl) dX2_sources_2 ⟨Nat.zero_le _, Nat.zero_le _⟩ ?_
  refine nr_get (C := RX1) (T := TX1) (N := 5) (ci := 1) S (fun _ h => List.mem_cons_of_mem _ (List.mem_append_left _ (List.mem_append_left _ (List.mem_append_left _ (List.mem_append_left _ (List.mem_append_right _ (h))))))) hK (hR (i) (by omega)).2 0 rfl rfl 1 (by decide) (List.mem_of_getElem? (i := 1) rfl) rfl dX2_sources_5 ?_
  refine Rd.callV (r := (nI (100 * sF (gt (RS L) (i)) + sT (gt (RS L) (i))))) (As := []) S (k_X0_asNumber l ((hR (i) (by omega)).2.sub [1] rfl)) (cwV 0 hts gX2_sources_X0_asNumber rfl rfl rfl (by decide +kernel) ⟨Nat.le_of_ble_eq_true rfl, Nat.le_of_ble_eq_true rfl⟩) hK (va_recv hK.1 (hR (i) (by omega)).2 (ci := 0) (q0 := 1) rfl rfl) rfl hl.1 rfl (Nat.le_of_ble_eq_true rfl) dX2_sources_8 ⟨Nat.zero_le _, Nat.zero_le _⟩ ?_
  exact hE _ _ _ dX2_sources_11 (vp_nar_int _) (rfl)
set_option maxHeartbeats 4000000 in
set_option maxRecDepth 100000 in
theorem k_X2_destinations (l : Launch) {D : va_G} {Y : Nat → ClassId} {H : Heap} {x la na ea cap : Nat} {mod ju mi lo : Int32} {es : Nat → Option Nat} {nt : Nat → Int32} {L : List RA} {i : Nat}  (hA : rdA D Y x la na ea cap mod es nt ju mi lo L H) (hi : i < L.length) : Rd l yX2_destinations wsX2_destinations 4 D Y [.ref (x), .int (nI (i))] H (nI (100 * dF (gt (RS L) (i)) + dT (gt (RS L) (i)))) := by
  refine Rd.start (cc := cX2_destinations) (maxL := 2) (rt := .int) (by decide) rfl (Nat.le_of_ble_eq_true rfl) ?_
  intro p e s m args below meth c ls Q S hK hl hE
  have S : CallFix p m c cX2_destinations 2 s args wsX2_destinations RX2 := S
  have hx := S.1
  have hb := S.2.1
  have hts := S.2.2.2.2
  have hl : lv_has ls 2 [(0, .ref (x)), (1, .int (nI (i)))] := hl
  have hA0 := hA
  obtain ⟨hX, hL, hN, hE2, hR, hok⟩ := hA
  have hlen : (RS L).length = L.length := List.length_map ..
  have hn : L.length ≤ 16 := by have := hok.1; omega
  have hoo : ∀ i, i < L.length → rvOk (gt (RS L) i) := fun i hi => hok.2 i (by omega)
  refine lv_aload_n hx hb dX2_destinations_0 rfl (lv_at hl 0 rfl) ?_
  refine lv_iload_n hx hb dX2_destinations_1 rfl (lv_at hl 1 rfl) ?_
  refine RdA.callV (x := (gl L (i)).2.1) (As := [.int (nI (i))]) S (k_X2_ruleAt l hA0 (i := i) (by omega)) (cwV 1 hts gX2_destinations_X2_ruleAt rfl rfl rfl (by decide +kernel) ⟨Nat.le_of_ble_eq_true rfl, Nat.le_of_ble_eq_true rfl⟩) hK (va_recv hK.1 hX (ci := 2) (q0 := 0) rfl rfl) rfl hl.1 rfl (Nat.le_of_ble_eq_true rfl) dX2_destinations_2 ⟨Nat.zero_le _, Nat.zero_le _⟩ ?_
  refine nr_get (C := RX1) (T := TX1) (N := 5) (ci := 1) S (fun _ h => List.mem_cons_of_mem _ (List.mem_append_left _ (List.mem_append_left _ (List.mem_append_left _ (List.mem_append_left _ (List.mem_append_right _ (h))))))) hK (hR (i) (by omega)).2 0 rfl rfl 2 (by decide) (List.mem_of_getElem? (i := 1) rfl) rfl dX2_destinations_5 ?_
  refine Rd.callV (r := (nI (100 * dF (gt (RS L) (i)) + dT (gt (RS L) (i))))) (As := []) S (k_X0_asNumber l ((hR (i) (by omega)).2.sub [2] rfl)) (cwV 0 hts gX2_destinations_X0_asNumber rfl rfl rfl (by decide +kernel) ⟨Nat.le_of_ble_eq_true rfl, Nat.le_of_ble_eq_true rfl⟩) hK (va_recv hK.1 (hR (i) (by omega)).2 (ci := 0) (q0 := 2) rfl rfl) rfl hl.1 rfl (Nat.le_of_ble_eq_true rfl) dX2_destinations_8 ⟨Nat.zero_le _, Nat.zero_le _⟩ ?_
  exact hE _ _ _ dX2_destinations_11 (vp_nar_int _) (rfl)
set_option maxHeartbeats 4000000 in
set_option maxRecDepth 100000 in
theorem k_X2_protocols (l : Launch) {D : va_G} {Y : Nat → ClassId} {H : Heap} {x la na ea cap : Nat} {mod ju mi lo : Int32} {es : Nat → Option Nat} {nt : Nat → Int32} {L : List RA} {i : Nat}  (hA : rdA D Y x la na ea cap mod es nt ju mi lo L H) (hi : i < L.length) : Rd l yX2_protocols wsX2_protocols 4 D Y [.ref (x), .int (nI (i))] H (nI (pR (gt (RS L) (i)))) := by
  refine Rd.start (cc := cX2_protocols) (maxL := 2) (rt := .int) (by decide) rfl (Nat.le_of_ble_eq_true rfl) ?_
  intro p e s m args below meth c ls Q S hK hl hE
  have S : CallFix p m c cX2_protocols 2 s args wsX2_protocols RX2 := S
  have hx := S.1
  have hb := S.2.1
  have hts := S.2.2.2.2
  have hl : lv_has ls 2 [(0, .ref (x)), (1, .int (nI (i)))] := hl
  have hA0 := hA
  obtain ⟨hX, hL, hN, hE2, hR, hok⟩ := hA
  have hlen : (RS L).length = L.length := List.length_map ..
  have hn : L.length ≤ 16 := by have := hok.1; omega
  have hoo : ∀ i, i < L.length → rvOk (gt (RS L) i) := fun i hi => hok.2 i (by omega)
  refine lv_aload_n hx hb dX2_protocols_0 rfl (lv_at hl 0 rfl) ?_
  refine lv_iload_n hx hb dX2_protocols_1 rfl (lv_at hl 1 rfl) ?_
  refine RdA.callV (x := (gl L (i)).2.1) (As := [.int (nI (i))]) S (k_X2_ruleAt l hA0 (i := i) (by omega)) (cwV 1 hts gX2_protocols_X2_ruleAt rfl rfl rfl (by decide +kernel) ⟨Nat.le_of_ble_eq_true rfl, Nat.le_of_ble_eq_true rfl⟩) hK (va_recv hK.1 hX (ci := 2) (q0 := 0) rfl rfl) rfl hl.1 rfl (Nat.le_of_ble_eq_true rfl) dX2_protocols_2 ⟨Nat.zero_le _, Nat.zero_le _⟩ ?_
  refine nr_get (C := RX1) (T := TX1) (N := 5) (ci := 1) S (fun _ h => List.mem_cons_of_mem _ (List.mem_append_left _ (List.mem_append_left _ (List.mem_append_left _ (List.mem_append_right _ (h)))))) hK (hR (i) (by omega)).2 0 rfl rfl 3 (by decide) (List.mem_of_getElem? (i := 1) rfl) rfl dX2_protocols_5 ?_
  exact hE _ _ _ dX2_protocols_8 (vp_nar_int _) (rfl)
set_option maxHeartbeats 4000000 in
set_option maxRecDepth 100000 in
theorem k_X2_permits (l : Launch) {D : va_G} {Y : Nat → ClassId} {H : Heap} {x la na ea cap : Nat} {mod ju mi lo : Int32} {es : Nat → Option Nat} {nt : Nat → Int32} {L : List RA} {i : Nat}  (hA : rdA D Y x la na ea cap mod es nt ju mi lo L H) (hi : i < L.length) : Rd l yX2_permits wsX2_permits 4 D Y [.ref (x), .int (nI (i))] H (bI (pM (gt (RS L) (i)))) := by
  refine Rd.start (cc := cX2_permits) (maxL := 2) (rt := .boolean) (by decide) rfl (Nat.le_of_ble_eq_true rfl) ?_
  intro p e s m args below meth c ls Q S hK hl hE
  have S : CallFix p m c cX2_permits 2 s args wsX2_permits RX2 := S
  have hx := S.1
  have hb := S.2.1
  have hts := S.2.2.2.2
  have hl : lv_has ls 2 [(0, .ref (x)), (1, .int (nI (i)))] := hl
  have hA0 := hA
  obtain ⟨hX, hL, hN, hE2, hR, hok⟩ := hA
  have hlen : (RS L).length = L.length := List.length_map ..
  have hn : L.length ≤ 16 := by have := hok.1; omega
  have hoo : ∀ i, i < L.length → rvOk (gt (RS L) i) := fun i hi => hok.2 i (by omega)
  refine lv_aload_n hx hb dX2_permits_0 rfl (lv_at hl 0 rfl) ?_
  refine lv_iload_n hx hb dX2_permits_1 rfl (lv_at hl 1 rfl) ?_
  refine RdA.callV (x := (gl L (i)).2.1) (As := [.int (nI (i))]) S (k_X2_ruleAt l hA0 (i := i) (by omega)) (cwV 1 hts gX2_permits_X2_ruleAt rfl rfl rfl (by decide +kernel) ⟨Nat.le_of_ble_eq_true rfl, Nat.le_of_ble_eq_true rfl⟩) hK (va_recv hK.1 hX (ci := 2) (q0 := 0) rfl rfl) rfl hl.1 rfl (Nat.le_of_ble_eq_true rfl) dX2_permits_2 ⟨Nat.zero_le _, Nat.zero_le _⟩ ?_
  refine nr_get (C := RX1) (T := TX1) (N := 5) (ci := 1) S (fun _ h => List.mem_cons_of_mem _ (List.mem_append_left _ (List.mem_append_left _ (List.mem_append_left _ (List.mem_append_right _ (h)))))) hK (hR (i) (by omega)).2 0 rfl rfl 0 (by decide) (List.mem_of_getElem? (i := 1) rfl) rfl dX2_permits_5 ?_
  exact hE _ _ _ dX2_permits_8 (bI_nar _) (rfl)
set_option maxHeartbeats 4000000 in
set_option maxRecDepth 100000 in
theorem k_X2_hits (l : Launch) {D : va_G} {Y : Nat → ClassId} {H : Heap} {x la na ea cap : Nat} {mod ju mi lo : Int32} {es : Nat → Option Nat} {nt : Nat → Int32} {L : List RA} {i : Nat}  (hA : rdA D Y x la na ea cap mod es nt ju mi lo L H) (hi : i < L.length) : Rd l yX2_hits wsX2_hits 4 D Y [.ref (x), .int (nI (i))] H (hT (gt (RS L) (i))) := by
  refine Rd.start (cc := cX2_hits) (maxL := 2) (rt := .int) (by decide) rfl (Nat.le_of_ble_eq_true rfl) ?_
  intro p e s m args below meth c ls Q S hK hl hE
  have S : CallFix p m c cX2_hits 2 s args wsX2_hits RX2 := S
  have hx := S.1
  have hb := S.2.1
  have hts := S.2.2.2.2
  have hl : lv_has ls 2 [(0, .ref (x)), (1, .int (nI (i)))] := hl
  have hA0 := hA
  obtain ⟨hX, hL, hN, hE2, hR, hok⟩ := hA
  have hlen : (RS L).length = L.length := List.length_map ..
  have hn : L.length ≤ 16 := by have := hok.1; omega
  have hoo : ∀ i, i < L.length → rvOk (gt (RS L) i) := fun i hi => hok.2 i (by omega)
  refine lv_aload_n hx hb dX2_hits_0 rfl (lv_at hl 0 rfl) ?_
  refine lv_iload_n hx hb dX2_hits_1 rfl (lv_at hl 1 rfl) ?_
  refine RdA.callV (x := (gl L (i)).2.1) (As := [.int (nI (i))]) S (k_X2_ruleAt l hA0 (i := i) (by omega)) (cwV 1 hts gX2_hits_X2_ruleAt rfl rfl rfl (by decide +kernel) ⟨Nat.le_of_ble_eq_true rfl, Nat.le_of_ble_eq_true rfl⟩) hK (va_recv hK.1 hX (ci := 2) (q0 := 0) rfl rfl) rfl hl.1 rfl (Nat.le_of_ble_eq_true rfl) dX2_hits_2 ⟨Nat.zero_le _, Nat.zero_le _⟩ ?_
  refine nr_get (C := RX1) (T := TX1) (N := 5) (ci := 1) S (fun _ h => List.mem_cons_of_mem _ (List.mem_append_left _ (List.mem_append_left _ (List.mem_append_left _ (List.mem_append_right _ (h)))))) hK (hR (i) (by omega)).2 0 rfl rfl 4 (by decide) (List.mem_of_getElem? (i := 1) rfl) rfl dX2_hits_5 ?_
  exact hE _ _ _ dX2_hits_8 (vp_nar_int _) (rfl)
set_option maxHeartbeats 4000000 in
set_option maxRecDepth 100000 in
theorem k_X2_decides (l : Launch) {D : va_G} {Y : Nat → ClassId} {H : Heap} {x la na ea cap : Nat} {mod ju mi lo : Int32} {es : Nat → Option Nat} {nt : Nat → Int32} {L : List RA} {i : Nat}  (hA : rdA D Y x la na ea cap mod es nt ju mi lo L H) (hi : i < L.length) : Rd l yX2_decides wsX2_decides 5 D Y [.ref (x), .int (nI (i))] H (nI (dcN (RS L) i)) := by
  refine Rd.start (cc := cX2_decides) (maxL := 2) (rt := .int) (by decide) rfl (Nat.le_of_ble_eq_true rfl) ?_
  intro p e s m args below meth c ls Q S hK hl hE
  have S : CallFix p m c cX2_decides 2 s args wsX2_decides RX2 := S
  have hx := S.1
  have hb := S.2.1
  have hts := S.2.2.2.2
  have hl : lv_has ls 2 [(0, .ref (x)), (1, .int (nI (i)))] := hl
  have hA0 := hA
  obtain ⟨hX, hL, hN, hE2, hR, hok⟩ := hA
  have hlen : (RS L).length = L.length := List.length_map ..
  have hn : L.length ≤ 16 := by have := hok.1; omega
  have hoo : ∀ i, i < L.length → rvOk (gt (RS L) i) := fun i hi => hok.2 i (by omega)
  refine lv_aload_n hx hb dX2_decides_0 rfl (lv_at hl 0 rfl) ?_
  refine lv_aload_n hx hb dX2_decides_1 rfl (lv_at hl 0 rfl) ?_
  refine lv_iload_n hx hb dX2_decides_2 rfl (lv_at hl 1 rfl) ?_
  refine RdA.callV (x := (gl L (i)).2.1) (As := [.int (nI (i))]) S (k_X2_ruleAt l hA0 (i := i) (by omega)) (cwV 1 hts gX2_decides_X2_ruleAt rfl rfl rfl (by decide +kernel) ⟨Nat.le_of_ble_eq_true rfl, Nat.le_of_ble_eq_true rfl⟩) hK (va_recv hK.1 hX (ci := 2) (q0 := 0) rfl rfl) rfl hl.1 rfl (Nat.le_of_ble_eq_true rfl) dX2_decides_3 ⟨Nat.zero_le _, Nat.zero_le _⟩ ?_
  refine lv_iload_n hx hb dX2_decides_6 rfl (lv_at hl 1 rfl) ?_
  refine Rd.callV (r := (nI (dcN (RS L) (i)))) (As := [.ref ((gl L (i)).2.1), .int (nI (i))]) S (k_X2_decidedPackets l hA0 (pl := i) (by omega)) (cwV 2 hts gX2_decides_X2_decidedPackets rfl rfl rfl (by decide +kernel) ⟨Nat.le_of_ble_eq_true rfl, Nat.le_of_ble_eq_true rfl⟩) hK (va_recv hK.1 hX (ci := 2) (q0 := 0) rfl rfl) rfl hl.1 rfl (Nat.le_of_ble_eq_true rfl) dX2_decides_7 ⟨Nat.zero_le _, Nat.zero_le _⟩ ?_
  exact hE _ _ _ dX2_decides_10 (vp_nar_int _) (rfl)
set_option maxHeartbeats 4000000 in
set_option maxRecDepth 100000 in
theorem k_X2_isRedundant (l : Launch) {D : va_G} {Y : Nat → ClassId} {H : Heap} {x la na ea cap : Nat} {mod ju mi lo : Int32} {es : Nat → Option Nat} {nt : Nat → Int32} {L : List RA} {i : Nat}  (hA : rdA D Y x la na ea cap mod es nt ju mi lo L H) (hi : i < L.length) : Rd l yX2_isRedundant wsX2_isRedundant 5 D Y [.ref (x), .int (nI (i))] H (bI (ndB (RS L) i)) := by
  refine Rd.start (cc := cX2_isRedundant) (maxL := 2) (rt := .boolean) (by decide) rfl (Nat.le_of_ble_eq_true rfl) ?_
  intro p e s m args below meth c ls Q S hK hl hE
  have S : CallFix p m c cX2_isRedundant 2 s args wsX2_isRedundant RX2 := S
  have hx := S.1
  have hb := S.2.1
  have hts := S.2.2.2.2
  have hl : lv_has ls 2 [(0, .ref (x)), (1, .int (nI (i)))] := hl
  have hA0 := hA
  obtain ⟨hX, hL, hN, hE2, hR, hok⟩ := hA
  have hlen : (RS L).length = L.length := List.length_map ..
  have hn : L.length ≤ 16 := by have := hok.1; omega
  have hoo : ∀ i, i < L.length → rvOk (gt (RS L) i) := fun i hi => hok.2 i (by omega)
  refine lv_aload_n hx hb dX2_isRedundant_0 rfl (lv_at hl 0 rfl) ?_
  refine lv_aload_n hx hb dX2_isRedundant_1 rfl (lv_at hl 0 rfl) ?_
  refine lv_iload_n hx hb dX2_isRedundant_2 rfl (lv_at hl 1 rfl) ?_
  refine RdA.callV (x := (gl L (i)).2.1) (As := [.int (nI (i))]) S (k_X2_ruleAt l hA0 (i := i) (by omega)) (cwV 1 hts gX2_isRedundant_X2_ruleAt rfl rfl rfl (by decide +kernel) ⟨Nat.le_of_ble_eq_true rfl, Nat.le_of_ble_eq_true rfl⟩) hK (va_recv hK.1 hX (ci := 2) (q0 := 0) rfl rfl) rfl hl.1 rfl (Nat.le_of_ble_eq_true rfl) dX2_isRedundant_3 ⟨Nat.zero_le _, Nat.zero_le _⟩ ?_
  refine lv_iload_n hx hb dX2_isRedundant_6 rfl (lv_at hl 1 rfl) ?_
  refine Rd.callV (r := (bI (ndB (RS L) (i)))) (As := [.ref ((gl L (i)).2.1), .int (nI (i))]) S (k_X2_isNeedless l hA0 (pl := i) (by omega)) (cwV 2 hts gX2_isRedundant_X2_isNeedless rfl rfl rfl (by decide +kernel) ⟨Nat.le_of_ble_eq_true rfl, Nat.le_of_ble_eq_true rfl⟩) hK (va_recv hK.1 hX (ci := 2) (q0 := 0) rfl rfl) rfl hl.1 rfl (Nat.le_of_ble_eq_true rfl) dX2_isRedundant_7 ⟨Nat.zero_le _, Nat.zero_le _⟩ ?_
  exact hE _ _ _ dX2_isRedundant_10 (bI_nar _) (rfl)
set_option maxHeartbeats 4000000 in
set_option maxRecDepth 100000 in
theorem k_X2_isShadowed (l : Launch) {D : va_G} {Y : Nat → ClassId} {H : Heap} {x la na ea cap : Nat} {mod ju mi lo : Int32} {es : Nat → Option Nat} {nt : Nat → Int32} {L : List RA} {i : Nat}  (hA : rdA D Y x la na ea cap mod es nt ju mi lo L H) (hi : i < L.length) : Rd l yX2_isShadowed wsX2_isShadowed 5 D Y [.ref (x), .int (nI (i))] H (bI (decide (dcN (RS L) i = 0))) := by
  refine Rd.start (cc := cX2_isShadowed) (maxL := 2) (rt := .boolean) (by decide) rfl (Nat.le_of_ble_eq_true rfl) ?_
  intro p e s m args below meth c ls Q S hK hl hE
  have S : CallFix p m c cX2_isShadowed 2 s args wsX2_isShadowed RX2 := S
  have hx := S.1
  have hb := S.2.1
  have hts := S.2.2.2.2
  have hl : lv_has ls 2 [(0, .ref (x)), (1, .int (nI (i)))] := hl
  have hA0 := hA
  obtain ⟨hX, hL, hN, hE2, hR, hok⟩ := hA
  have hlen : (RS L).length = L.length := List.length_map ..
  have hn : L.length ≤ 16 := by have := hok.1; omega
  have hoo : ∀ i, i < L.length → rvOk (gt (RS L) i) := fun i hi => hok.2 i (by omega)
  refine lv_aload_n hx hb dX2_isShadowed_0 rfl (lv_at hl 0 rfl) ?_
  refine lv_aload_n hx hb dX2_isShadowed_1 rfl (lv_at hl 0 rfl) ?_
  refine lv_iload_n hx hb dX2_isShadowed_2 rfl (lv_at hl 1 rfl) ?_
  refine RdA.callV (x := (gl L (i)).2.1) (As := [.int (nI (i))]) S (k_X2_ruleAt l hA0 (i := i) (by omega)) (cwV 1 hts gX2_isShadowed_X2_ruleAt rfl rfl rfl (by decide +kernel) ⟨Nat.le_of_ble_eq_true rfl, Nat.le_of_ble_eq_true rfl⟩) hK (va_recv hK.1 hX (ci := 2) (q0 := 0) rfl rfl) rfl hl.1 rfl (Nat.le_of_ble_eq_true rfl) dX2_isShadowed_3 ⟨Nat.zero_le _, Nat.zero_le _⟩ ?_
  refine lv_iload_n hx hb dX2_isShadowed_6 rfl (lv_at hl 1 rfl) ?_
  refine Rd.callV (r := (nI (dcN (RS L) (i)))) (As := [.ref ((gl L (i)).2.1), .int (nI (i))]) S (k_X2_decidedPackets l hA0 (pl := i) (by omega)) (cwV 2 hts gX2_isShadowed_X2_decidedPackets rfl rfl rfl (by decide +kernel) ⟨Nat.le_of_ble_eq_true rfl, Nat.le_of_ble_eq_true rfl⟩) hK (va_recv hK.1 hX (ci := 2) (q0 := 0) rfl rfl) rfl hl.1 rfl (Nat.le_of_ble_eq_true rfl) dX2_isShadowed_7 ⟨Nat.zero_le _, Nat.zero_le _⟩ ?_
  refine nr_if_ne (tgt := 17) hx hb (dcN_lt _ _) dX2_isShadowed_10 (by decide) (fun c_10 => ?_) (fun c_10 => ?_)
  · refine lv_iconst (v := (nI (0))) hx hb dX2_isShadowed_17 (by decide +kernel) ?_
    exact hE _ _ _ dX2_isShadowed_18 (rfl) (bI_f (decide_eq_false (Nat.ne_of_gt c_10)))
  · refine lv_iconst (v := (nI (1))) hx hb dX2_isShadowed_13 (by decide +kernel) ?_
    refine lv_goto (tgt := 18) hx hb dX2_isShadowed_14 (by decide) ?_
    exact hE _ _ _ dX2_isShadowed_18 (rfl) (bI_t (decide_eq_true c_10))
set_option maxHeartbeats 4000000 in
set_option maxRecDepth 100000 in
theorem k_X2_overlap (l : Launch) {D : va_G} {Y : Nat → ClassId} {H : Heap} {x la na ea cap : Nat} {mod ju mi lo : Int32} {es : Nat → Option Nat} {nt : Nat → Int32} {L : List RA} {i j : Nat}  (hA : rdA D Y x la na ea cap mod es nt ju mi lo L H) (hi : i < L.length) (hj : j < L.length) : Rd l yX2_overlap wsX2_overlap 4 D Y [.ref (x), .int (nI (i)), .int (nI (j))] H (nI (cpN (gt (RS L) (i)) (gt (RS L) (j)))) := by
  refine Rd.start (cc := cX2_overlap) (maxL := 3) (rt := .int) (by decide) rfl (Nat.le_of_ble_eq_true rfl) ?_
  intro p e s m args below meth c ls Q S hK hl hE
  have S : CallFix p m c cX2_overlap 3 s args wsX2_overlap RX2 := S
  have hx := S.1
  have hb := S.2.1
  have hts := S.2.2.2.2
  have hl : lv_has ls 3 [(0, .ref (x)), (1, .int (nI (i))), (2, .int (nI (j)))] := hl
  have hA0 := hA
  obtain ⟨hX, hL, hN, hE2, hR, hok⟩ := hA
  have hlen : (RS L).length = L.length := List.length_map ..
  have hn : L.length ≤ 16 := by have := hok.1; omega
  have hoo : ∀ i, i < L.length → rvOk (gt (RS L) i) := fun i hi => hok.2 i (by omega)
  refine lv_aload_n hx hb dX2_overlap_0 rfl (lv_at hl 0 rfl) ?_
  refine lv_iload_n hx hb dX2_overlap_1 rfl (lv_at hl 1 rfl) ?_
  refine RdA.callV (x := (gl L (i)).2.1) (As := [.int (nI (i))]) S (k_X2_ruleAt l hA0 (i := i) (by omega)) (cwV 1 hts gX2_overlap_X2_ruleAt rfl rfl rfl (by decide +kernel) ⟨Nat.le_of_ble_eq_true rfl, Nat.le_of_ble_eq_true rfl⟩) hK (va_recv hK.1 hX (ci := 2) (q0 := 0) rfl rfl) rfl hl.1 rfl (Nat.le_of_ble_eq_true rfl) dX2_overlap_2 ⟨Nat.zero_le _, Nat.zero_le _⟩ ?_
  refine lv_aload_n hx hb dX2_overlap_5 rfl (lv_at hl 0 rfl) ?_
  refine lv_iload_n hx hb dX2_overlap_6 rfl (lv_at hl 2 rfl) ?_
  refine RdA.callV (x := (gl L (j)).2.1) (As := [.int (nI (j))]) S (k_X2_ruleAt l hA0 (i := j) (by omega)) (cwV 1 hts gX2_overlap_X2_ruleAt rfl rfl rfl (by decide +kernel) ⟨Nat.le_of_ble_eq_true rfl, Nat.le_of_ble_eq_true rfl⟩) hK (va_recv hK.1 hX (ci := 2) (q0 := 0) rfl rfl) rfl hl.1 rfl (Nat.le_of_ble_eq_true rfl) dX2_overlap_7 ⟨Nat.zero_le _, Nat.zero_le _⟩ ?_
  refine Rd.callV (r := (nI (cpN (gt (RS L) (i)) (gt (RS L) (j))))) (As := [.ref ((gl L (j)).2.1)]) S (k_X1_commonPackets l (hR (i) (by omega)).2 (hR (j) (by omega)).2 (hoo (i) (by omega)) (hoo (j) (by omega))) (cwV 1 hts gX2_overlap_X1_commonPackets rfl rfl rfl (by decide +kernel) ⟨Nat.le_of_ble_eq_true rfl, Nat.le_of_ble_eq_true rfl⟩) hK (va_recv hK.1 (hR (i) (by omega)).2 (ci := 1) (q0 := 0) rfl rfl) rfl hl.1 rfl (Nat.le_of_ble_eq_true rfl) dX2_overlap_10 ⟨Nat.zero_le _, Nat.zero_le _⟩ ?_
  exact hE _ _ _ dX2_overlap_13 (vp_nar_int _) (rfl)
set_option maxHeartbeats 4000000 in
set_option maxRecDepth 100000 in
theorem k_X2_shadowedBy (l : Launch) {D : va_G} {Y : Nat → ClassId} {H : Heap} {x la na ea cap : Nat} {mod ju mi lo : Int32} {es : Nat → Option Nat} {nt : Nat → Int32} {L : List RA} {i k0 : Nat}  (hA : rdA D Y x la na ea cap mod es nt ju mi lo L H) (hi : i < L.length) (hk0 : k0 < i) (hcv : cvB (gt (RS L) (k0)) (gt (RS L) (i)) = true) (hnc : ∀ k, k < k0 → cvB (gt (RS L) (k)) (gt (RS L) (i)) = false) : Rd l yX2_shadowedBy wsX2_shadowedBy 4 D Y [.ref (x), .int (nI (i))] H (nI k0) := by
  refine Rd.start (cc := cX2_shadowedBy) (maxL := 4) (rt := .int) (by decide) rfl (Nat.le_of_ble_eq_true rfl) ?_
  intro p e s m args below meth c ls Q S hK hl hE
  have S : CallFix p m c cX2_shadowedBy 4 s args wsX2_shadowedBy RX2 := S
  have hx := S.1
  have hb := S.2.1
  have hts := S.2.2.2.2
  have hl : lv_has ls 4 [(0, .ref (x)), (1, .int (nI (i)))] := hl
  have hA0 := hA
  obtain ⟨hX, hL, hN, hE2, hR, hok⟩ := hA
  have hlen : (RS L).length = L.length := List.length_map ..
  have hn : L.length ≤ 16 := by have := hok.1; omega
  have hoo : ∀ i, i < L.length → rvOk (gt (RS L) i) := fun i hi => hok.2 i (by omega)
  refine lv_aload_n hx hb dX2_shadowedBy_0 rfl (lv_at hl 0 rfl) ?_
  refine lv_iload_n hx hb dX2_shadowedBy_1 rfl (lv_at hl 1 rfl) ?_
  refine RdA.callV (x := (gl L (i)).2.1) (As := [.int (nI (i))]) S (k_X2_ruleAt l hA0 (i := i) (by omega)) (cwV 1 hts gX2_shadowedBy_X2_ruleAt rfl rfl rfl (by decide +kernel) ⟨Nat.le_of_ble_eq_true rfl, Nat.le_of_ble_eq_true rfl⟩) hK (va_recv hK.1 hX (ci := 2) (q0 := 0) rfl rfl) rfl hl.1 rfl (Nat.le_of_ble_eq_true rfl) dX2_shadowedBy_2 ⟨Nat.zero_le _, Nat.zero_le _⟩ ?_
  refine lv_astore_n (lv' := [(2, .ref ((gl L (i)).2.1)), (0, .ref (x)), (1, .int (nI (i)))]) hx hb dX2_shadowedBy_5 rfl hl (by decide) rfl (fun ls hl => ?_)
  refine lv_iconst (v := (nI (0))) hx hb dX2_shadowedBy_6 (by decide +kernel) ?_
  refine lv_istore_n (lv' := [(3, .int (nI (0))), (2, .ref ((gl L (i)).2.1)), (0, .ref (x)), (1, .int (nI (i)))]) hx hb dX2_shadowedBy_7 rfl hl (by decide) rfl (fun ls hl => ?_)
  have loop_8 : ∀ (fu_8 : Nat) (q : Nat), (q ≤ k0) → (True) → k0 + 1 - q < fu_8 → ∀ ls : Array Slot, lv_has ls 4 [(3, .int (nI (q))), (2, .ref ((gl L (i)).2.1)), (0, .ref (x)), (1, .int (nI (i)))] → W p l e (rmN 4) s m args below meth c H [] 0 0 Q (F0 m 8 ls []) := by
    intro fu_8
    induction fu_8 with
    | zero => exact fun q _ _ hk => absurd hk (Nat.not_lt_zero _)
    | succ fu_8 ih_8 =>
      intro q h1 h2 hk_8 ls hl
      refine lv_iload_n hx hb dX2_shadowedBy_8 rfl (lv_at hl 0 rfl) ?_
      refine lv_iload_n hx hb dX2_shadowedBy_9 rfl (lv_at hl 3 rfl) ?_
      refine nr_icmp_ge (tgt := 50) hx hb (by omega) (by omega) dX2_shadowedBy_10 (by decide) (fun c_10 => absurd c_10 (by omega)) (fun c_10 => ?_)
      refine lv_iload_n hx hb dX2_shadowedBy_13 rfl (lv_at hl 0 rfl) ?_
      refine lv_aload_n hx hb dX2_shadowedBy_14 rfl (lv_at hl 2 rfl) ?_
      refine nr_get (C := RX2) (T := TX2) (N := 5) (ci := 2) S (fun _ h => List.mem_cons_of_mem _ (List.mem_append_left _ (List.mem_append_left _ (List.mem_append_left _ (List.mem_append_left _ (List.mem_append_left _ (List.mem_append_right _ (h)))))))) hK hX 0 rfl rfl 0 (by decide) (List.mem_of_getElem? (i := 3) rfl) rfl dX2_shadowedBy_15 ?_
      refine Rd.callV (r := (nI (L.length))) (As := []) S (k_Jx4a65c_size_8abf5 l hL) (cwV 0 hts gX2_shadowedBy_Jx4a65c_size_8abf5 rfl rfl rfl (by decide +kernel) ⟨Nat.le_of_ble_eq_true rfl, Nat.le_of_ble_eq_true rfl⟩) hK (va_recv hK.1 hL (ci := 4) (q0 := 0) rfl rfl) rfl hl.1 rfl (Nat.le_of_ble_eq_true rfl) dX2_shadowedBy_18 ⟨Nat.zero_le _, Nat.zero_le _⟩ ?_
      refine nr_icmp_ge (tgt := 50) hx hb (by omega) (by omega) dX2_shadowedBy_21 (by decide) (fun c_21 => absurd c_21 (by omega)) (fun c_21 => ?_)
      refine lv_aload_n hx hb dX2_shadowedBy_24 rfl (lv_at hl 2 rfl) ?_
      refine nr_get (C := RX2) (T := TX2) (N := 5) (ci := 2) S (fun _ h => List.mem_cons_of_mem _ (List.mem_append_left _ (List.mem_append_left _ (List.mem_append_left _ (List.mem_append_left _ (List.mem_append_left _ (List.mem_append_right _ (h)))))))) hK hX 0 rfl rfl 0 (by decide) (List.mem_of_getElem? (i := 3) rfl) rfl dX2_shadowedBy_25 ?_
      refine lv_iload_n hx hb dX2_shadowedBy_28 rfl (lv_at hl 0 rfl) ?_
      refine RdA.callV (x := (gl L (q)).2.1) (As := [.int (nI (q))]) S (k_Jx4a65c_get_915e3 l hL (hE2 (by omega)).1 (i := q) (by omega) (hE2 (by omega)).2.1 (hE2 (by omega)).2.2 (hR (q) (by omega)).1) (cwV 1 hts gX2_shadowedBy_Jx4a65c_get_915e3 rfl rfl rfl (by decide +kernel) ⟨Nat.le_of_ble_eq_true rfl, Nat.le_of_ble_eq_true rfl⟩) hK (va_recv hK.1 hL (ci := 4) (q0 := 0) rfl rfl) rfl hl.1 rfl (Nat.le_of_ble_eq_true rfl) dX2_shadowedBy_29 ⟨Nat.zero_le _, Nat.zero_le _⟩ ?_
      refine nr_cast (C := RX1) (T := TX1) (N := 5) (ci := 1) S (List.mem_of_getElem? (i := 4) rfl) hK (hR (q) (by omega)).2 0 rfl rfl dX2_shadowedBy_32 ?_
      refine lv_aload_n hx hb dX2_shadowedBy_35 rfl (lv_at hl 1 rfl) ?_
      refine Rd.callV (r := (bI (cvB (gt (RS L) (q)) (gt (RS L) (i))))) (As := [.ref ((gl L (i)).2.1)]) S (k_X1_covers l (hR (q) (by omega)).2 (hR (i) (by omega)).2 (hoo (q) (by omega)) (hoo (i) (by omega))) (cwV 1 hts gX2_shadowedBy_X1_covers rfl rfl rfl (by decide +kernel) ⟨Nat.le_of_ble_eq_true rfl, Nat.le_of_ble_eq_true rfl⟩) hK (va_recv hK.1 (hR (q) (by omega)).2 (ci := 1) (q0 := 0) rfl rfl) rfl hl.1 rfl (Nat.le_of_ble_eq_true rfl) dX2_shadowedBy_36 ⟨Nat.zero_le _, Nat.zero_le _⟩ ?_
      refine nr_ifB_eq (tgt := 44) hx hb dX2_shadowedBy_39 (by decide) (fun c_39 => ?_) (fun c_39 => ?_)
      · refine lv_iinc (v := (nI (q + 1))) (lv' := [(3, .int (nI (q + 1))), (2, .ref ((gl L (i)).2.1)), (0, .ref (x)), (1, .int (nI (i)))]) hx hb dX2_shadowedBy_44 hl (k := 0) rfl (nI_add _ _) (by decide) rfl (fun ls hl => ?_)
        refine lv_goto (tgt := 8) hx hb dX2_shadowedBy_47 (by decide) ?_
        exact ih_8 (q + 1) (by by_cases hq : q = k0; exact absurd (hq ▸ c_39) (by rw [hcv]; decide); omega) (trivial) (by omega) ls (lv_sub hl [0, 1, 2, 3] rfl)
      · refine lv_iload_n hx hb dX2_shadowedBy_42 rfl (lv_at hl 0 rfl) ?_
        exact hE _ _ _ dX2_shadowedBy_43 (vp_nar_int _) (congrArg nI (by by_cases hq : q < k0; exact absurd c_39 (by rw [hnc q hq]; decide); omega))
  exact loop_8 _ (0) (Nat.zero_le _) (trivial) (Nat.lt_succ_self _) ls (lv_sub hl [0, 1, 2, 3] rfl)
set_option maxHeartbeats 4000000 in
set_option maxRecDepth 100000 in
theorem k_X2_permitted (l : Launch) {D : va_G} {Y : Nat → ClassId} {H : Heap} {x la na ea cap : Nat} {mod ju mi lo : Int32} {es : Nat → Option Nat} {nt : Nat → Int32} {L : List RA}  (hA : rdA D Y x la na ea cap mod es nt ju mi lo L H) : Rd l yX2_permitted wsX2_permitted 4 D Y [.ref (x)] H (nI (pmT (RS L))) := by
  refine Rd.start (cc := cX2_permitted) (maxL := 4) (rt := .int) (by decide) rfl (Nat.le_of_ble_eq_true rfl) ?_
  intro p e s m args below meth c ls Q S hK hl hE
  have S : CallFix p m c cX2_permitted 4 s args wsX2_permitted RX2 := S
  have hx := S.1
  have hb := S.2.1
  have hts := S.2.2.2.2
  have hl : lv_has ls 4 [(0, .ref (x))] := hl
  have hA0 := hA
  obtain ⟨hX, hL, hN, hE2, hR, hok⟩ := hA
  have hlen : (RS L).length = L.length := List.length_map ..
  have hn : L.length ≤ 16 := by have := hok.1; omega
  have hoo : ∀ i, i < L.length → rvOk (gt (RS L) i) := fun i hi => hok.2 i (by omega)
  refine lv_iconst (v := (nI (0))) hx hb dX2_permitted_0 (by decide +kernel) ?_
  refine lv_istore_n (lv' := [(1, .int (nI (0))), (0, .ref (x))]) hx hb dX2_permitted_1 rfl hl (by decide) rfl (fun ls hl => ?_)
  refine lv_iconst (v := (nI (0))) hx hb dX2_permitted_2 (by decide +kernel) ?_
  refine lv_istore_n (lv' := [(2, .int (nI (0))), (1, .int (nI (0))), (0, .ref (x))]) hx hb dX2_permitted_3 rfl hl (by decide) rfl (fun ls hl => ?_)
  have loop_4 : ∀ (fu_4 : Nat) (n : Nat) (s1 : Nat), (s1 ≤ 32) → (n = sumN (fun s => sumN (fun p => popI (pmI (RS L) s p (-1))) 4) s1) → 32 - s1 < fu_4 → ∀ ls : Array Slot, lv_has ls 4 [(2, .int (nI (s1))), (1, .int (nI (n))), (0, .ref (x))] → W p l e (rmN 4) s m args below meth c H [] 0 0 Q (F0 m 4 ls []) := by
    intro fu_4
    induction fu_4 with
    | zero => exact fun n s1 _ _ hk => absurd hk (Nat.not_lt_zero _)
    | succ fu_4 ih_4 =>
      intro n s1 h1 h2 hk_4 ls hl
      refine lv_iload_n hx hb dX2_permitted_4 rfl (lv_at hl 0 rfl) ?_
      refine lv_bipush (v := (nI (32))) hx hb dX2_permitted_5 (by decide +kernel) ?_
      refine nr_icmp_ge (tgt := 42) hx hb (by omega) (by omega) dX2_permitted_7 (by decide) (fun c_7 => ?_) (fun c_7 => ?_)
      · refine lv_iload_n hx hb dX2_permitted_42 rfl (lv_at hl 1 rfl) ?_
        exact hE _ _ _ dX2_permitted_43 (vp_nar_int _) (by rw [pmT_sum]; exact sumN_end h1 c_7 h2)
      · refine lv_iconst (v := (nI (0))) hx hb dX2_permitted_10 (by decide +kernel) ?_
        refine lv_istore_n (lv' := [(3, .int (nI (0))), (2, .int (nI (s1))), (1, .int (nI (n))), (0, .ref (x))]) hx hb dX2_permitted_11 rfl hl (by decide) rfl (fun ls hl => ?_)
        have loop_12 : ∀ (fu_12 : Nat) (n2 : Nat) (p1 : Nat), (p1 ≤ 4) → (n2 = n + sumN (fun p => popI (pmI (RS L) s1 p (-1))) p1) → 4 - p1 < fu_12 → ∀ ls : Array Slot, lv_has ls 4 [(3, .int (nI (p1))), (2, .int (nI (s1))), (1, .int (nI (n2))), (0, .ref (x))] → W p l e (rmN 4) s m args below meth c H [] 0 0 Q (F0 m 12 ls []) := by
          intro fu_12
          induction fu_12 with
          | zero => exact fun n2 p1 _ _ hk => absurd hk (Nat.not_lt_zero _)
          | succ fu_12 ih_12 =>
            intro n2 p1 g1 g2 hk_12 ls hl
            refine lv_iload_n hx hb dX2_permitted_12 rfl (lv_at hl 0 rfl) ?_
            refine lv_iconst (v := (nI (4))) hx hb dX2_permitted_13 (by decide +kernel) ?_
            refine nr_icmp_ge (tgt := 36) hx hb (by omega) (by omega) dX2_permitted_14 (by decide) (fun c_14 => ?_) (fun c_14 => ?_)
            · refine lv_iinc (v := (nI (s1 + 1))) (lv' := [(2, .int (nI (s1 + 1))), (3, .int (nI (p1))), (1, .int (nI (n2))), (0, .ref (x))]) hx hb dX2_permitted_36 hl (k := 1) rfl (nI_add _ _) (by decide) rfl (fun ls hl => ?_)
              refine lv_goto (tgt := 4) hx hb dX2_permitted_39 (by decide) ?_
              exact ih_4 (n2) (s1 + 1) (by omega) (by rw [g2, show p1 = 4 from by omega, h2]; rfl) (by omega) ls (lv_sub hl [0, 2, 3] rfl)
            · refine lv_iload_n hx hb dX2_permitted_17 rfl (lv_at hl 2 rfl) ?_
              refine lv_aload_n hx hb dX2_permitted_18 rfl (lv_at hl 3 rfl) ?_
              refine lv_iload_n hx hb dX2_permitted_19 rfl (lv_at hl 1 rfl) ?_
              refine lv_iload_n hx hb dX2_permitted_20 rfl (lv_at hl 0 rfl) ?_
              refine lv_iconst (v := ((-1 : Int32))) hx hb dX2_permitted_21 (by decide +kernel) ?_
              refine Rd.callV (r := (pmI (RS L) (s1) (p1) ((-1 : Int32)))) (As := [.int (nI (s1)), .int (nI (p1)), .int ((-1 : Int32))]) S (k_X2_permittedDestinations l hA0 (s0 := s1) (p0 := p1) (wo := ((-1 : Int32))) (by omega) (by omega)) (cwV 3 hts gX2_permitted_X2_permittedDestinations rfl rfl rfl (by decide +kernel) ⟨Nat.le_of_ble_eq_true rfl, Nat.le_of_ble_eq_true rfl⟩) hK (va_recv hK.1 hX (ci := 2) (q0 := 0) rfl rfl) rfl hl.1 rfl (Nat.le_of_ble_eq_true rfl) dX2_permitted_22 ⟨Nat.zero_le _, Nat.zero_le _⟩ ?_
              refine Rd.callS (r := (nI (popI (pmI (RS L) (s1) (p1) ((-1 : Int32)))))) (As := [.int (pmI (RS L) (s1) (p1) ((-1 : Int32)))]) S (k_J6_bitCount_0f7a4 l (pmI (RS L) (s1) (p1) ((-1 : Int32)))) (va_cwS 1 hts gX2_permitted_J6_bitCount_0f7a4 rfl rfl rfl (by decide +kernel) ⟨Nat.le_of_ble_eq_true rfl, Nat.le_of_ble_eq_true rfl⟩) hK rfl hl.1 rfl (Nat.le_of_ble_eq_true rfl) dX2_permitted_25 ⟨Nat.zero_le _, Nat.zero_le _⟩ ?_
              refine nr_iadd hx hb dX2_permitted_28 ?_
              refine lv_istore_n (lv' := [(1, .int (nI (n2 + (popI (pmI (RS L) (s1) (p1) ((-1 : Int32))))))), (3, .int (nI (p1))), (2, .int (nI (s1))), (0, .ref (x))]) hx hb dX2_permitted_29 rfl hl (by decide) rfl (fun ls hl => ?_)
              refine lv_iinc (v := (nI (p1 + 1))) (lv' := [(3, .int (nI (p1 + 1))), (1, .int (nI (n2 + (popI (pmI (RS L) (s1) (p1) ((-1 : Int32))))))), (2, .int (nI (s1))), (0, .ref (x))]) hx hb dX2_permitted_30 hl (k := 1) rfl (nI_add _ _) (by decide) rfl (fun ls hl => ?_)
              refine lv_goto (tgt := 12) hx hb dX2_permitted_33 (by decide) ?_
              exact ih_12 (n2 + (popI (pmI (RS L) (s1) (p1) ((-1 : Int32))))) (p1 + 1) (by omega) (by rw [g2, sumN, Nat.add_assoc]) (by omega) ls (lv_sub hl [0, 2, 1, 3] rfl)
        exact loop_12 _ (n) (0) (Nat.zero_le _) (rfl) (Nat.lt_succ_self _) ls (lv_sub hl [0, 1, 2, 3] rfl)
  exact loop_4 _ (0) (0) (Nat.zero_le _) (rfl) (Nat.lt_succ_self _) ls (lv_sub hl [0, 1, 2] rfl)
set_option maxHeartbeats 4000000 in
set_option maxRecDepth 100000 in
theorem k_X2_rules (l : Launch) {D : va_G} {Y : Nat → ClassId} {H : Heap} {x la na ea cap : Nat} {mod ju mi lo : Int32} {es : Nat → Option Nat} {nt : Nat → Int32} {L : List RA}  (hA : rdA D Y x la na ea cap mod es nt ju mi lo L H) : Rd l yX2_rules wsX2_rules 1 D Y [.ref (x)] H (nI L.length) := by
  refine Rd.start (cc := cX2_rules) (maxL := 1) (rt := .int) (by decide) rfl (Nat.le_of_ble_eq_true rfl) ?_
  intro p e s m args below meth c ls Q S hK hl hE
  have S : CallFix p m c cX2_rules 1 s args wsX2_rules RX2 := S
  have hx := S.1
  have hb := S.2.1
  have hts := S.2.2.2.2
  have hl : lv_has ls 1 [(0, .ref (x))] := hl
  have hA0 := hA
  obtain ⟨hX, hL, hN, hE2, hR, hok⟩ := hA
  have hlen : (RS L).length = L.length := List.length_map ..
  have hn : L.length ≤ 16 := by have := hok.1; omega
  have hoo : ∀ i, i < L.length → rvOk (gt (RS L) i) := fun i hi => hok.2 i (by omega)
  refine lv_aload_n hx hb dX2_rules_0 rfl (lv_at hl 0 rfl) ?_
  refine nr_get (C := RX2) (T := TX2) (N := 5) (ci := 2) S (fun _ h => List.mem_cons_of_mem _ (List.mem_append_left _ (List.mem_append_right _ (h)))) hK hX 0 rfl rfl 0 (by decide) (List.mem_of_getElem? (i := 1) rfl) rfl dX2_rules_1 ?_
  refine Rd.callV (r := (nI (L.length))) (As := []) S (k_Jx4a65c_size_8abf5 l hL) (cwV 0 hts gX2_rules_Jx4a65c_size_8abf5 rfl rfl rfl (by decide +kernel) ⟨Nat.le_of_ble_eq_true rfl, Nat.le_of_ble_eq_true rfl⟩) hK (va_recv hK.1 hL (ci := 4) (q0 := 0) rfl rfl) rfl hl.1 rfl (Nat.le_of_ble_eq_true rfl) dX2_rules_4 ⟨Nat.zero_le _, Nat.zero_le _⟩ ?_
  exact hE _ _ _ dX2_rules_7 (vp_nar_int _) (rfl)
set_option maxHeartbeats 4000000 in
set_option maxRecDepth 100000 in
theorem k_X2_misses (l : Launch) {D : va_G} {Y : Nat → ClassId} {H : Heap} {x la na ea cap : Nat} {mod ju mi lo : Int32} {es : Nat → Option Nat} {nt : Nat → Int32} {L : List RA}  (hA : rdA D Y x la na ea cap mod es nt ju mi lo L H) : Rd l yX2_misses wsX2_misses 0 D Y [.ref (x)] H (mi) := by
  refine Rd.start (cc := cX2_misses) (maxL := 1) (rt := .int) (by decide) rfl (Nat.le_of_ble_eq_true rfl) ?_
  intro p e s m args below meth c ls Q S hK hl hE
  have S : CallFix p m c cX2_misses 1 s args wsX2_misses RX2 := S
  have hx := S.1
  have hb := S.2.1
  have hts := S.2.2.2.2
  have hl : lv_has ls 1 [(0, .ref (x))] := hl
  have hA0 := hA
  obtain ⟨hX, hL, hN, hE2, hR, hok⟩ := hA
  have hlen : (RS L).length = L.length := List.length_map ..
  have hn : L.length ≤ 16 := by have := hok.1; omega
  have hoo : ∀ i, i < L.length → rvOk (gt (RS L) i) := fun i hi => hok.2 i (by omega)
  refine lv_aload_n hx hb dX2_misses_0 rfl (lv_at hl 0 rfl) ?_
  refine nr_get (C := RX2) (T := TX2) (N := 5) (ci := 2) S (fun _ h => List.mem_cons_of_mem _ (List.mem_append_right _ (h))) hK hX 0 rfl rfl 3 (by decide) (List.mem_of_getElem? (i := 1) rfl) rfl dX2_misses_1 ?_
  exact hE _ _ _ dX2_misses_4 (vp_nar_int _) (rfl)
set_option maxHeartbeats 4000000 in
set_option maxRecDepth 100000 in
theorem k_X2_checkPacket (l : Launch) {D : va_G} {Y : Nat → ClassId} {H : Heap} {s0 d0 p0 : Nat} (hs : s0 < 32) (hd : d0 < 32) (hp : p0 < 4) : RdO l yX2_checkPacket wsX2_checkPacket 0 D Y [.int (nI (s0)), .int (nI (d0)), .int (nI (p0))] H (none) := by
  refine RdU.start (cc := cX2_checkPacket) (maxL := 3) (by decide) rfl (Nat.le_of_ble_eq_true rfl) ?_
  intro p e s m args below meth c ls Q S hK hl hE
  have S : CallFix p m c cX2_checkPacket 3 s args wsX2_checkPacket RX2 := S
  have hx := S.1
  have hb := S.2.1
  have hts := S.2.2.2.2
  have hl : lv_has ls 3 [(0, .int (nI (s0))), (1, .int (nI (d0))), (2, .int (nI (p0)))] := hl
  refine lv_iload_n hx hb dX2_checkPacket_0 rfl (lv_at hl 0 rfl) ?_
  refine lv_if_lt (tgt := 20) hx hb dX2_checkPacket_1 (by decide) (fun c_1 => absurd c_1 (nI_pos (by omega))) (fun c_1 => ?_)
  refine lv_iload_n hx hb dX2_checkPacket_4 rfl (lv_at hl 0 rfl) ?_
  refine lv_bipush (v := (nI (32))) hx hb dX2_checkPacket_5 (by decide +kernel) ?_
  refine nr_icmp_ge (tgt := 20) hx hb (by omega) (by omega) dX2_checkPacket_7 (by decide) (fun c_7 => absurd c_7 (by omega)) (fun c_7 => ?_)
  refine lv_iload_n hx hb dX2_checkPacket_10 rfl (lv_at hl 1 rfl) ?_
  refine lv_if_lt (tgt := 20) hx hb dX2_checkPacket_11 (by decide) (fun c_11 => absurd c_11 (nI_pos (by omega))) (fun c_11 => ?_)
  refine lv_iload_n hx hb dX2_checkPacket_14 rfl (lv_at hl 1 rfl) ?_
  refine lv_bipush (v := (nI (32))) hx hb dX2_checkPacket_15 (by decide +kernel) ?_
  refine nr_icmp_lt (tgt := 30) hx hb (by omega) (by omega) dX2_checkPacket_17 (by decide) (fun c_17 => ?_) (fun c_17 => absurd c_17 (by omega))
  refine lv_iload_n hx hb dX2_checkPacket_30 rfl (lv_at hl 2 rfl) ?_
  refine lv_if_lt (tgt := 39) hx hb dX2_checkPacket_31 (by decide) (fun c_31 => absurd c_31 (nI_pos (by omega))) (fun c_31 => ?_)
  refine lv_iload_n hx hb dX2_checkPacket_34 rfl (lv_at hl 2 rfl) ?_
  refine lv_iconst (v := (nI (4))) hx hb dX2_checkPacket_35 (by decide +kernel) ?_
  refine nr_icmp_lt (tgt := 49) hx hb (by omega) (by omega) dX2_checkPacket_36 (by decide) (fun c_36 => ?_) (fun c_36 => absurd c_36 (by omega))
  exact hE _ _ dX2_checkPacket_49
