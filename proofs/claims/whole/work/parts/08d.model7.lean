/-! the reference: merging, shortening, sorting -/
set_option maxHeartbeats 4000000 in
set_option maxRecDepth 100000 in
theorem k_X3_merges (l : Launch) {D : va_G} {Y : Nat → ClassId} {A : Nat → Nat} {th mi ju lo : Int32} {f bf ca bg sz : Nat → Int32} {rs : List RV}  (hf : mrep rs f) {i : Nat} (hi : i + 1 < rs.length) : MuV l yX3_merges wsX3_merges 3 D Y [.ref (A 0), .int (nI (i))] (wM Y A (th) (nI (rs.length)) (mi) (ju) (lo) f bf ca bg sz) (tkB D Y A th mi ju lo bf bg sz (mgL rs i) (gt rs (i + 1))) := by
  refine MuV.start (cc := cX3_merges) (maxL := 3) (by decide) rfl (Nat.le_of_ble_eq_true rfl) ?_
  intro p e s m args below meth c ls AA H0 H locs Q S hK hP hD hS hl hE
  have S : CallFix p m c cX3_merges 3 s args wsX3_merges RX3 := S
  have hx := S.1
  have hb := S.2.1
  have hts := S.2.2.2.2
  have hl : lv_has ls 3 [(0, .ref (A 0)), (1, .int (nI (i)))] := hl
  have hn := hf.1.1
  have h1 := hf.1.2 i (by omega)
  have h2 := hf.1.2 (i + 1) hi
  refine lv_aload_n hx hb dX3_merges_0 rfl (lv_at hl 0 rfl) ?_
  refine lv_iload_n hx hb dX3_merges_1 rfl (lv_at hl 1 rfl) ?_
  refine lv_iconst (v := (nI (1))) hx hb dX3_merges_2 (by decide +kernel) ?_
  refine nr_iadd hx hb dX3_merges_3 ?_
  refine MuV.callV (As := [.int (nI (i + 1))]) S (k_X3_takesOut l hf (pl := i + 1) (by omega)) (cwV 1 hts gX3_merges_X3_takesOut rfl rfl rfl (by decide +kernel) ⟨Nat.le_of_ble_eq_true rfl, Nat.le_of_ble_eq_true rfl⟩) hK hP hD hS (va_recv hK.1 hP (ci := 3) (q0 := 0) rfl rfl) rfl hl.1 rfl (Nat.le_of_ble_eq_true rfl) dX3_merges_4 ⟨Nat.zero_le _, Nat.zero_le _⟩ (fun H locs hB hS _ hkp => ?_)
  obtain ⟨f, ca, hf, hca, hP⟩ := hB
  have hD : va_D AA (wM Y A (th) (nI ((rs.eraseIdx (i + 1)).length)) (mi) (ju) (lo) f bf ca bg sz) := va_D.same hD rfl
  have hrow : rowp f i (gt rs i) := fun w hw => by have h9 := hf.2 i (by rw [len_erase hi]; omega) w hw; rw [gt_erase, if_pos (by omega)] at h9; exact h9
  have hoff : offp f f i := fun j _ => rfl
  refine lv_bipush (v := (nI (7))) hx hb dX3_merges_7 (by decide +kernel) ?_
  refine lv_iload_n hx hb dX3_merges_9 rfl (lv_at hl 1 rfl) ?_
  refine nr_imul hx hb dX3_merges_10 ?_
  refine lv_istore_n (lv' := [(2, .int (nI (7 * i))), (0, .ref (A 0)), (1, .int (nI (i)))]) hx hb dX3_merges_11 rfl hl (by decide) rfl (fun ls hl => ?_)
  refine lv_aload_n hx hb dX3_merges_12 rfl (lv_at hl 1 rfl) ?_
  refine nr_get (C := RX3) (T := TX3) (N := 10) (ci := 3) S (fun _ h => List.mem_cons_of_mem _ (List.mem_append_right _ (h))) hK hP 0 rfl rfl 2 (by decide) (List.mem_of_getElem? (i := 1) rfl) rfl dX3_merges_13 ?_
  refine lv_iload_n hx hb dX3_merges_16 rfl (lv_at hl 0 rfl) ?_
  refine lv_iconst (v := (nI (0))) hx hb dX3_merges_17 (by decide +kernel) ?_
  refine nr_iadd hx hb dX3_merges_18 ?_
  refine lv_aload_n hx hb dX3_merges_19 rfl (lv_at hl 1 rfl) ?_
  refine nr_get (C := RX3) (T := TX3) (N := 10) (ci := 3) S (fun _ h => List.mem_cons_of_mem _ (List.mem_append_right _ (h))) hK hP 0 rfl rfl 7 (by decide) (List.mem_of_getElem? (i := 2) rfl) rfl dX3_merges_20 ?_
  refine lv_iconst (v := (nI (0))) hx hb dX3_merges_23 (by decide +kernel) ?_
  refine nr_iald (n := 7) (f := ca) S hK hP 3 rfl (by omega) (by decide) dX3_merges_24 ?_
  refine nr_top (y := (nI (sF (gt rs (i + 1))))) (hca 0 (by decide)) ?_
  refine lv_aload_n hx hb dX3_merges_25 rfl (lv_at hl 1 rfl) ?_
  refine nr_get (C := RX3) (T := TX3) (N := 10) (ci := 3) S (fun _ h => List.mem_cons_of_mem _ (List.mem_append_right _ (h))) hK hP 0 rfl rfl 2 (by decide) (List.mem_of_getElem? (i := 1) rfl) rfl dX3_merges_26 ?_
  refine lv_iload_n hx hb dX3_merges_29 rfl (lv_at hl 0 rfl) ?_
  refine lv_iconst (v := (nI (0))) hx hb dX3_merges_30 (by decide +kernel) ?_
  refine nr_iadd hx hb dX3_merges_31 ?_
  refine nr_iald (n := 112) (f := f) S hK hP 1 rfl (by omega) (by decide) dX3_merges_32 ?_
  refine nr_top (y := (nI (sF (gt rs i)))) (hrow 0 (by decide)) ?_
  refine nr_join (pc' := 53) (n := 3) (L := [(2, .int (nI (7 * i))), (0, .ref (A 0)), (1, .int (nI (i)))]) (st' := [.int (nI (min (sF (gt rs (i + 1))) (sF (gt rs i)))), .int (nI ((7 * i) + 0)), .ref (A 1)]) (fun ls hl => ?_) (fun J1 => ?_)
  · refine nr_iast (n := 112) (f := f) (x := (nI (min (sF (gt rs (i + 1))) (sF (gt rs i))))) S hK hP hD hS 1 rfl (by omega) (by decide) dX3_merges_53 (fun H locs hP hD hS => ?_)
    have hP : va_P D aCl (wM Y A (th) (nI ((rs.eraseIdx (i + 1)).length)) (mi) (ju) (lo) (upd f ((7 * i) + 0) (nI (min (sF (gt rs (i + 1))) (sF (gt rs i))))) bf ca bg sz) H := hP
    have hD : va_D AA (wM Y A (th) (nI ((rs.eraseIdx (i + 1)).length)) (mi) (ju) (lo) (upd f ((7 * i) + 0) (nI (min (sF (gt rs (i + 1))) (sF (gt rs i))))) bf ca bg sz) := hD
    obtain ⟨g1, e_g1⟩ : ∃ z : Nat → Int32, z = (upd f ((7 * i) + 0) (nI (min (sF (gt rs (i + 1))) (sF (gt rs i))))) := ⟨_, rfl⟩
    rw [← e_g1] at hP hD
    have hrow := rowp_upd hrow (w := 0) (v := nI (min (sF (gt rs (i + 1))) (sF (gt rs i)))) (r2 := (min (sF (gt rs (i + 1))) (sF (gt rs i)), sT (gt rs i), dF (gt rs i), dT (gt rs i), pR (gt rs i), pM (gt rs i), hT (gt rs i))) e_g1 rfl (fun a ha hw => by rcases (show a = 0 ∨ a = 1 ∨ a = 2 ∨ a = 3 ∨ a = 4 ∨ a = 5 ∨ a = 6 by omega) with rfl | rfl | rfl | rfl | rfl | rfl | rfl <;> first | rfl | exact absurd rfl hw)
    have hoff := offp_upd hoff e_g1 (by decide)
    refine lv_aload_n hx hb dX3_merges_54 rfl (lv_at hl 1 rfl) ?_
    refine nr_get (C := RX3) (T := TX3) (N := 10) (ci := 3) S (fun _ h => List.mem_cons_of_mem _ (List.mem_append_right _ (h))) hK hP 0 rfl rfl 2 (by decide) (List.mem_of_getElem? (i := 1) rfl) rfl dX3_merges_55 ?_
    refine lv_iload_n hx hb dX3_merges_58 rfl (lv_at hl 0 rfl) ?_
    refine lv_iconst (v := (nI (1))) hx hb dX3_merges_59 (by decide +kernel) ?_
    refine nr_iadd hx hb dX3_merges_60 ?_
    refine lv_aload_n hx hb dX3_merges_61 rfl (lv_at hl 1 rfl) ?_
    refine nr_get (C := RX3) (T := TX3) (N := 10) (ci := 3) S (fun _ h => List.mem_cons_of_mem _ (List.mem_append_right _ (h))) hK hP 0 rfl rfl 7 (by decide) (List.mem_of_getElem? (i := 2) rfl) rfl dX3_merges_62 ?_
    refine lv_iconst (v := (nI (1))) hx hb dX3_merges_65 (by decide +kernel) ?_
    refine nr_iald (n := 7) (f := ca) S hK hP 3 rfl (by omega) (by decide) dX3_merges_66 ?_
    refine nr_top (y := (nI (sT (gt rs (i + 1))))) (hca 1 (by decide)) ?_
    refine lv_aload_n hx hb dX3_merges_67 rfl (lv_at hl 1 rfl) ?_
    refine nr_get (C := RX3) (T := TX3) (N := 10) (ci := 3) S (fun _ h => List.mem_cons_of_mem _ (List.mem_append_right _ (h))) hK hP 0 rfl rfl 2 (by decide) (List.mem_of_getElem? (i := 1) rfl) rfl dX3_merges_68 ?_
    refine lv_iload_n hx hb dX3_merges_71 rfl (lv_at hl 0 rfl) ?_
    refine lv_iconst (v := (nI (1))) hx hb dX3_merges_72 (by decide +kernel) ?_
    refine nr_iadd hx hb dX3_merges_73 ?_
    refine nr_iald (n := 112) (f := g1) S hK hP 1 rfl (by omega) (by decide) dX3_merges_74 ?_
    refine nr_top (y := (nI (sT (gt rs i)))) (hrow 1 (by decide)) ?_
    refine nr_join (pc' := 95) (n := 3) (L := [(2, .int (nI (7 * i))), (0, .ref (A 0)), (1, .int (nI (i)))]) (st' := [.int (nI (max (sT (gt rs (i + 1))) (sT (gt rs i)))), .int (nI ((7 * i) + 1)), .ref (A 1)]) (fun ls hl => ?_) (fun J2 => ?_)
    · refine nr_iast (n := 112) (f := g1) (x := (nI (max (sT (gt rs (i + 1))) (sT (gt rs i))))) S hK hP hD hS 1 rfl (by omega) (by decide) dX3_merges_95 (fun H locs hP hD hS => ?_)
      have hP : va_P D aCl (wM Y A (th) (nI ((rs.eraseIdx (i + 1)).length)) (mi) (ju) (lo) (upd g1 ((7 * i) + 1) (nI (max (sT (gt rs (i + 1))) (sT (gt rs i))))) bf ca bg sz) H := hP
      have hD : va_D AA (wM Y A (th) (nI ((rs.eraseIdx (i + 1)).length)) (mi) (ju) (lo) (upd g1 ((7 * i) + 1) (nI (max (sT (gt rs (i + 1))) (sT (gt rs i))))) bf ca bg sz) := hD
      obtain ⟨g2, e_g2⟩ : ∃ z : Nat → Int32, z = (upd g1 ((7 * i) + 1) (nI (max (sT (gt rs (i + 1))) (sT (gt rs i))))) := ⟨_, rfl⟩
      rw [← e_g2] at hP hD
      have hrow := rowp_upd hrow (w := 1) (v := nI (max (sT (gt rs (i + 1))) (sT (gt rs i)))) (r2 := (min (sF (gt rs (i + 1))) (sF (gt rs i)), max (sT (gt rs (i + 1))) (sT (gt rs i)), dF (gt rs i), dT (gt rs i), pR (gt rs i), pM (gt rs i), hT (gt rs i))) e_g2 rfl (fun a ha hw => by rcases (show a = 0 ∨ a = 1 ∨ a = 2 ∨ a = 3 ∨ a = 4 ∨ a = 5 ∨ a = 6 by omega) with rfl | rfl | rfl | rfl | rfl | rfl | rfl <;> first | rfl | exact absurd rfl hw)
      have hoff := offp_upd hoff e_g2 (by decide)
      refine lv_aload_n hx hb dX3_merges_96 rfl (lv_at hl 1 rfl) ?_
      refine nr_get (C := RX3) (T := TX3) (N := 10) (ci := 3) S (fun _ h => List.mem_cons_of_mem _ (List.mem_append_right _ (h))) hK hP 0 rfl rfl 2 (by decide) (List.mem_of_getElem? (i := 1) rfl) rfl dX3_merges_97 ?_
      refine lv_iload_n hx hb dX3_merges_100 rfl (lv_at hl 0 rfl) ?_
      refine lv_iconst (v := (nI (2))) hx hb dX3_merges_101 (by decide +kernel) ?_
      refine nr_iadd hx hb dX3_merges_102 ?_
      refine lv_aload_n hx hb dX3_merges_103 rfl (lv_at hl 1 rfl) ?_
      refine nr_get (C := RX3) (T := TX3) (N := 10) (ci := 3) S (fun _ h => List.mem_cons_of_mem _ (List.mem_append_right _ (h))) hK hP 0 rfl rfl 7 (by decide) (List.mem_of_getElem? (i := 2) rfl) rfl dX3_merges_104 ?_
      refine lv_iconst (v := (nI (2))) hx hb dX3_merges_107 (by decide +kernel) ?_
      refine nr_iald (n := 7) (f := ca) S hK hP 3 rfl (by omega) (by decide) dX3_merges_108 ?_
      refine nr_top (y := (nI (dF (gt rs (i + 1))))) (hca 2 (by decide)) ?_
      refine lv_aload_n hx hb dX3_merges_109 rfl (lv_at hl 1 rfl) ?_
      refine nr_get (C := RX3) (T := TX3) (N := 10) (ci := 3) S (fun _ h => List.mem_cons_of_mem _ (List.mem_append_right _ (h))) hK hP 0 rfl rfl 2 (by decide) (List.mem_of_getElem? (i := 1) rfl) rfl dX3_merges_110 ?_
      refine lv_iload_n hx hb dX3_merges_113 rfl (lv_at hl 0 rfl) ?_
      refine lv_iconst (v := (nI (2))) hx hb dX3_merges_114 (by decide +kernel) ?_
      refine nr_iadd hx hb dX3_merges_115 ?_
      refine nr_iald (n := 112) (f := g2) S hK hP 1 rfl (by omega) (by decide) dX3_merges_116 ?_
      refine nr_top (y := (nI (dF (gt rs i)))) (hrow 2 (by decide)) ?_
      refine nr_join (pc' := 137) (n := 3) (L := [(2, .int (nI (7 * i))), (0, .ref (A 0)), (1, .int (nI (i)))]) (st' := [.int (nI (min (dF (gt rs (i + 1))) (dF (gt rs i)))), .int (nI ((7 * i) + 2)), .ref (A 1)]) (fun ls hl => ?_) (fun J3 => ?_)
      · refine nr_iast (n := 112) (f := g2) (x := (nI (min (dF (gt rs (i + 1))) (dF (gt rs i))))) S hK hP hD hS 1 rfl (by omega) (by decide) dX3_merges_137 (fun H locs hP hD hS => ?_)
        have hP : va_P D aCl (wM Y A (th) (nI ((rs.eraseIdx (i + 1)).length)) (mi) (ju) (lo) (upd g2 ((7 * i) + 2) (nI (min (dF (gt rs (i + 1))) (dF (gt rs i))))) bf ca bg sz) H := hP
        have hD : va_D AA (wM Y A (th) (nI ((rs.eraseIdx (i + 1)).length)) (mi) (ju) (lo) (upd g2 ((7 * i) + 2) (nI (min (dF (gt rs (i + 1))) (dF (gt rs i))))) bf ca bg sz) := hD
        obtain ⟨g3, e_g3⟩ : ∃ z : Nat → Int32, z = (upd g2 ((7 * i) + 2) (nI (min (dF (gt rs (i + 1))) (dF (gt rs i))))) := ⟨_, rfl⟩
        rw [← e_g3] at hP hD
        have hrow := rowp_upd hrow (w := 2) (v := nI (min (dF (gt rs (i + 1))) (dF (gt rs i)))) (r2 := (min (sF (gt rs (i + 1))) (sF (gt rs i)), max (sT (gt rs (i + 1))) (sT (gt rs i)), min (dF (gt rs (i + 1))) (dF (gt rs i)), dT (gt rs i), pR (gt rs i), pM (gt rs i), hT (gt rs i))) e_g3 rfl (fun a ha hw => by rcases (show a = 0 ∨ a = 1 ∨ a = 2 ∨ a = 3 ∨ a = 4 ∨ a = 5 ∨ a = 6 by omega) with rfl | rfl | rfl | rfl | rfl | rfl | rfl <;> first | rfl | exact absurd rfl hw)
        have hoff := offp_upd hoff e_g3 (by decide)
        refine lv_aload_n hx hb dX3_merges_138 rfl (lv_at hl 1 rfl) ?_
        refine nr_get (C := RX3) (T := TX3) (N := 10) (ci := 3) S (fun _ h => List.mem_cons_of_mem _ (List.mem_append_right _ (h))) hK hP 0 rfl rfl 2 (by decide) (List.mem_of_getElem? (i := 1) rfl) rfl dX3_merges_139 ?_
        refine lv_iload_n hx hb dX3_merges_142 rfl (lv_at hl 0 rfl) ?_
        refine lv_iconst (v := (nI (3))) hx hb dX3_merges_143 (by decide +kernel) ?_
        refine nr_iadd hx hb dX3_merges_144 ?_
        refine lv_aload_n hx hb dX3_merges_145 rfl (lv_at hl 1 rfl) ?_
        refine nr_get (C := RX3) (T := TX3) (N := 10) (ci := 3) S (fun _ h => List.mem_cons_of_mem _ (List.mem_append_right _ (h))) hK hP 0 rfl rfl 7 (by decide) (List.mem_of_getElem? (i := 2) rfl) rfl dX3_merges_146 ?_
        refine lv_iconst (v := (nI (3))) hx hb dX3_merges_149 (by decide +kernel) ?_
        refine nr_iald (n := 7) (f := ca) S hK hP 3 rfl (by omega) (by decide) dX3_merges_150 ?_
        refine nr_top (y := (nI (dT (gt rs (i + 1))))) (hca 3 (by decide)) ?_
        refine lv_aload_n hx hb dX3_merges_151 rfl (lv_at hl 1 rfl) ?_
        refine nr_get (C := RX3) (T := TX3) (N := 10) (ci := 3) S (fun _ h => List.mem_cons_of_mem _ (List.mem_append_right _ (h))) hK hP 0 rfl rfl 2 (by decide) (List.mem_of_getElem? (i := 1) rfl) rfl dX3_merges_152 ?_
        refine lv_iload_n hx hb dX3_merges_155 rfl (lv_at hl 0 rfl) ?_
        refine lv_iconst (v := (nI (3))) hx hb dX3_merges_156 (by decide +kernel) ?_
        refine nr_iadd hx hb dX3_merges_157 ?_
        refine nr_iald (n := 112) (f := g3) S hK hP 1 rfl (by omega) (by decide) dX3_merges_158 ?_
        refine nr_top (y := (nI (dT (gt rs i)))) (hrow 3 (by decide)) ?_
        refine nr_join (pc' := 179) (n := 3) (L := [(2, .int (nI (7 * i))), (0, .ref (A 0)), (1, .int (nI (i)))]) (st' := [.int (nI (max (dT (gt rs (i + 1))) (dT (gt rs i)))), .int (nI ((7 * i) + 3)), .ref (A 1)]) (fun ls hl => ?_) (fun J4 => ?_)
        · refine nr_iast (n := 112) (f := g3) (x := (nI (max (dT (gt rs (i + 1))) (dT (gt rs i))))) S hK hP hD hS 1 rfl (by omega) (by decide) dX3_merges_179 (fun H locs hP hD hS => ?_)
          have hP : va_P D aCl (wM Y A (th) (nI ((rs.eraseIdx (i + 1)).length)) (mi) (ju) (lo) (upd g3 ((7 * i) + 3) (nI (max (dT (gt rs (i + 1))) (dT (gt rs i))))) bf ca bg sz) H := hP
          have hD : va_D AA (wM Y A (th) (nI ((rs.eraseIdx (i + 1)).length)) (mi) (ju) (lo) (upd g3 ((7 * i) + 3) (nI (max (dT (gt rs (i + 1))) (dT (gt rs i))))) bf ca bg sz) := hD
          obtain ⟨g4, e_g4⟩ : ∃ z : Nat → Int32, z = (upd g3 ((7 * i) + 3) (nI (max (dT (gt rs (i + 1))) (dT (gt rs i))))) := ⟨_, rfl⟩
          rw [← e_g4] at hP hD
          have hrow := rowp_upd hrow (w := 3) (v := nI (max (dT (gt rs (i + 1))) (dT (gt rs i)))) (r2 := (min (sF (gt rs (i + 1))) (sF (gt rs i)), max (sT (gt rs (i + 1))) (sT (gt rs i)), min (dF (gt rs (i + 1))) (dF (gt rs i)), max (dT (gt rs (i + 1))) (dT (gt rs i)), pR (gt rs i), pM (gt rs i), hT (gt rs i))) e_g4 rfl (fun a ha hw => by rcases (show a = 0 ∨ a = 1 ∨ a = 2 ∨ a = 3 ∨ a = 4 ∨ a = 5 ∨ a = 6 by omega) with rfl | rfl | rfl | rfl | rfl | rfl | rfl <;> first | rfl | exact absurd rfl hw)
          have hoff := offp_upd hoff e_g4 (by decide)
          refine lv_aload_n hx hb dX3_merges_180 rfl (lv_at hl 1 rfl) ?_
          refine nr_get (C := RX3) (T := TX3) (N := 10) (ci := 3) S (fun _ h => List.mem_cons_of_mem _ (List.mem_append_right _ (h))) hK hP 0 rfl rfl 2 (by decide) (List.mem_of_getElem? (i := 1) rfl) rfl dX3_merges_181 ?_
          refine lv_iload_n hx hb dX3_merges_184 rfl (lv_at hl 0 rfl) ?_
          refine lv_iconst (v := (nI (4))) hx hb dX3_merges_185 (by decide +kernel) ?_
          refine nr_iadd hx hb dX3_merges_186 ?_
          refine lv_dup2_11 hx hb dX3_merges_187 rfl rfl ?_
          refine nr_iald (n := 112) (f := g4) S hK hP 1 rfl (by omega) (by decide) dX3_merges_188 ?_
          refine nr_top (y := (nI (pR (gt rs i)))) (hrow 4 (by decide)) ?_
          refine lv_aload_n hx hb dX3_merges_189 rfl (lv_at hl 1 rfl) ?_
          refine nr_get (C := RX3) (T := TX3) (N := 10) (ci := 3) S (fun _ h => List.mem_cons_of_mem _ (List.mem_append_right _ (h))) hK hP 0 rfl rfl 7 (by decide) (List.mem_of_getElem? (i := 2) rfl) rfl dX3_merges_190 ?_
          refine lv_iconst (v := (nI (4))) hx hb dX3_merges_193 (by decide +kernel) ?_
          refine nr_iald (n := 7) (f := ca) S hK hP 3 rfl (by omega) (by decide) dX3_merges_194 ?_
          refine nr_top (y := (nI (pR (gt rs (i + 1))))) (hca 4 (by decide)) ?_
          refine lv_ior hx hb dX3_merges_195 ?_
          refine nr_top (y := (nI (pR (gt rs i) ||| pR (gt rs (i + 1))))) (nx_or _ _) ?_
          refine nr_iast (n := 112) (f := g4) (x := (nI (pR (gt rs i) ||| pR (gt rs (i + 1))))) S hK hP hD hS 1 rfl (by omega) (by decide) dX3_merges_196 (fun H locs hP hD hS => ?_)
          have hP : va_P D aCl (wM Y A (th) (nI ((rs.eraseIdx (i + 1)).length)) (mi) (ju) (lo) (upd g4 ((7 * i) + 4) (nI (pR (gt rs i) ||| pR (gt rs (i + 1))))) bf ca bg sz) H := hP
          have hD : va_D AA (wM Y A (th) (nI ((rs.eraseIdx (i + 1)).length)) (mi) (ju) (lo) (upd g4 ((7 * i) + 4) (nI (pR (gt rs i) ||| pR (gt rs (i + 1))))) bf ca bg sz) := hD
          obtain ⟨g5, e_g5⟩ : ∃ z : Nat → Int32, z = (upd g4 ((7 * i) + 4) (nI (pR (gt rs i) ||| pR (gt rs (i + 1))))) := ⟨_, rfl⟩
          rw [← e_g5] at hP hD
          have hrow := rowp_upd hrow (w := 4) (v := nI (pR (gt rs i) ||| pR (gt rs (i + 1)))) (r2 := (min (sF (gt rs (i + 1))) (sF (gt rs i)), max (sT (gt rs (i + 1))) (sT (gt rs i)), min (dF (gt rs (i + 1))) (dF (gt rs i)), max (dT (gt rs (i + 1))) (dT (gt rs i)), pR (gt rs i) ||| pR (gt rs (i + 1)), pM (gt rs i), hT (gt rs i))) e_g5 rfl (fun a ha hw => by rcases (show a = 0 ∨ a = 1 ∨ a = 2 ∨ a = 3 ∨ a = 4 ∨ a = 5 ∨ a = 6 by omega) with rfl | rfl | rfl | rfl | rfl | rfl | rfl <;> first | rfl | exact absurd rfl hw)
          have hoff := offp_upd hoff e_g5 (by decide)
          refine lv_aload_n hx hb dX3_merges_197 rfl (lv_at hl 1 rfl) ?_
          refine nr_get (C := RX3) (T := TX3) (N := 10) (ci := 3) S (fun _ h => List.mem_cons_of_mem _ (List.mem_append_right _ (h))) hK hP 0 rfl rfl 2 (by decide) (List.mem_of_getElem? (i := 1) rfl) rfl dX3_merges_198 ?_
          refine lv_iload_n hx hb dX3_merges_201 rfl (lv_at hl 0 rfl) ?_
          refine lv_bipush (v := (nI (6))) hx hb dX3_merges_202 (by decide +kernel) ?_
          refine nr_iadd hx hb dX3_merges_204 ?_
          refine lv_dup2_11 hx hb dX3_merges_205 rfl rfl ?_
          refine nr_iald (n := 112) (f := g5) S hK hP 1 rfl (by omega) (by decide) dX3_merges_206 ?_
          refine nr_top (y := (hT (gt rs i))) (hrow 6 (by decide)) ?_
          refine lv_aload_n hx hb dX3_merges_207 rfl (lv_at hl 1 rfl) ?_
          refine nr_get (C := RX3) (T := TX3) (N := 10) (ci := 3) S (fun _ h => List.mem_cons_of_mem _ (List.mem_append_right _ (h))) hK hP 0 rfl rfl 7 (by decide) (List.mem_of_getElem? (i := 2) rfl) rfl dX3_merges_208 ?_
          refine lv_bipush (v := (nI (6))) hx hb dX3_merges_211 (by decide +kernel) ?_
          refine nr_iald (n := 7) (f := ca) S hK hP 3 rfl (by omega) (by decide) dX3_merges_213 ?_
          refine nr_top (y := (hT (gt rs (i + 1)))) (hca 6 (by decide)) ?_
          refine lv_iadd hx hb dX3_merges_214 ?_
          refine nr_iast (n := 112) (f := g5) (x := (((hT (gt rs i)) + (hT (gt rs (i + 1)))))) S hK hP hD hS 1 rfl (by omega) (by decide) dX3_merges_215 (fun H locs hP hD hS => ?_)
          have hP : va_P D aCl (wM Y A (th) (nI ((rs.eraseIdx (i + 1)).length)) (mi) (ju) (lo) (upd g5 ((7 * i) + 6) (((hT (gt rs i)) + (hT (gt rs (i + 1)))))) bf ca bg sz) H := hP
          have hD : va_D AA (wM Y A (th) (nI ((rs.eraseIdx (i + 1)).length)) (mi) (ju) (lo) (upd g5 ((7 * i) + 6) (((hT (gt rs i)) + (hT (gt rs (i + 1)))))) bf ca bg sz) := hD
          obtain ⟨g6, e_g6⟩ : ∃ z : Nat → Int32, z = (upd g5 ((7 * i) + 6) (((hT (gt rs i)) + (hT (gt rs (i + 1)))))) := ⟨_, rfl⟩
          rw [← e_g6] at hP hD
          have hrow := rowp_upd hrow (w := 6) (v := hT (gt rs i) + hT (gt rs (i + 1))) (r2 := (min (sF (gt rs (i + 1))) (sF (gt rs i)), max (sT (gt rs (i + 1))) (sT (gt rs i)), min (dF (gt rs (i + 1))) (dF (gt rs i)), max (dT (gt rs (i + 1))) (dT (gt rs i)), pR (gt rs i) ||| pR (gt rs (i + 1)), pM (gt rs i), hT (gt rs i) + hT (gt rs (i + 1)))) e_g6 rfl (fun a ha hw => by rcases (show a = 0 ∨ a = 1 ∨ a = 2 ∨ a = 3 ∨ a = 4 ∨ a = 5 ∨ a = 6 by omega) with rfl | rfl | rfl | rfl | rfl | rfl | rfl <;> first | rfl | exact absurd rfl hw)
          have hoff := offp_upd hoff e_g6 (by decide)
          exact hE _ _ _ _ dX3_merges_216 (⟨g6, ca, mrep_row hf (by rw [len_erase hi]; omega) (mgV_ok h1 h2) hrow hoff, hca, by unfold mgL; rw [List.length_set]; exact hP⟩) hS
        · refine nr_icmp_le (tgt := 171) hx hb (by unfold rvOk at h1 h2; omega) (by unfold rvOk at h1 h2; omega) dX3_merges_159 (by decide) (fun c_159 => ?_) (fun c_159 => ?_)
          · refine lv_aload_n hx hb dX3_merges_171 rfl (lv_at hl 1 rfl) ?_
            refine nr_get (C := RX3) (T := TX3) (N := 10) (ci := 3) S (fun _ h => List.mem_cons_of_mem _ (List.mem_append_right _ (h))) hK hP 0 rfl rfl 2 (by decide) (List.mem_of_getElem? (i := 1) rfl) rfl dX3_merges_172 ?_
            refine lv_iload_n hx hb dX3_merges_175 rfl (lv_at hl 0 rfl) ?_
            refine lv_iconst (v := (nI (3))) hx hb dX3_merges_176 (by decide +kernel) ?_
            refine nr_iadd hx hb dX3_merges_177 ?_
            refine nr_iald (n := 112) (f := g3) S hK hP 1 rfl (by omega) (by decide) dX3_merges_178 ?_
            refine nr_top (y := (nI (dT (gt rs i)))) (hrow 3 (by decide)) ?_
            refine nr_top (y := (nI (max (dT (gt rs (i + 1))) (dT (gt rs i))))) (congrArg nI (Nat.max_eq_right c_159).symm) ?_
            exact J4 ls (lv_sub hl [0, 1, 2] rfl)
          · refine lv_aload_n hx hb dX3_merges_162 rfl (lv_at hl 1 rfl) ?_
            refine nr_get (C := RX3) (T := TX3) (N := 10) (ci := 3) S (fun _ h => List.mem_cons_of_mem _ (List.mem_append_right _ (h))) hK hP 0 rfl rfl 7 (by decide) (List.mem_of_getElem? (i := 2) rfl) rfl dX3_merges_163 ?_
            refine lv_iconst (v := (nI (3))) hx hb dX3_merges_166 (by decide +kernel) ?_
            refine nr_iald (n := 7) (f := ca) S hK hP 3 rfl (by omega) (by decide) dX3_merges_167 ?_
            refine nr_top (y := (nI (dT (gt rs (i + 1))))) (hca 3 (by decide)) ?_
            refine lv_goto (tgt := 179) hx hb dX3_merges_168 (by decide) ?_
            refine nr_top (y := (nI (max (dT (gt rs (i + 1))) (dT (gt rs i))))) (congrArg nI (Nat.max_eq_left (Nat.le_of_lt c_159)).symm) ?_
            exact J4 ls (lv_sub hl [0, 1, 2] rfl)
      · refine nr_icmp_ge (tgt := 129) hx hb (by unfold rvOk at h1 h2; omega) (by unfold rvOk at h1 h2; omega) dX3_merges_117 (by decide) (fun c_117 => ?_) (fun c_117 => ?_)
        · refine lv_aload_n hx hb dX3_merges_129 rfl (lv_at hl 1 rfl) ?_
          refine nr_get (C := RX3) (T := TX3) (N := 10) (ci := 3) S (fun _ h => List.mem_cons_of_mem _ (List.mem_append_right _ (h))) hK hP 0 rfl rfl 2 (by decide) (List.mem_of_getElem? (i := 1) rfl) rfl dX3_merges_130 ?_
          refine lv_iload_n hx hb dX3_merges_133 rfl (lv_at hl 0 rfl) ?_
          refine lv_iconst (v := (nI (2))) hx hb dX3_merges_134 (by decide +kernel) ?_
          refine nr_iadd hx hb dX3_merges_135 ?_
          refine nr_iald (n := 112) (f := g2) S hK hP 1 rfl (by omega) (by decide) dX3_merges_136 ?_
          refine nr_top (y := (nI (dF (gt rs i)))) (hrow 2 (by decide)) ?_
          refine nr_top (y := (nI (min (dF (gt rs (i + 1))) (dF (gt rs i))))) (congrArg nI (Nat.min_eq_right c_117).symm) ?_
          exact J3 ls (lv_sub hl [0, 1, 2] rfl)
        · refine lv_aload_n hx hb dX3_merges_120 rfl (lv_at hl 1 rfl) ?_
          refine nr_get (C := RX3) (T := TX3) (N := 10) (ci := 3) S (fun _ h => List.mem_cons_of_mem _ (List.mem_append_right _ (h))) hK hP 0 rfl rfl 7 (by decide) (List.mem_of_getElem? (i := 2) rfl) rfl dX3_merges_121 ?_
          refine lv_iconst (v := (nI (2))) hx hb dX3_merges_124 (by decide +kernel) ?_
          refine nr_iald (n := 7) (f := ca) S hK hP 3 rfl (by omega) (by decide) dX3_merges_125 ?_
          refine nr_top (y := (nI (dF (gt rs (i + 1))))) (hca 2 (by decide)) ?_
          refine lv_goto (tgt := 137) hx hb dX3_merges_126 (by decide) ?_
          refine nr_top (y := (nI (min (dF (gt rs (i + 1))) (dF (gt rs i))))) (congrArg nI (Nat.min_eq_left (Nat.le_of_lt c_117)).symm) ?_
          exact J3 ls (lv_sub hl [0, 1, 2] rfl)
    · refine nr_icmp_le (tgt := 87) hx hb (by unfold rvOk at h1 h2; omega) (by unfold rvOk at h1 h2; omega) dX3_merges_75 (by decide) (fun c_75 => ?_) (fun c_75 => ?_)
      · refine lv_aload_n hx hb dX3_merges_87 rfl (lv_at hl 1 rfl) ?_
        refine nr_get (C := RX3) (T := TX3) (N := 10) (ci := 3) S (fun _ h => List.mem_cons_of_mem _ (List.mem_append_right _ (h))) hK hP 0 rfl rfl 2 (by decide) (List.mem_of_getElem? (i := 1) rfl) rfl dX3_merges_88 ?_
        refine lv_iload_n hx hb dX3_merges_91 rfl (lv_at hl 0 rfl) ?_
        refine lv_iconst (v := (nI (1))) hx hb dX3_merges_92 (by decide +kernel) ?_
        refine nr_iadd hx hb dX3_merges_93 ?_
        refine nr_iald (n := 112) (f := g1) S hK hP 1 rfl (by omega) (by decide) dX3_merges_94 ?_
        refine nr_top (y := (nI (sT (gt rs i)))) (hrow 1 (by decide)) ?_
        refine nr_top (y := (nI (max (sT (gt rs (i + 1))) (sT (gt rs i))))) (congrArg nI (Nat.max_eq_right c_75).symm) ?_
        exact J2 ls (lv_sub hl [0, 1, 2] rfl)
      · refine lv_aload_n hx hb dX3_merges_78 rfl (lv_at hl 1 rfl) ?_
        refine nr_get (C := RX3) (T := TX3) (N := 10) (ci := 3) S (fun _ h => List.mem_cons_of_mem _ (List.mem_append_right _ (h))) hK hP 0 rfl rfl 7 (by decide) (List.mem_of_getElem? (i := 2) rfl) rfl dX3_merges_79 ?_
        refine lv_iconst (v := (nI (1))) hx hb dX3_merges_82 (by decide +kernel) ?_
        refine nr_iald (n := 7) (f := ca) S hK hP 3 rfl (by omega) (by decide) dX3_merges_83 ?_
        refine nr_top (y := (nI (sT (gt rs (i + 1))))) (hca 1 (by decide)) ?_
        refine lv_goto (tgt := 95) hx hb dX3_merges_84 (by decide) ?_
        refine nr_top (y := (nI (max (sT (gt rs (i + 1))) (sT (gt rs i))))) (congrArg nI (Nat.max_eq_left (Nat.le_of_lt c_75)).symm) ?_
        exact J2 ls (lv_sub hl [0, 1, 2] rfl)
  · refine nr_icmp_ge (tgt := 45) hx hb (by unfold rvOk at h1 h2; omega) (by unfold rvOk at h1 h2; omega) dX3_merges_33 (by decide) (fun c_33 => ?_) (fun c_33 => ?_)
    · refine lv_aload_n hx hb dX3_merges_45 rfl (lv_at hl 1 rfl) ?_
      refine nr_get (C := RX3) (T := TX3) (N := 10) (ci := 3) S (fun _ h => List.mem_cons_of_mem _ (List.mem_append_right _ (h))) hK hP 0 rfl rfl 2 (by decide) (List.mem_of_getElem? (i := 1) rfl) rfl dX3_merges_46 ?_
      refine lv_iload_n hx hb dX3_merges_49 rfl (lv_at hl 0 rfl) ?_
      refine lv_iconst (v := (nI (0))) hx hb dX3_merges_50 (by decide +kernel) ?_
      refine nr_iadd hx hb dX3_merges_51 ?_
      refine nr_iald (n := 112) (f := f) S hK hP 1 rfl (by omega) (by decide) dX3_merges_52 ?_
      refine nr_top (y := (nI (sF (gt rs i)))) (hrow 0 (by decide)) ?_
      refine nr_top (y := (nI (min (sF (gt rs (i + 1))) (sF (gt rs i))))) (congrArg nI (Nat.min_eq_right c_33).symm) ?_
      exact J1 ls (lv_sub hl [0, 1, 2] rfl)
    · refine lv_aload_n hx hb dX3_merges_36 rfl (lv_at hl 1 rfl) ?_
      refine nr_get (C := RX3) (T := TX3) (N := 10) (ci := 3) S (fun _ h => List.mem_cons_of_mem _ (List.mem_append_right _ (h))) hK hP 0 rfl rfl 7 (by decide) (List.mem_of_getElem? (i := 2) rfl) rfl dX3_merges_37 ?_
      refine lv_iconst (v := (nI (0))) hx hb dX3_merges_40 (by decide +kernel) ?_
      refine nr_iald (n := 7) (f := ca) S hK hP 3 rfl (by omega) (by decide) dX3_merges_41 ?_
      refine nr_top (y := (nI (sF (gt rs (i + 1))))) (hca 0 (by decide)) ?_
      refine lv_goto (tgt := 53) hx hb dX3_merges_42 (by decide) ?_
      refine nr_top (y := (nI (min (sF (gt rs (i + 1))) (sF (gt rs i))))) (congrArg nI (Nat.min_eq_left (Nat.le_of_lt c_33)).symm) ?_
      exact J1 ls (lv_sub hl [0, 1, 2] rfl)
set_option maxHeartbeats 4000000 in
set_option maxRecDepth 100000 in
theorem k_X3_isShortened (l : Launch) {D : va_G} {Y : Nat → ClassId} {A : Nat → Nat} {th mi ju lo : Int32} {f bf ca bg sz : Nat → Int32} {rs : List RV}  (hf : mrep rs f) : MuI l yX3_isShortened wsX3_isShortened 6 D Y [.ref (A 0)] (wM Y A (th) (nI (rs.length)) (mi) (ju) (lo) f bf ca bg sz) (mdB D Y A th mi ju lo (stS rs).1) (bI (stS rs).2) := by
  refine MuI.start (cc := cX3_isShortened) (maxL := 2) (rt := .boolean) (by decide) rfl (Nat.le_of_ble_eq_true rfl) ?_
  intro p e s m args below meth c ls AA H0 H locs Q S hK hP hD hS hl hE
  have S : CallFix p m c cX3_isShortened 2 s args wsX3_isShortened RX3 := S
  have hx := S.1
  have hb := S.2.1
  have hts := S.2.2.2.2
  have hl : lv_has ls 2 [(0, .ref (A 0))] := hl
  have hn := hf.1.1
  refine lv_aload_n hx hb dX3_isShortened_0 rfl (lv_at hl 0 rfl) ?_
  refine nr_get (C := RX3) (T := TX3) (N := 10) (ci := 3) S (fun _ h => List.mem_cons_of_mem _ (List.mem_append_right _ (h))) hK hP 0 rfl rfl 1 (by decide) (List.mem_of_getElem? (i := 1) rfl) rfl dX3_isShortened_1 ?_
  refine lv_iconst (v := (nI (1))) hx hb dX3_isShortened_4 (by decide +kernel) ?_
  refine lv_isub hx hb dX3_isShortened_5 ?_
  refine lv_istore_n (lv' := [(1, .int (((nI (rs.length)) - (nI (1))))), (0, .ref (A 0))]) hx hb dX3_isShortened_6 rfl hl (by decide) rfl (fun ls hl => ?_)
  have loop_7 : ∀ (fu_7 : Nat) (x : Int32) (z : Nat), (z ≤ rs.length) → (x = nI z - nI 1) → (lstN (ndB rs) rs.length = lstN (ndB rs) z) → z < fu_7 → ∀ (H : Heap) (locs : List Loc), va_P D aCl (wM Y A (th) (nI (rs.length)) (mi) (ju) (lo) f bf ca bg sz) H → va_S AA H0 H locs → ∀ ls : Array Slot, lv_has ls 2 [(1, .int (x)), (0, .ref (A 0))] → W p l e (rmN 6) s m args below meth c H locs 0 0 Q (F0 m 7 ls []) := by
    intro fu_7
    induction fu_7 with
    | zero => exact fun x z _ _ _ hk => absurd hk (Nat.not_lt_zero _)
    | succ fu_7 ih_7 =>
      intro x z g1 g2 g3 hk_7 H locs hP hS ls hl
      have hD : va_D AA (wM Y A (th) (nI (rs.length)) (mi) (ju) (lo) f bf ca bg sz) := va_D.same hD rfl
      refine lv_iload_n hx hb dX3_isShortened_7 rfl (lv_at hl 0 rfl) ?_
      refine lv_if_lt (tgt := 32) hx hb dX3_isShortened_8 (by decide) (fun c_8 => ?_) (fun c_8 => ?_)
      · have hz : z = 0 := Nat.le_zero.mp ((nI_lts (b := 0) (by omega) (by omega)).mp (by rw [← g2]; exact c_8))
        have hz0 : lstN (ndB rs) rs.length = 0 := by rw [g3, hz]; rfl
        refine lv_iconst (v := (nI (0))) hx hb dX3_isShortened_32 (by decide +kernel) ?_
        refine lv_istore_n (lv' := [(1, .int (nI (0))), (0, .ref (A 0))]) hx hb dX3_isShortened_33 rfl hl (by decide) rfl (fun ls hl => ?_)
        have loop_34 : ∀ (fu_34 : Nat) (i : Nat), (i ≤ rs.length - 1) → (∀ j, j < i → mgB (gt rs j) (gt rs (j + 1)) = false) → rs.length - i < fu_34 → ∀ (H : Heap) (locs : List Loc), va_P D aCl (wM Y A (th) (nI (rs.length)) (mi) (ju) (lo) f bf ca bg sz) H → va_S AA H0 H locs → ∀ ls : Array Slot, lv_has ls 2 [(1, .int (nI (i))), (0, .ref (A 0))] → W p l e (rmN 6) s m args below meth c H locs 0 0 Q (F0 m 34 ls []) := by
          intro fu_34
          induction fu_34 with
          | zero => exact fun i _ _ hk => absurd hk (Nat.not_lt_zero _)
          | succ fu_34 ih_34 =>
            intro i e1 e2 hk_34 H locs hP hS ls hl
            have hD : va_D AA (wM Y A (th) (nI (rs.length)) (mi) (ju) (lo) f bf ca bg sz) := va_D.same hD rfl
            refine lv_iload_n hx hb dX3_isShortened_34 rfl (lv_at hl 0 rfl) ?_
            refine lv_aload_n hx hb dX3_isShortened_35 rfl (lv_at hl 1 rfl) ?_
            refine nr_get (C := RX3) (T := TX3) (N := 10) (ci := 3) S (fun _ h => List.mem_cons_of_mem _ (List.mem_append_right _ (h))) hK hP 0 rfl rfl 1 (by decide) (List.mem_of_getElem? (i := 1) rfl) rfl dX3_isShortened_36 ?_
            refine lv_iconst (v := (nI (1))) hx hb dX3_isShortened_39 (by decide +kernel) ?_
            refine lv_isub hx hb dX3_isShortened_40 ?_
            refine lv_icmp_ge (tgt := 65) hx hb dX3_isShortened_41 (by decide) (fun c_41 => ?_) (fun c_41 => ?_)
            · have hil : rs.length ≤ i + 1 := (nI_les (by omega) (by omega)).mp c_41
              have hfm : fmg rs = rs.length - 1 := fstN_eq (fun j hj => e2 j (by omega)) (rs.length - 1) (Nat.le_refl _) (Or.inl rfl)
              refine lv_iconst (v := (nI (0))) hx hb dX3_isShortened_65 (by decide +kernel) ?_
              exact hE _ _ _ _ _ dX3_isShortened_66 (rfl) (bI_f (by rw [stS_no hz0 hfm])) (by rw [stS_no hz0 hfm]; exact ⟨f, bf, ca, bg, sz, hf, hP⟩) hS
            · have hi : i + 1 < rs.length := Nat.lt_of_not_le (fun q => c_41 ((nI_les (by omega) (by omega)).mpr q))
              refine lv_aload_n hx hb dX3_isShortened_44 rfl (lv_at hl 1 rfl) ?_
              refine lv_iload_n hx hb dX3_isShortened_45 rfl (lv_at hl 0 rfl) ?_
              refine Rd.callV (r := (bI (mgB (gt rs (i)) (gt rs (i + 1))))) (As := [.int (nI (i))]) S (k_X3_isMergeable l hP hf (i := i) (by omega)) (cwV 1 hts gX3_isShortened_X3_isMergeable rfl rfl rfl (by decide +kernel) ⟨Nat.le_of_ble_eq_true rfl, Nat.le_of_ble_eq_true rfl⟩) hK (va_recv hK.1 hP (ci := 3) (q0 := 0) rfl rfl) rfl hl.1 rfl (Nat.le_of_ble_eq_true rfl) dX3_isShortened_46 ⟨Nat.zero_le _, Nat.zero_le _⟩ ?_
              refine nr_ifB_eq (tgt := 59) hx hb dX3_isShortened_49 (by decide) (fun c_49 => ?_) (fun c_49 => ?_)
              · refine lv_iinc (v := (nI (i + 1))) (lv' := [(1, .int (nI (i + 1))), (0, .ref (A 0))]) hx hb dX3_isShortened_59 hl (k := 0) rfl (nI_add _ _) (by decide) rfl (fun ls hl => ?_)
                refine lv_goto (tgt := 34) hx hb dX3_isShortened_62 (by decide) ?_
                exact ih_34 (i + 1) (by omega) (lt_s e2 c_49) (by omega) _ _ hP hS ls (lv_sub hl [0, 1] rfl)
              · have hfm : fmg rs = i := fstN_eq e2 (rs.length - 1) (by omega) (Or.inr c_49)
                refine lv_aload_n hx hb dX3_isShortened_52 rfl (lv_at hl 1 rfl) ?_
                refine lv_iload_n hx hb dX3_isShortened_53 rfl (lv_at hl 0 rfl) ?_
                refine MuV.callV (As := [.int (nI (i))]) S (k_X3_merges l hf (i := i) hi) (cwV 1 hts gX3_isShortened_X3_merges rfl rfl rfl (by decide +kernel) ⟨Nat.le_of_ble_eq_true rfl, Nat.le_of_ble_eq_true rfl⟩) hK hP hD hS (va_recv hK.1 hP (ci := 3) (q0 := 0) rfl rfl) rfl hl.1 rfl (Nat.le_of_ble_eq_true rfl) dX3_isShortened_54 ⟨Nat.zero_le _, Nat.zero_le _⟩ (fun H locs hB hS _ hkp => ?_)
                obtain ⟨f, ca, hf, hca, hP⟩ := hB
                have hD : va_D AA (wM Y A (th) (nI ((mgL rs (i)).length)) (mi) (ju) (lo) f bf ca bg sz) := va_D.same hD rfl
                refine lv_iconst (v := (nI (1))) hx hb dX3_isShortened_57 (by decide +kernel) ?_
                exact hE _ _ _ _ _ dX3_isShortened_58 (rfl) (bI_t (by rw [stS_mg hz0 hfm (by omega)])) (by rw [stS_mg hz0 hfm (by omega)]; exact ⟨f, bf, ca, bg, sz, hf, hP⟩) hS
        exact loop_34 _ (0) (Nat.zero_le _) (fun _ hj => absurd hj (Nat.not_lt_zero _)) (Nat.lt_succ_self _) _ _ hP hS ls (lv_sub hl [0, 1] rfl)
      · have c_8 : 0 < z := Nat.lt_of_not_le (fun q => c_8 (by rw [g2]; exact (nI_lts (b := 0) (by omega) (by omega)).mpr q))
        obtain ⟨k0, rfl⟩ : ∃ k0, z = k0 + 1 := ⟨z - 1, by omega⟩
        have g2 : x = nI k0 := by rw [g2, pk_sub (by omega), Nat.add_sub_cancel]
        subst g2
        refine lv_aload_n hx hb dX3_isShortened_11 rfl (lv_at hl 1 rfl) ?_
        refine lv_iload_n hx hb dX3_isShortened_12 rfl (lv_at hl 0 rfl) ?_
        refine Rd.callV (r := (bI (ndB rs (k0)))) (As := [.int (nI (k0))]) S (k_X3_isNeedless l hP hf (pl := k0) (by omega)) (cwV 1 hts gX3_isShortened_X3_isNeedless rfl rfl rfl (by decide +kernel) ⟨Nat.le_of_ble_eq_true rfl, Nat.le_of_ble_eq_true rfl⟩) hK (va_recv hK.1 hP (ci := 3) (q0 := 0) rfl rfl) rfl hl.1 rfl (Nat.le_of_ble_eq_true rfl) dX3_isShortened_13 ⟨Nat.zero_le _, Nat.zero_le _⟩ ?_
        refine nr_ifB_eq (tgt := 26) hx hb dX3_isShortened_16 (by decide) (fun c_16 => ?_) (fun c_16 => ?_)
        · refine lv_iinc (v := (nI k0 - nI 1)) (lv' := [(1, .int (nI k0 - nI 1)), (0, .ref (A 0))]) hx hb dX3_isShortened_26 hl (k := 0) rfl (m1_sub _) (by decide) rfl (fun ls hl => ?_)
          refine lv_goto (tgt := 7) hx hb dX3_isShortened_29 (by decide) ?_
          exact ih_7 ((nI k0 - nI 1)) (k0) (by omega) (rfl) (by rw [g3]; exact lstN_go c_16) (by omega) _ _ hP hS ls (lv_sub hl [0, 1] rfl)
        · refine lv_aload_n hx hb dX3_isShortened_19 rfl (lv_at hl 1 rfl) ?_
          refine lv_iload_n hx hb dX3_isShortened_20 rfl (lv_at hl 0 rfl) ?_
          refine MuV.callV (As := [.int (nI (k0))]) S (k_X3_takesOut l hf (pl := k0) (by omega)) (cwV 1 hts gX3_isShortened_X3_takesOut rfl rfl rfl (by decide +kernel) ⟨Nat.le_of_ble_eq_true rfl, Nat.le_of_ble_eq_true rfl⟩) hK hP hD hS (va_recv hK.1 hP (ci := 3) (q0 := 0) rfl rfl) rfl hl.1 rfl (Nat.le_of_ble_eq_true rfl) dX3_isShortened_21 ⟨Nat.zero_le _, Nat.zero_le _⟩ (fun H locs hB hS _ hkp => ?_)
          obtain ⟨f, ca, hf, hca, hP⟩ := hB
          have hD : va_D AA (wM Y A (th) (nI ((rs.eraseIdx (k0)).length)) (mi) (ju) (lo) f bf ca bg sz) := va_D.same hD rfl
          refine lv_iconst (v := (nI (1))) hx hb dX3_isShortened_24 (by decide +kernel) ?_
          exact hE _ _ _ _ _ dX3_isShortened_25 (rfl) (bI_t (by rw [stS_nd (g3.trans (lstN_hit c_16))])) (by rw [stS_nd (g3.trans (lstN_hit c_16))]; exact ⟨f, bf, ca, bg, sz, hf, hP⟩) hS
  exact loop_7 _ ((((nI (rs.length)) - (nI (1))))) (rs.length) (Nat.le_refl _) (rfl) (rfl) (Nat.lt_succ_self _) _ _ hP hS ls (lv_sub hl [0, 1] rfl)
set_option maxHeartbeats 4000000 in
set_option maxRecDepth 100000 in
theorem k_X3_shorten (l : Launch) {D : va_G} {Y : Nat → ClassId} {A : Nat → Nat} {th mi ju lo : Int32} {f bf ca bg sz : Nat → Int32} {rs : List RV}  (hf : mrep rs f) : MuI l yX3_shorten wsX3_shorten 7 D Y [.ref (A 0)] (wM Y A (th) (nI (rs.length)) (mi) (ju) (lo) f bf ca bg sz) (mdB D Y A (nI 0) mi ju lo (itS rs.length rs).1) (nI (itS rs.length rs).2) := by
  refine MuI.start (cc := cX3_shorten) (maxL := 2) (rt := .int) (by decide) rfl (Nat.le_of_ble_eq_true rfl) ?_
  intro p e s m args below meth c ls AA H0 H locs Q S hK hP hD hS hl hE
  have S : CallFix p m c cX3_shorten 2 s args wsX3_shorten RX3 := S
  have hx := S.1
  have hb := S.2.1
  have hts := S.2.2.2.2
  have hl : lv_has ls 2 [(0, .ref (A 0))] := hl
  refine lv_aload_n hx hb dX3_shorten_0 rfl (lv_at hl 0 rfl) ?_
  refine lv_iconst (v := (nI (0))) hx hb dX3_shorten_1 (by decide +kernel) ?_
  refine nr_put (C := RX3) (T := TX3) (N := 10) (ci := 3) (v := .int (nI (0))) S (fun _ h => List.mem_cons_of_mem _ (List.mem_append_right _ (h))) tyX3 tyX3_ok nmX3 hK hP hD hS 0 rfl rfl 0 (by decide) (List.mem_of_getElem? (i := 1) rfl) rfl rfl rfl (Nat.le_of_ble_eq_true rfl) dX3_shorten_2 (fun H locs hP hD hS => ?_)
  have hP : va_P D aCl (wM Y A (nI (0)) (nI (rs.length)) (mi) (ju) (lo) f bf ca bg sz) H := hP
  have hD : va_D AA (wM Y A (nI (0)) (nI (rs.length)) (mi) (ju) (lo) f bf ca bg sz) := hD
  refine lv_iconst (v := (nI (0))) hx hb dX3_shorten_5 (by decide +kernel) ?_
  refine lv_istore_n (lv' := [(1, .int (nI (0))), (0, .ref (A 0))]) hx hb dX3_shorten_6 rfl hl (by decide) rfl (fun ls hl => ?_)
  have loop_7 : ∀ (fu_7 : Nat) (n : Nat) (rsc : List RV) (f1 : Nat → Int32) (bf1 : Nat → Int32) (ca1 : Nat → Int32) (bg1 : Nat → Int32) (sz1 : Nat → Int32), (mrep rsc f1) → (n + (itS rsc.length rsc).2 = (itS rs.length rs).2) → ((itS rsc.length rsc).1 = (itS rs.length rs).1) → rsc.length < fu_7 → ∀ (H : Heap) (locs : List Loc), va_P D aCl (wM Y A (nI (0)) (nI ((rsc).length)) (mi) (ju) (lo) f1 bf1 ca1 bg1 sz1) H → va_S AA H0 H locs → ∀ ls : Array Slot, lv_has ls 2 [(1, .int (nI (n))), (0, .ref (A 0))] → W p l e (rmN 7) s m args below meth c H locs 0 0 Q (F0 m 7 ls []) := by
    intro fu_7
    induction fu_7 with
    | zero => exact fun n rsc f1 bf1 ca1 bg1 sz1 _ _ _ hk => absurd hk (Nat.not_lt_zero _)
    | succ fu_7 ih_7 =>
      intro n rsc f1 bf1 ca1 bg1 sz1 h0 h1 h2 hk_7 H locs hP hS ls hl
      have hD : va_D AA (wM Y A (nI (0)) (nI ((rsc).length)) (mi) (ju) (lo) f1 bf1 ca1 bg1 sz1) := va_D.same hD rfl
      refine lv_aload_n hx hb dX3_shorten_7 rfl (lv_at hl 1 rfl) ?_
      refine MuI.callV (r := (bI ((stS rsc).2))) (As := []) S (k_X3_isShortened l (rs := rsc) h0) (cwV 0 hts gX3_shorten_X3_isShortened rfl rfl rfl (by decide +kernel) ⟨Nat.le_of_ble_eq_true rfl, Nat.le_of_ble_eq_true rfl⟩) hK hP hD hS (va_recv hK.1 hP (ci := 3) (q0 := 0) rfl rfl) rfl hl.1 rfl (Nat.le_of_ble_eq_true rfl) dX3_shorten_8 ⟨Nat.zero_le _, Nat.zero_le _⟩ (fun H locs hB hS _ hkp => ?_)
      obtain ⟨f, bf, ca, bg, sz, hf, hP⟩ := hB
      have hD : va_D AA (wM Y A (nI (0)) (nI (((stS rsc).1).length)) (mi) (ju) (lo) f bf ca bg sz) := va_D.same hD rfl
      refine nr_ifB_eq (tgt := 20) hx hb dX3_shorten_11 (by decide) (fun c_11 => ?_) (fun c_11 => ?_)
      · refine lv_iload_n hx hb dX3_shorten_20 rfl (lv_at hl 0 rfl) ?_
        exact hE _ _ _ _ _ dX3_shorten_21 (vp_nar_int _) (congrArg nI (by rw [itS_stop c_11] at h1; exact h1)) (⟨f, bf, ca, bg, sz, by rw [← h2, itS_stop c_11]; rw [stS_same c_11] at hf; exact hf, by rw [← h2, itS_stop c_11]; rw [stS_same c_11] at hP; exact hP⟩) hS
      · refine lv_iinc (v := (nI (n + 1))) (lv' := [(1, .int (nI (n + 1))), (0, .ref (A 0))]) hx hb dX3_shorten_14 hl (k := 0) rfl (nI_add _ _) (by decide) rfl (fun ls hl => ?_)
        refine lv_goto (tgt := 7) hx hb dX3_shorten_17 (by decide) ?_
        exact ih_7 (n + 1) ((stS rsc).1) (f) (bf) (ca) (bg) (sz) (hf) (by rw [← stS_len c_11, itS_go c_11] at h1; rw [← h1]; show n + 1 + _ = n + (_ + 1); omega) (by rw [← stS_len c_11, itS_go c_11] at h2; exact h2) (by have := stS_len c_11; omega) _ _ hP hS ls (lv_sub hl [0, 1] rfl)
  exact loop_7 _ (0) (rs) (f) (bf) (ca) (bg) (sz) (hf) (Nat.zero_add _) (rfl) (Nat.lt_succ_self _) _ _ hP hS ls (lv_sub hl [0, 1] rfl)
set_option maxHeartbeats 4000000 in
set_option maxRecDepth 100000 in
theorem k_X3_sortByHits (l : Launch) {D : va_G} {Y : Nat → ClassId} {A : Nat → Nat} {th mi ju lo : Int32} {f bf ca bg sz : Nat → Int32} {rs : List RV}  (hf : mrep rs f) : MuI l yX3_sortByHits wsX3_sortByHits 5 D Y [.ref (A 0)] (wM Y A (th) (nI (rs.length)) (mi) (ju) (lo) f bf ca bg sz) (mdB D Y A (nI 0) mi ju lo (sor rs).1) (nI (sor rs).2) := by
  refine MuI.start (cc := cX3_sortByHits) (maxL := 5) (rt := .int) (by decide) rfl (Nat.le_of_ble_eq_true rfl) ?_
  intro p e s m args below meth c ls AA H0 H locs Q S hK hP hD hS hl hE
  have S : CallFix p m c cX3_sortByHits 5 s args wsX3_sortByHits RX3 := S
  have hx := S.1
  have hb := S.2.1
  have hts := S.2.2.2.2
  have hl : lv_has ls 5 [(0, .ref (A 0))] := hl
  have hn := hf.1.1
  refine lv_aload_n hx hb dX3_sortByHits_0 rfl (lv_at hl 0 rfl) ?_
  refine lv_iconst (v := (nI (0))) hx hb dX3_sortByHits_1 (by decide +kernel) ?_
  refine nr_put (C := RX3) (T := TX3) (N := 10) (ci := 3) (v := .int (nI (0))) S (fun _ h => List.mem_cons_of_mem _ (List.mem_append_right _ (h))) tyX3 tyX3_ok nmX3 hK hP hD hS 0 rfl rfl 0 (by decide) (List.mem_of_getElem? (i := 1) rfl) rfl rfl rfl (Nat.le_of_ble_eq_true rfl) dX3_sortByHits_2 (fun H locs hP hD hS => ?_)
  have hP : va_P D aCl (wM Y A (nI (0)) (nI (rs.length)) (mi) (ju) (lo) f bf ca bg sz) H := hP
  have hD : va_D AA (wM Y A (nI (0)) (nI (rs.length)) (mi) (ju) (lo) f bf ca bg sz) := hD
  refine lv_iconst (v := (nI (0))) hx hb dX3_sortByHits_5 (by decide +kernel) ?_
  refine lv_istore_n (lv' := [(1, .int (nI (0))), (0, .ref (A 0))]) hx hb dX3_sortByHits_6 rfl hl (by decide) rfl (fun ls hl => ?_)
  refine lv_iconst (v := ((-1 : Int32))) hx hb dX3_sortByHits_7 (by decide +kernel) ?_
  refine lv_istore_n (lv' := [(2, .int ((-1 : Int32))), (1, .int (nI (0))), (0, .ref (A 0))]) hx hb dX3_sortByHits_8 rfl hl (by decide) rfl (fun ls hl => ?_)
  have loop_9 : ∀ (fu_9 : Nat) (n : Nat) (hd : Int32) (rsc : List RV) (f1 : Nat → Int32) (bf1 : Nat → Int32) (ca1 : Nat → Int32) (bg1 : Nat → Int32) (sz1 : Nat → Int32), (mrep rsc f1 ∧ rsc.length = rs.length ∧ n ≤ 240) → (hd < nI n → ∃ k, invR rsc < k ∧ n + (soF k rsc).2 = (sor rs).2 ∧ (soF k rsc).1 = (sor rs).1) → (¬ hd < nI n → n = (sor rs).2 ∧ rsc = (sor rs).1) → (n + invR rsc ≤ 240) → (if hd < nI n then 1 else 0) + invR rsc < fu_9 → ∀ (H : Heap) (locs : List Loc), va_P D aCl (wM Y A (nI (0)) (nI ((rsc).length)) (mi) (ju) (lo) f1 bf1 ca1 bg1 sz1) H → va_S AA H0 H locs → ∀ ls : Array Slot, lv_has ls 5 [(2, .int (hd)), (1, .int (nI (n))), (0, .ref (A 0))] → W p l e (rmN 5) s m args below meth c H locs 0 0 Q (F0 m 9 ls []) := by
    intro fu_9
    induction fu_9 with
    | zero => exact fun n hd rsc f1 bf1 ca1 bg1 sz1 _ _ _ _ hk => absurd hk (Nat.not_lt_zero _)
    | succ fu_9 ih_9 =>
      intro n hd rsc f1 bf1 ca1 bg1 sz1 h0 h1 h2 h3 hk_9 H locs hP hS ls hl
      have hD : va_D AA (wM Y A (nI (0)) (nI ((rsc).length)) (mi) (ju) (lo) f1 bf1 ca1 bg1 sz1) := va_D.same hD rfl
      refine lv_iload_n hx hb dX3_sortByHits_9 rfl (lv_at hl 1 rfl) ?_
      refine lv_iload_n hx hb dX3_sortByHits_10 rfl (lv_at hl 0 rfl) ?_
      refine lv_icmp_le (tgt := 111) hx hb dX3_sortByHits_11 (by decide) (fun c_11 => ?_) (fun c_11 => ?_)
      · refine lv_iload_n hx hb dX3_sortByHits_111 rfl (lv_at hl 1 rfl) ?_
        exact hE _ _ _ _ _ dX3_sortByHits_112 (vp_nar_int _) (congrArg nI (h2 (Int32.not_lt.mpr c_11)).1) (⟨f1, bf1, ca1, bg1, sz1, by rw [← (h2 (Int32.not_lt.mpr c_11)).2]; exact h0.1, by rw [← (h2 (Int32.not_lt.mpr c_11)).2]; exact hP⟩) hS
      · refine lv_iload_n hx hb dX3_sortByHits_14 rfl (lv_at hl 1 rfl) ?_
        refine lv_istore_n (lv' := [(2, .int (nI (n))), (1, .int (nI (n))), (0, .ref (A 0))]) hx hb dX3_sortByHits_15 rfl hl (by decide) rfl (fun ls hl => ?_)
        refine lv_iconst (v := (nI (0))) hx hb dX3_sortByHits_16 (by decide +kernel) ?_
        refine lv_istore_n (lv' := [(3, .int (nI (0))), (2, .int (nI (n))), (1, .int (nI (n))), (0, .ref (A 0))]) hx hb dX3_sortByHits_17 rfl hl (by decide) rfl (fun ls hl => ?_)
        have loop_18 : ∀ (fu_18 : Nat) (n2 : Nat) (i : Nat) (rsd : List RV) (f1d : Nat → Int32) (bf1d : Nat → Int32) (ca1d : Nat → Int32) (bg1d : Nat → Int32) (sz1d : Nat → Int32), (mrep rsd f1d ∧ i ≤ rsc.length - 1) → (rsd = (psN rsc i).1) → (n2 = n + (psN rsc i).2) → rsc.length - i < fu_18 → ∀ (H : Heap) (locs : List Loc), va_P D aCl (wM Y A (nI (0)) (nI ((rsd).length)) (mi) (ju) (lo) f1d bf1d ca1d bg1d sz1d) H → va_S AA H0 H locs → ∀ ls : Array Slot, lv_has ls 5 [(3, .int (nI (i))), (2, .int (nI (n))), (1, .int (nI (n2))), (0, .ref (A 0))] → W p l e (rmN 5) s m args below meth c H locs 0 0 Q (F0 m 18 ls []) := by
          intro fu_18
          induction fu_18 with
          | zero => exact fun n2 i rsd f1d bf1d ca1d bg1d sz1d _ _ _ hk => absurd hk (Nat.not_lt_zero _)
          | succ fu_18 ih_18 =>
            intro n2 i rsd f1d bf1d ca1d bg1d sz1d e0 e1 e2 hk_18 H locs hP hS ls hl
            have hD : va_D AA (wM Y A (nI (0)) (nI ((rsd).length)) (mi) (ju) (lo) f1d bf1d ca1d bg1d sz1d) := va_D.same hD rfl
            refine lv_iload_n hx hb dX3_sortByHits_18 rfl (lv_at hl 0 rfl) ?_
            refine lv_aload_n hx hb dX3_sortByHits_19 rfl (lv_at hl 3 rfl) ?_
            refine nr_get (C := RX3) (T := TX3) (N := 10) (ci := 3) S (fun _ h => List.mem_cons_of_mem _ (List.mem_append_right _ (h))) hK hP 0 rfl rfl 1 (by decide) (List.mem_of_getElem? (i := 2) rfl) rfl dX3_sortByHits_20 ?_
            refine lv_iconst (v := (nI (1))) hx hb dX3_sortByHits_23 (by decide +kernel) ?_
            refine lv_isub hx hb dX3_sortByHits_24 ?_
            refine lv_icmp_ge (tgt := 108) hx hb dX3_sortByHits_25 (by decide) (fun c_25 => ?_) (fun c_25 => ?_)
            · have hf := e0.1
              have hld : rsd.length = rsc.length := by
                rw [e1]
                by_cases hq : 0 < rsc.length
                · exact psN_len i (by omega)
                · rw [show i = 0 from by omega]
                  rfl
              have hil : rsd.length ≤ i + 1 := (nI_les (by omega) (by omega)).mp c_25
              have hpas : psN rsc i = pas rsc := by unfold pas; rw [show i = rsc.length - 1 from by omega]
              rw [hpas] at e1 e2
              subst e1
              have hfe := hf
              have hle : (pas rsc).1.length = rs.length := by rw [pas_len]; exact h0.2.1
              have hpi := pas_inv rsc
              have hso := h1 (Int32.not_le.mp c_11)
              obtain ⟨kq, hk1, hk2, hk3⟩ := hso
              obtain ⟨kr, rfl⟩ : ∃ kr, kq = kr + 1 := ⟨kq - 1, by omega⟩
              have hb1 : nI n < nI n2 → ∃ k, invR (pas rsc).1 < k ∧ n2 + (soF k (pas rsc).1).2 = (sor rs).2 ∧ (soF k (pas rsc).1).1 = (sor rs).1 := fun hlt => by
                have hc : (pas rsc).2 ≠ 0 := fun z => by rw [e2, z] at hlt; exact absurd hlt (Int32.lt_irrefl)
                rw [soF_n hc] at hk2 hk3
                exact ⟨kr, by omega, by rw [e2, ← hk2]; show n + (pas rsc).2 + _ = n + ((pas rsc).2 + _); omega, hk3⟩
              have hb2 : ¬ nI n < nI n2 → n2 = (sor rs).2 ∧ (pas rsc).1 = (sor rs).1 := fun hlt => by
                have hc : (pas rsc).2 = 0 := by
                  rw [nI_ltI (by omega) (by omega)] at hlt
                  omega
                rw [soF_0 hc] at hk2 hk3
                exact ⟨by rw [e2, hc, ← hk2], hk3⟩
              have hb3 : (if nI n < nI n2 then 1 else 0) + invR (pas rsc).1 < fu_9 := by
                rw [if_pos (Int32.not_le.mp c_11)] at hk_9
                by_cases hlt : nI n < nI n2
                · rw [if_pos hlt]
                  rw [nI_ltI (by omega) (by omega)] at hlt
                  omega
                · rw [if_neg hlt]
                  omega
              refine lv_goto (tgt := 9) hx hb dX3_sortByHits_108 (by decide) ?_
              exact ih_9 (n2) ((nI (n))) ((pas rsc).1) (f1d) (bf1d) (ca1d) (bg1d) (sz1d) (⟨hfe, hle, by omega⟩) (hb1) (hb2) (by omega) (hb3) _ _ hP hS ls (lv_sub hl [1, 2, 3] rfl)
            · have hld : rsd.length = rsc.length := by
                rw [e1]
                by_cases hq : 0 < rsc.length
                · exact psN_len i (by omega)
                · rw [show i = 0 from by omega]
                  rfl
              have hi : i + 1 < rsd.length := Nat.lt_of_not_le (fun q => c_25 ((nI_les (by omega) (by omega)).mpr q))
              have hf := e0.1
              refine lv_aload_n hx hb dX3_sortByHits_28 rfl (lv_at hl 3 rfl) ?_
              refine lv_iload_n hx hb dX3_sortByHits_29 rfl (lv_at hl 0 rfl) ?_
              refine lv_iconst (v := (nI (5))) hx hb dX3_sortByHits_30 (by decide +kernel) ?_
              refine Rd.callV (r := (nI (bN (pM (gt rsd (i)))))) (As := [.int (nI (i)), .int (nI (5))]) S (k_ofR l (rs := rsd) hP hf (i := i) (w := 5) (by omega) (by omega)) (cwV 2 hts gX3_sortByHits_X3_of rfl rfl rfl (by decide +kernel) ⟨Nat.le_of_ble_eq_true rfl, Nat.le_of_ble_eq_true rfl⟩) hK (va_recv hK.1 hP (ci := 3) (q0 := 0) rfl rfl) rfl hl.1 rfl (Nat.le_of_ble_eq_true rfl) dX3_sortByHits_31 ⟨Nat.zero_le _, Nat.zero_le _⟩ ?_
              refine lv_aload_n hx hb dX3_sortByHits_34 rfl (lv_at hl 3 rfl) ?_
              refine lv_iload_n hx hb dX3_sortByHits_35 rfl (lv_at hl 0 rfl) ?_
              refine lv_iconst (v := (nI (1))) hx hb dX3_sortByHits_36 (by decide +kernel) ?_
              refine nr_iadd hx hb dX3_sortByHits_37 ?_
              refine lv_iconst (v := (nI (5))) hx hb dX3_sortByHits_38 (by decide +kernel) ?_
              refine Rd.callV (r := (nI (bN (pM (gt rsd (i + 1)))))) (As := [.int (nI (i + 1)), .int (nI (5))]) S (k_ofR l (rs := rsd) hP hf (i := i + 1) (w := 5) (by omega) (by omega)) (cwV 2 hts gX3_sortByHits_X3_of rfl rfl rfl (by decide +kernel) ⟨Nat.le_of_ble_eq_true rfl, Nat.le_of_ble_eq_true rfl⟩) hK (va_recv hK.1 hP (ci := 3) (q0 := 0) rfl rfl) rfl hl.1 rfl (Nat.le_of_ble_eq_true rfl) dX3_sortByHits_39 ⟨Nat.zero_le _, Nat.zero_le _⟩ ?_
              refine nr_join (pc' := 61) (n := 5) (L := [(3, .int (nI (i))), (2, .int (nI (n))), (1, .int (nI (n2))), (0, .ref (A 0))]) (st' := [.int (bI ((decide (bN (pM (gt rsd i)) = bN (pM (gt rsd (i + 1)))) || decide (cmN (gt rsd i) (gt rsd (i + 1)) = 0))))]) (fun ls hl => ?_) (fun J1 => ?_)
              · refine lv_istore (lv' := [(4, .int (bI ((decide (bN (pM (gt rsd i)) = bN (pM (gt rsd (i + 1)))) || decide (cmN (gt rsd i) (gt rsd (i + 1)) = 0))))), (3, .int (nI (i))), (2, .int (nI (n))), (1, .int (nI (n2))), (0, .ref (A 0))]) hx hb dX3_sortByHits_61 hl (by decide) rfl (fun ls hl => ?_)
                refine lv_aload_n hx hb dX3_sortByHits_63 rfl (lv_at hl 4 rfl) ?_
                refine lv_iload_n hx hb dX3_sortByHits_64 rfl (lv_at hl 1 rfl) ?_
                refine lv_iconst (v := (nI (1))) hx hb dX3_sortByHits_65 (by decide +kernel) ?_
                refine nr_iadd hx hb dX3_sortByHits_66 ?_
                refine lv_bipush (v := (nI (6))) hx hb dX3_sortByHits_67 (by decide +kernel) ?_
                refine Rd.callV (r := (hT (gt rsd (i + 1)))) (As := [.int (nI (i + 1)), .int (nI (6))]) S (k_ofR l (rs := rsd) hP hf (i := i + 1) (w := 6) (by omega) (by omega)) (cwV 2 hts gX3_sortByHits_X3_of rfl rfl rfl (by decide +kernel) ⟨Nat.le_of_ble_eq_true rfl, Nat.le_of_ble_eq_true rfl⟩) hK (va_recv hK.1 hP (ci := 3) (q0 := 0) rfl rfl) rfl hl.1 rfl (Nat.le_of_ble_eq_true rfl) dX3_sortByHits_69 ⟨Nat.zero_le _, Nat.zero_le _⟩ ?_
                refine lv_aload_n hx hb dX3_sortByHits_72 rfl (lv_at hl 4 rfl) ?_
                refine lv_iload_n hx hb dX3_sortByHits_73 rfl (lv_at hl 1 rfl) ?_
                refine lv_bipush (v := (nI (6))) hx hb dX3_sortByHits_74 (by decide +kernel) ?_
                refine Rd.callV (r := (hT (gt rsd (i)))) (As := [.int (nI (i)), .int (nI (6))]) S (k_ofR l (rs := rsd) hP hf (i := i) (w := 6) (by omega) (by omega)) (cwV 2 hts gX3_sortByHits_X3_of rfl rfl rfl (by decide +kernel) ⟨Nat.le_of_ble_eq_true rfl, Nat.le_of_ble_eq_true rfl⟩) hK (va_recv hK.1 hP (ci := 3) (q0 := 0) rfl rfl) rfl hl.1 rfl (Nat.le_of_ble_eq_true rfl) dX3_sortByHits_76 ⟨Nat.zero_le _, Nat.zero_le _⟩ ?_
                refine lv_icmp_le (tgt := 102) hx hb dX3_sortByHits_79 (by decide) (fun c_79 => ?_) (fun c_79 => ?_)
                · have hsw : swB rsd i = false := by unfold swB; first | (rw [decide_eq_false (Int32.not_lt.mpr c_79)]; rfl) | (rw [c_84, Bool.and_false])
                  refine lv_iinc (v := (nI (i + 1))) (lv' := [(3, .int (nI (i + 1))), (4, .int (bI ((decide (bN (pM (gt rsd i)) = bN (pM (gt rsd (i + 1)))) || decide (cmN (gt rsd i) (gt rsd (i + 1)) = 0))))), (2, .int (nI (n))), (1, .int (nI (n2))), (0, .ref (A 0))]) hx hb dX3_sortByHits_102 hl (k := 1) rfl (nI_add _ _) (by decide) rfl (fun ls hl => ?_)
                  refine lv_goto (tgt := 18) hx hb dX3_sortByHits_105 (by decide) ?_
                  exact ih_18 (n2) (i + 1) (rsd) (f1d) (bf1d) (ca1d) (bg1d) (sz1d) (⟨hf, by omega⟩) (by rw [psN_f (e1 ▸ hsw)]; exact e1) (by rw [psN_f (e1 ▸ hsw)]; exact e2) (by omega) _ _ hP hS ls (lv_sub hl [0, 2, 3, 4] rfl)
                · refine lv_iload hx hb dX3_sortByHits_82 (lv_at hl 0 rfl) ?_
                  refine nr_ifB_eq (tgt := 102) hx hb dX3_sortByHits_84 (by decide) (fun c_84 => ?_) (fun c_84 => ?_)
                  · have hsw : swB rsd i = false := by unfold swB; first | (rw [decide_eq_false (Int32.not_lt.mpr c_79)]; rfl) | (rw [c_84, Bool.and_false])
                    refine lv_iinc (v := (nI (i + 1))) (lv' := [(3, .int (nI (i + 1))), (4, .int (bI ((decide (bN (pM (gt rsd i)) = bN (pM (gt rsd (i + 1)))) || decide (cmN (gt rsd i) (gt rsd (i + 1)) = 0))))), (2, .int (nI (n))), (1, .int (nI (n2))), (0, .ref (A 0))]) hx hb dX3_sortByHits_102 hl (k := 1) rfl (nI_add _ _) (by decide) rfl (fun ls hl => ?_)
                    refine lv_goto (tgt := 18) hx hb dX3_sortByHits_105 (by decide) ?_
                    exact ih_18 (n2) (i + 1) (rsd) (f1d) (bf1d) (ca1d) (bg1d) (sz1d) (⟨hf, by omega⟩) (by rw [psN_f (e1 ▸ hsw)]; exact e1) (by rw [psN_f (e1 ▸ hsw)]; exact e2) (by omega) _ _ hP hS ls (lv_sub hl [0, 2, 3, 4] rfl)
                  · have hsw : swB rsd i = true := by unfold swB; rw [decide_eq_true (Int32.not_le.mp c_79), c_84]; rfl
                    have hod := hf.1.2
                    have hn2 := hf.1.1
                    refine lv_aload_n hx hb dX3_sortByHits_87 rfl (lv_at hl 4 rfl) ?_
                    refine lv_iload_n hx hb dX3_sortByHits_88 rfl (lv_at hl 1 rfl) ?_
                    refine MuV.callV (As := [.int (nI (i))]) S (k_X3_takesOut l (rs := rsd) hf (pl := i) (by omega)) (cwV 1 hts gX3_sortByHits_X3_takesOut rfl rfl rfl (by decide +kernel) ⟨Nat.le_of_ble_eq_true rfl, Nat.le_of_ble_eq_true rfl⟩) hK hP hD hS (va_recv hK.1 hP (ci := 3) (q0 := 0) rfl rfl) rfl hl.1 rfl (Nat.le_of_ble_eq_true rfl) dX3_sortByHits_89 ⟨Nat.zero_le _, Nat.zero_le _⟩ (fun H locs hB hS _ hkp => ?_)
                    obtain ⟨f, ca, hf, hca, hP⟩ := hB
                    have hD : va_D AA (wM Y A (nI (0)) (nI ((rsd.eraseIdx i).length)) (mi) (ju) (lo) f bf1d ca bg1d sz1d) := va_D.same hD rfl
                    refine lv_aload_n hx hb dX3_sortByHits_92 rfl (lv_at hl 4 rfl) ?_
                    refine lv_iload_n hx hb dX3_sortByHits_93 rfl (lv_at hl 1 rfl) ?_
                    refine lv_iconst (v := (nI (1))) hx hb dX3_sortByHits_94 (by decide +kernel) ?_
                    refine nr_iadd hx hb dX3_sortByHits_95 ?_
                    refine MuV.callV (As := [.int (nI (i + 1))]) S (k_X3_putsIn l (rs := rsd.eraseIdx i) (r := gt rsd i) hf (pl := i + 1) (by rw [len_erase (by omega)]; omega) (hod i (by omega)) (by rw [len_erase (by omega)]; omega) hca) (cwV 1 hts gX3_sortByHits_X3_putsIn rfl rfl rfl (by decide +kernel) ⟨Nat.le_of_ble_eq_true rfl, Nat.le_of_ble_eq_true rfl⟩) hK hP hD hS (va_recv hK.1 hP (ci := 3) (q0 := 0) rfl rfl) rfl hl.1 rfl (Nat.le_of_ble_eq_true rfl) dX3_sortByHits_96 ⟨Nat.zero_le _, Nat.zero_le _⟩ (fun H locs hB hS _ hkp => ?_)
                    obtain ⟨f, ca, hf, hca, hP⟩ := hB
                    have hD : va_D AA (wM Y A (nI (0)) (nI ((swL rsd i).length)) (mi) (ju) (lo) f bf1d ca bg1d sz1d) := va_D.same hD rfl
                    refine lv_iinc (v := (nI (n2 + 1))) (lv' := [(1, .int (nI (n2 + 1))), (4, .int (bI ((decide (bN (pM (gt rsd i)) = bN (pM (gt rsd (i + 1)))) || decide (cmN (gt rsd i) (gt rsd (i + 1)) = 0))))), (3, .int (nI (i))), (2, .int (nI (n))), (0, .ref (A 0))]) hx hb dX3_sortByHits_99 hl (k := 3) rfl (nI_add _ _) (by decide) rfl (fun ls hl => ?_)
                    refine lv_iinc (v := (nI (i + 1))) (lv' := [(3, .int (nI (i + 1))), (1, .int (nI (n2 + 1))), (4, .int (bI ((decide (bN (pM (gt rsd i)) = bN (pM (gt rsd (i + 1)))) || decide (cmN (gt rsd i) (gt rsd (i + 1)) = 0))))), (2, .int (nI (n))), (0, .ref (A 0))]) hx hb dX3_sortByHits_102 hl (k := 2) rfl (nI_add _ _) (by decide) rfl (fun ls hl => ?_)
                    refine lv_goto (tgt := 18) hx hb dX3_sortByHits_105 (by decide) ?_
                    exact ih_18 (n2 + 1) (i + 1) (swL rsd i) (f) (bf1d) (ca) (bg1d) (sz1d) (⟨hf, by omega⟩) (by rw [psN_t (e1 ▸ hsw), e1]) (by rw [psN_t (e1 ▸ hsw), e2]; rfl) (by omega) _ _ hP hS ls (lv_sub hl [0, 3, 1, 4] rfl)
              · refine nr_icmp_eq (tgt := 56) hx hb (Nat.lt_trans (bN_lt _) (by decide)) (Nat.lt_trans (bN_lt _) (by decide)) dX3_sortByHits_42 (by decide) (fun c_42 => ?_) (fun c_42 => ?_)
                · refine lv_iconst (v := (nI (1))) hx hb dX3_sortByHits_56 (by decide +kernel) ?_
                  refine lv_goto (tgt := 61) hx hb dX3_sortByHits_57 (by decide) ?_
                  refine nr_top (y := (bI ((decide (bN (pM (gt rsd i)) = bN (pM (gt rsd (i + 1)))) || decide (cmN (gt rsd i) (gt rsd (i + 1)) = 0))))) (bI_t (by first | (rw [decide_eq_true c_42]; rfl) | (rw [decide_eq_true c_53, Bool.or_true]))) ?_
                  exact J1 ls (lv_sub hl [0, 1, 2, 3] rfl)
                · refine lv_aload_n hx hb dX3_sortByHits_45 rfl (lv_at hl 3 rfl) ?_
                  refine lv_iload_n hx hb dX3_sortByHits_46 rfl (lv_at hl 0 rfl) ?_
                  refine lv_iload_n hx hb dX3_sortByHits_47 rfl (lv_at hl 0 rfl) ?_
                  refine lv_iconst (v := (nI (1))) hx hb dX3_sortByHits_48 (by decide +kernel) ?_
                  refine nr_iadd hx hb dX3_sortByHits_49 ?_
                  refine Rd.callV (r := (nI (cmN (gt rsd (i)) (gt rsd (i + 1))))) (As := [.int (nI (i)), .int (nI (i + 1))]) S (k_X3_common l (rs := rsd) hP hf (i := i) (j := i + 1) (by omega) (by omega)) (cwV 2 hts gX3_sortByHits_X3_common rfl rfl rfl (by decide +kernel) ⟨Nat.le_of_ble_eq_true rfl, Nat.le_of_ble_eq_true rfl⟩) hK (va_recv hK.1 hP (ci := 3) (q0 := 0) rfl rfl) rfl hl.1 rfl (Nat.le_of_ble_eq_true rfl) dX3_sortByHits_50 ⟨Nat.zero_le _, Nat.zero_le _⟩ ?_
                  refine nr_if_ne (tgt := 60) hx hb (cmN_lt _ _) dX3_sortByHits_53 (by decide) (fun c_53 => ?_) (fun c_53 => ?_)
                  · refine lv_iconst (v := (nI (0))) hx hb dX3_sortByHits_60 (by decide +kernel) ?_
                    refine nr_top (y := (bI ((decide (bN (pM (gt rsd i)) = bN (pM (gt rsd (i + 1)))) || decide (cmN (gt rsd i) (gt rsd (i + 1)) = 0))))) (bI_f (by rw [decide_eq_false c_42, decide_eq_false (Nat.ne_of_gt c_53)]; rfl)) ?_
                    exact J1 ls (lv_sub hl [0, 1, 2, 3] rfl)
                  · refine lv_iconst (v := (nI (1))) hx hb dX3_sortByHits_56 (by decide +kernel) ?_
                    refine lv_goto (tgt := 61) hx hb dX3_sortByHits_57 (by decide) ?_
                    refine nr_top (y := (bI ((decide (bN (pM (gt rsd i)) = bN (pM (gt rsd (i + 1)))) || decide (cmN (gt rsd i) (gt rsd (i + 1)) = 0))))) (bI_t (by first | (rw [decide_eq_true c_42]; rfl) | (rw [decide_eq_true c_53, Bool.or_true]))) ?_
                    exact J1 ls (lv_sub hl [0, 1, 2, 3] rfl)
        exact loop_18 _ (n) (0) (rsc) (f1) (bf1) (ca1) (bg1) (sz1) (⟨h0.1, Nat.zero_le _⟩) (rfl) (rfl) (Nat.lt_succ_self _) _ _ hP hS ls (lv_sub hl [0, 1, 2, 3] rfl)
  exact loop_9 _ (0) (((-1 : Int32))) (rs) (f) (bf) (ca) (bg) (sz) (⟨hf, rfl, by omega⟩) (fun _ => ⟨241, by have := invR_le hn; omega, Nat.zero_add _, rfl⟩) (fun q => absurd (show (-1 : Int32) < nI 0 by decide +kernel) q) (by have := invR_le hn; omega) (Nat.lt_succ_self _) _ _ hP hS ls (lv_sub hl [0, 1, 2] rfl)
