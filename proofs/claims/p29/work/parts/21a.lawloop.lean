/-! the law's loop -/
set_option maxHeartbeats 4000000 in
set_option maxRecDepth 100000 in
theorem law_loop {p : Program} {l : Launch} {e : Env} {s : State} {m : MethodId} {below : List Frame} {meth : Method} {c : Code} {b L : Nat} {xs : Nat → Int32} {D : va_G} {Y : Nat → ClassId} {t0 la x na la2 x2 na2 : Nat} (hEn : LEn l p s m meth c b L xs D Y t0) : ∀ (n k : Nat), 73 - k < n → k ≤ 72 → ∀ (d0 : Drawn) (ju mi lo : Int32) (rs : List RV) (H : Heap) (locs : List Loc) (ls : Array Slot), s.drawn.sameBut d0 lw_cs → Tw D Y t0 s.heap.size la x na la2 x2 na2 ju mi lo rs ju mi lo rs H → JL ju lo k → va_S (bigA s) s.heap H locs → lv_has ls 8 [(0, .ref b), (1, .ref x), (2, .ref x2), (3, .int (nI k))] → lwW p l e s m below meth c b d0 H locs (100 + 400 * k) (1000 + 1200 * k) (F0 m 18 ls []) := by
  intro n
  induction n with
  | zero => exact fun k h => absurd h (Nat.not_lt_zero _)
  | succ n ih =>
    intro k hn hk d0 ju mi lo rs H locs ls hd0 hT hJ hS hl
    have hEn2 := hEn
    obtain ⟨C0, hK0, hE0, hlt, hL⟩ := hEn2
    obtain ⟨hx, hb, hr, hml, hown, hts0, hXs, hbl, hlocks, hgv⟩ := id C0
    refine lv_iload_n hx hb dL_law_18 rfl (lv_at hl 3 rfl) ?_
    refine lv_bipush (v := nI 72) hx hb dL_law_19 (by decide +kernel) ?_
    refine nr_icmp_ge (tgt := 234) hx hb (by omega) (by omega) dL_law_21 (by decide) (fun ck => ?_) (fun ck => ?_)
    · exact lc_234 hEn (cells := 100 + 400 * k) (slots := 1000 + 1200 * k) (by omega) (by omega) d0 ju mi lo rs H locs ls hd0 hT (hJ.up (by omega)) hS (lv_sub hl [0, 1, 2] rfl)
    · have hN228 : ∀ v, LC p l e s m below meth c b D Y t0 la x na la2 x2 na2 228 k v (100 + 400 * (k + 1)) (1000 + 1200 * (k + 1)) := by
        intro v d0 ju mi lo rs H locs ls hd0 hT hJ hS hl
        refine lv_iinc (v := nI (k + 1)) (lv' := [(3, .int (nI (k + 1))), (0, .ref b), (1, .ref x), (2, .ref x2), (4, .int v)]) hx hb dL_law_228 hl (k := 3) rfl (nI_add _ _) (by decide) rfl (fun ls hl => ?_)
        refine lv_goto (tgt := 18) hx hb dL_law_231 (by decide) ?_
        exact ih (k + 1) (by omega) (by omega) d0 ju mi lo rs H locs ls hd0 hT hJ hS (lv_sub hl [1, 2, 3, 0] rfl)
      refine lc_24 hEn ck (cells := 100 + 400 * k) (slots := 1000 + 1200 * k) (by omega) (by omega) (fun v => ?_) d0 ju mi lo rs H locs ls hd0 hT hJ hS hl
      refine lc_57 hEn ck (by omega) (by omega) ?_
      refine lc_72 hEn ck (by omega) (by omega) ?_
      refine lc_88 hEn ck (by omega) (by omega) ?_
      refine lc_109 hEn ck (by omega) (by omega) ?_
      refine lc_155 hEn ck (by omega) (by omega) ?_
      intro d0 ju mi lo rs H locs ls hd0 hT hJ hS hl
      refine W.widen (k := 100 + 400 * (k + 1)) (n := 1000 + 1200 * (k + 1)) (by omega) (by omega) ?_
      exact hN228 v d0 ju mi lo rs H locs ls hd0 hT hJ hS hl
