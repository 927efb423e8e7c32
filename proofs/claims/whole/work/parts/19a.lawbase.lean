/-! the law: its state, its rows -/
theorem KK.drawn {D : va_G} {Y : Nat → ClassId} {s : State} (h : KK D Y s) (d : Drawn) : KK D Y (s.setDrawn d) := KK.warm (U := s.setDrawn d) (State.WarmedH.refl s) h
theorem eZ.narrow {t0 : Nat} {A B : Nat → Prop} {U : State} (h : eZ t0 A U) (hAB : ∀ q, B q → A q) : eZ t0 B U := ⟨h.1.narrow hAB, h.2.narrow hAB⟩
abbrev bigA (s : State) : Nat → Prop := fun q => s.heap.size ≤ q
theorem eL.use {t0 : Nat} {s U : State} {F F' : Nat → Prop} {H : Heap} {locs : List Loc} (h : eL t0 (bigA s) (bigA s) s) (hS : va_S (bigA s) s.heap H locs) (hW : s.WarmedH U.vm) (hU : U.heap = H) (hF : ∀ q, F q → bigA s q) (hF' : ∀ q, F' q → bigA s q) : eL t0 F F' U :=
  ⟨(eZ_go h.1 hS hW hU).narrow hF, by rw [hU]; exact ((eX.warm hW h.2.1).kept hS.2.1).narrow hF', va_Nc.moved hW.alike h.2.2.1, va_Nc.moved hW.alike h.2.2.2.1, va_Nc.moved hW.alike h.2.2.2.2⟩
/-- where things lie: the class's cells (F), the reference's (A 0 .. A 5), the row o -/
def Fx (F : Nat → Prop) (A : Nat → Nat) (o sz : Nat) : Prop := ¬ F o ∧ (∀ i, i < 6 → ¬ F (A i) ∧ A i ≠ o ∧ sz ≤ A i) ∧ (∀ i j, i < 6 → j < 6 → A i = A j → i = j) ∧ (∀ q, F q → sz ≤ q) ∧ sz ≤ o
theorem wM_at {Y : Nat → ClassId} {A : Nat → Nat} {th n mi ju lo : Int32} {f bf ca bg sz : Nat → Int32} (k : Nat) (q : Nat × va_E) (h : (wM Y A th n mi ju lo f bf ca bg sz)[k]? = some q) : k < 6 ∧ q.1 = A k := by
  match k, h with
  | 0, h => cases h; exact ⟨by decide, rfl⟩
  | 1, h => cases h; exact ⟨by decide, rfl⟩
  | 2, h => cases h; exact ⟨by decide, rfl⟩
  | 3, h => cases h; exact ⟨by decide, rfl⟩
  | 4, h => cases h; exact ⟨by decide, rfl⟩
  | 5, h => cases h; exact ⟨by decide, rfl⟩
  | k + 6, h => simp at h
theorem wM_D {F : Nat → Prop} {Y : Nat → ClassId} {A : Nat → Nat} {o z : Nat} (hx : Fx F A o z) (th n mi ju lo : Int32) (f bf ca bg sz : Nat → Int32) : va_D (fun q => z ≤ q) (wM Y A th n mi ju lo f bf ca bg sz) := by
  refine ⟨fun i j p q hi hj e => ?_, fun k q hk => ?_⟩
  · obtain ⟨h1, h2⟩ := wM_at i p hi
    obtain ⟨h3, h4⟩ := wM_at j q hj
    exact hx.2.2.1 i j h1 h3 (by rw [← h2, ← h4]; exact e)
  · obtain ⟨h1, h2⟩ := wM_at k q hk
    show z ≤ q.1
    rw [h2]
    exact (hx.2.1 k h1).2.2
theorem wM_adr {Y : Nat → ClassId} {A : Nat → Nat} {th n mi ju lo : Int32} {f bf ca bg sz : Nat → Int32} {q : Nat} (h : adr (wM Y A th n mi ju lo f bf ca bg sz) q) : ∃ i, i < 6 ∧ q = A i := by
  obtain ⟨k, e, hk⟩ := h
  obtain ⟨h1, h2⟩ := wM_at k _ hk
  exact ⟨k, h1, h2⟩
theorem mdB.kept {D : va_G} {Y : Nat → ClassId} {A : Nat → Nat} {th mi ju lo : Int32} {rs : List RV} {H H1 : Heap} (h : mdB D Y A th mi ju lo rs H) (hq : ∀ i, i < 6 → A i < H.size → H1[A i]? = H[A i]?) : mdB D Y A th mi ju lo rs H1 := by
  obtain ⟨f, bf, ca, bg, sz, hf, hP⟩ := h
  refine ⟨f, bf, ca, bg, sz, hf, hP.kept (fun k q hk => ?_)⟩
  obtain ⟨h1, h2⟩ := wM_at k q hk
  have h3 := vx_lt hP hk
  rw [h2] at h3 ⊢
  exact hq k h1 h3
/-- both sides hold the same; the row is there; what will be made is the class's -/
def LwS (D : va_G) (Y : Nat → ClassId) (F : Nat → Prop) (t0 la x na o : Nat) (A : Nat → Nat) (ju mi lo : Int32) (rs : List RV) (H : Heap) : Prop := CS D Y F t0 la x na ju mi lo rs H ∧ (∃ th, mdB D Y A th mi ju lo rs H) ∧ (∃ w, oB D Y o w H) ∧ ∀ q, H.size ≤ q → F q
/-- what holds of the law's run all along -/
def LEn (l : Launch) (p : Program) (s : State) (m : MethodId) (meth : Method) (c : Code) (b L : Nat) (xs : Nat → Int32) (D : va_G) (Y : Nat → ClassId) (F : Nat → Prop) (t0 o : Nat) (A : Nat → Nat) : Prop := lw_At p s m meth c b L xs ∧ KK D Y s ∧ eL t0 (bigA s) (bigA s) s ∧ Fx F A o s.heap.size ∧ l.stackTraces = false ∧ L ≤ 3584
abbrev lwW (p : Program) (l : Launch) (e : Env) (s : State) (m : MethodId) (below : List Frame) (meth : Method) (c : Code) (b : Nat) (d0 : Drawn) (H : Heap) (locs : List Loc) (cells slots : Nat) (g : JFrame) : Prop := W p l e room_1 (s.setDrawn d0) m #[Value.ref b] below meth c H locs cells slots (lw_Z below #[Value.ref b] s) g
abbrev lwL (b x a0 o : Nat) (i : Nat) : List (Nat × Value) := [(0, .ref b), (1, .ref x), (2, .ref a0), (3, .ref o), (4, .int (nI i))]
/-- at the end of a call -/
def LNx (p : Program) (l : Launch) (e : Env) (s : State) (m : MethodId) (below : List Frame) (meth : Method) (c : Code) (b : Nat) (D : va_G) (Y : Nat → ClassId) (F : Nat → Prop) (t0 la x na o : Nat) (A : Nat → Nat) (i cells slots : Nat) : Prop :=
  ∀ (d0 : Drawn) (ju mi lo : Int32) (rs : List RV) (H : Heap) (locs : List Loc) (ls : Array Slot), s.drawn.sameBut d0 lw_cs → LwS D Y F t0 la x na o A ju mi lo rs H → va_S (bigA s) s.heap H locs → lv_has ls 9 (lwL b x (A 0) o i) → lwW p l e s m below meth c b d0 H locs cells slots (F0 m 1554 ls [])
theorem lg_cmp_self (x : Int64) : lg_cmp x x = 0 := (lg_cmp_eq x x).mpr rfl
section LAWR
variable {p : Program} {l : Launch} {e : Env} {R : Room} {s : State} {m : MethodId} {args : Array Value} {below : List Frame} {meth : Method} {c : Code} {H : Heap} {locs : List Loc} {cells slots : Nat} {Q : State → Prop} {cc : ByteArray} {pc : Nat} {ls : Array Slot} {rest : List Value}
variable {y : MethodName} {ws : List Cond} {d mc ms index n nL : Nat} {D : va_G} {Y : Nat → ClassId} {As st : List Value} {b : Addr} {own C : String} {Ts : List Cond} {bytes : ByteArray} {maxL : Nat} {ret : Option FieldType} {A F : Nat → Prop} {H0 : Heap} {o : Nat} {w : Int64} {E : State → Prop}
theorem UC.callSW {hh : List (Nat × Nat × Nat × Nat)} {B : Option Value → Heap → Prop} (S : CallFix p m c cc nL s args Ts own) (hM : UC l y ws d mc ms D Y E As H F B) (cw : vx_CSW R s args own index y bytes maxL ret hh ws (rmG d mc ms) mc ms n) (hK : KK D Y s) (hEb : Ebl E) (hEs : ∀ U : State, s.WarmedH U.vm → U.heap = H → E U) (hS : va_S A H0 H locs) (hF : ∀ q, F q → A q) (hn : As.length = n) (hsize : ls.size = nL) (hst : st = As.reverse ++ rest) (hcat : (rest.map fun v => v.category).sum ≤ 8) (hdg : decode cc pc = .ok (.invokestatic index, 3)) (hf : cells + mc ≤ R.cells ∧ slots + ms ≤ R.slots)
    (k : ∀ (v : Option Value) (H1 : Heap) (locs1 : List Loc), B v H1 → va_S A H0 H1 locs1 → H.size ≤ H1.size → (∀ q : Nat, q < H.size → ¬ F q → H1[q]? = H[q]?) → W p l e R s m args below meth c H1 locs1 (cells + mc) (slots + ms) Q (F0 m (pc + 3) ls (v.toList ++ rest))) : W p l e R s m args below meth c H locs cells slots Q (F0 m pc ls st) :=
  UC.run (vx_runSW (locs := locs) (cells := cells) (slots := slots) (g := F0 m pc ls st) (rest := rest) S hM cw ⟨UcP.blind hEb, fun U hU hW => ⟨rfl, ⟨hU, hEs U hW hU⟩, KK.warm hW hK⟩⟩ rfl hn hsize hst (lv_room hcat) hdg hf) hS hF k
/-- the script, read -/
theorem nr_sld {b L : Nat} {xs : Nat → Int32} (hx : p.tables.exec = Jvm.exec) (hb : c.code = cc) (hX : va_X b L xs s H0) (hbl : b < H0.size) (hbA : ¬ A b) (hS : va_S A H0 H locs) {j : Nat} (hj : j < L) (hL : L < 2 ^ 31) (hdg : decode cc pc = .ok (.iaload, 1))
    (kk : W p l e R s m args below meth c H locs cells slots Q (F0 m (pc + 1) ls (.int (xs j) :: rest))) : W p l e R s m args below meth c H locs cells slots Q (F0 m pc ls (.int (nI j) :: .ref b :: rest)) :=
  va_sld hx hb hX hbl hbA hS (vp_in_nI hj hL) hdg (by rw [nI_clamp (Nat.lt_trans hj hL)]; exact kk)
/-- laload out of the row of one long -/
theorem nr_lald0 (S : CallFix p m c cc nL s args Ts own) (hK : KK D Y s) (hO : oB D Y o w H) (hdg : decode cc pc = .ok (.laload, 1))
    (kk : W p l e R s m args below meth c H locs cells slots Q (F0 m (pc + 1) ls (.long w :: rest))) : W p l e R s m args below meth c H locs cells slots Q (F0 m pc ls (.int (nI 0) :: .ref o :: rest)) := by
  obtain ⟨g, e, hP⟩ := hO
  exact va_lald S.1 S.2.1 hK.1 hP 0 2 rfl rfl (vp_in_nI (by decide) (by decide)) hdg (by rw [nI_clamp (by decide), e]; exact kk)
/-- 'v != 0' as a truth -/
theorem nr_ne0 (hx : p.tables.exec = Jvm.exec) (hb : c.code = cc) {v : Int32} {off off2 : Int} {t j : Nat} (d0 : decode cc pc = .ok (.ifCond .eq off, 3)) (h0 : (pc : Int) + off = (t : Int)) (d1 : decode cc (pc + 3) = .ok (.iconst 1, 1)) (d2 : decode cc (pc + 3 + 1) = .ok (.goto off2, 3)) (h2 : ((pc + 3 + 1 : Nat) : Int) + off2 = (j : Int)) (d3 : decode cc t = .ok (.iconst 0, 1)) (h3 : t + 1 = j)
    (k : W p l e R s m args below meth c H locs cells slots Q (F0 m j ls (.int (bI (!decide (v = 0))) :: rest))) : W p l e R s m args below meth c H locs cells slots Q (F0 m pc ls (.int v :: rest)) := by
  refine lv_if_eq hx hb d0 h0 (fun h => ?_) (fun h => ?_)
  · refine lv_iconst (v := bI (!decide (v = 0))) hx hb d3 (by rw [decide_eq_true h]; decide +kernel) ?_
    rw [h3]
    exact k
  · refine lv_iconst (v := bI (!decide (v = 0))) hx hb d1 (by rw [decide_eq_false h]; decide +kernel) ?_
    exact lv_goto hx hb d2 h2 k
/-- a row of one long, made -/
theorem nr_newl {wl : va_W} (S : CallFix p m c cc nL s args Ts own) (harr : (Cond.arrayClass .long) ∈ Ts) (hK : KK D Y s) (hP : va_P D aCl wl H) (hD : va_D A wl) (hS : va_S A H0 H locs) (hA : ∀ q, H0.size ≤ q → A q) (hcells : cells + 1 ≤ R.cells) (hslots : slots + 1 ≤ R.slots) (hdg : decode cc pc = .ok (.newarray .long, 2))
    (kk : ∀ (q : Nat) (H1 : Heap), va_P D aCl (wl ++ [(q, .inl (Y 2, 1, .inr (.inl (fun _ => 0))))]) H1 → va_D A (wl ++ [(q, .inl (Y 2, 1, .inr (.inl (fun _ => 0))))]) → va_S A H0 H1 locs → W p l e R s m args below meth c H1 locs (cells + 1) (slots + 1) Q (F0 m (pc + 2) ls (.ref q :: rest))) : W p l e R s m args below meth c H locs cells slots Q (F0 m pc ls (.int (nI 1) :: rest)) := by
  refine va_newa (atype := .long) (ty := .long) (N' := 1) (a0 := (1, .inr (.inl (fun _ => 0)))) S.1 S.2.1 (S.2.2.2.2 _ harr) rfl hK.1 hP hD hS hA (fun cA => rfl) (nI_pos (by omega)) (nI_clamp (by omega)) (by show 1 * 8 ≤ 536870912; omega) hcells hslots hdg fun q cA H1 hK1 hP1 hD1 hS1 => ?_
  have h1 : s.vm.findClass "[J" = some cA := (hK1.2 3 (cA, .long) rfl).2
  have h2 : s.vm.findClass "[J" = some (Y 2) := (hK.1.2 2 (Y 2, .long) rfl).2
  obtain rfl := Option.some.inj (h1.symm.trans h2)
  exact kk q H1 hP1 hD1 hS1
end LAWR
