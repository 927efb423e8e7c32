/-! our own base: the classes of the worlds, what a state's tables are known to say, methods that only read, rows over numbers -/
abbrev aCl : List vw_C := [(RX0, TX0, 3), (RX1, TX1, 5), (RX2, TX2, 5), (RX2, TX2, 5), (RJx4a65c, TJx4a65c, 3)]
abbrev aTy (Y : Nat → ClassId) : List (ClassId × FieldType) := [(Y 0, .int), (Y 1, .object "java/lang/Object")]
def KN (U : State) : Prop := va_Nw (.methodLinkNest RX0 16 yX2_setOf "Aclsmith") U ∧ va_Nw (.methodLinkNest RX1 30 yX2_holds "Aclsmith") U ∧ va_Nw (.castable RX1 "java/lang/Object") U ∧ va_AO "java/lang/Object" U ∧ (∃ mi : Nat, va_Mi "[Ljava/lang/Object;" mi U) ∧ va_Dc U
def KK (D : va_G) (Y : Nat → ClassId) (U : State) : Prop := va_K D aCl (aTy Y) U ∧ KN U
theorem KK.warm {D : va_G} {Y : Nat → ClassId} {s U : State} (hW : s.WarmedH U.vm) (h : KK D Y s) : KK D Y U := ⟨va_K.moved hW.alike h.1, va_Nw.warmM hW h.2.1, va_Nw.warmM hW h.2.2.1, va_Nw.warmC hW h.2.2.2.1, va_AO.moved hW.alike h.2.2.2.2.1, h.2.2.2.2.2.1.imp (fun _ q => va_Mi.moved hW.alike q), va_Dc.moved hW.alike h.2.2.2.2.2.2⟩
theorem KK.calling {D : va_G} {Y : Nat → ClassId} {U : State} (g : JFrame) (mk : MethodId) (a : Array Value) (h : KK D Y U) : KK D Y (U.calling g mk a) :=
  ⟨va_K.moved (u := U) (U := U.calling g mk a) (Vm.Alike.refl U.vm) h.1, va_Nw.same rfl (rfl : U.vm = (U.calling g mk a).vm) h.2.1, va_Nw.same rfl (rfl : U.vm = (U.calling g mk a).vm) h.2.2.1, va_Nw.same rfl (rfl : U.vm = (U.calling g mk a).vm) h.2.2.2.1, va_AO.moved (u := U) (U := U.calling g mk a) (Vm.Alike.refl U.vm) h.2.2.2.2.1, h.2.2.2.2.2.1.imp (fun _ q => va_Mi.moved (u := U) (U := U.calling g mk a) (Vm.Alike.refl U.vm) q), va_Dc.moved (u := U) (U := U.calling g mk a) (Vm.Alike.refl U.vm) h.2.2.2.2.2.2⟩
/-- the room of a method under which d frames may stand -/
abbrev rmN (d : Nat) : Room := { frames := d, cells := 0, slots := 0, locals := 40 * d }
abbrev RdP (D : va_G) (Y : Nat → ClassId) (av : List Value) (H : Heap) : Array Value → State → Prop := va_Pc av (fun U => U.heap = H ∧ KK D Y U)
abbrev RdQ (H : Heap) (r : Int32) : Array Value → State → Outcome → State → Prop := va_Qi (fun (x : Int32) (_ : Unit) => x = r) (fun _ t => t.heap = H) (fun _ => False)
/-- a method that only reads, and answers the int r -/
def Rd (l : Launch) (y : MethodName) (ws : List Cond) (d : Nat) (D : va_G) (Y : Nat → ClassId) (av : List Value) (H : Heap) (r : Int32) : Prop := Met l y ws (rmN d) (RdP D Y av H) (RdQ H r) 0 0 (fun _ => False)
theorem RdP.blind {D : va_G} {Y : Nat → ClassId} {av : List Value} {H : Heap} : FrameBlind (RdP D Y av H) := fun a U g mk q => ⟨q.1, q.2.1, KK.calling g mk a q.2.2⟩
theorem Rd.start {l : Launch} {y : MethodName} {ws ws' : List Cond} {d : Nat} {D : va_G} {Y : Nat → ClassId} {av : List Value} {H : Heap} {r : Int32} {cc : ByteArray} {maxL : Nat} {rt : FieldType} (hy : plainName y.cls = true) (hw : ws = Cond.code y cc maxL (some rt) :: ws') (hn : (lg_sl av).length ≤ maxL)
    (body : ∀ (p : Program) (e : Env) (s : State) (m : MethodId) (args : Array Value) (below : List Frame) (meth : Method) (c : Code) (ls : Array Slot) (Q : State → Prop), CallFix p m c cc maxL s args ws y.cls → KK D Y s → lv_has ls maxL (lv_args 0 av) →
      (∀ (pc : Nat) (ls : Array Slot) (v : Int32), decode cc pc = .ok (.ireturn, 1) → narrow rt (.int v) = .int v → v = r → W p l e (rmN d) s m args below meth c H [] 0 0 Q (F0 m pc ls [.int v])) →
      W p l e (rmN d) s m args below meth c H [] 0 0 Q (F0 m 0 ls [])) : Rd l y ws d D Y av H r := by
  refine Met.ofW (cc := cc) (maxL := maxL) (ret := some rt) hy hw ?_
  intro p e s m args below meth c s₁ B hml hv
  obtain ⟨rfl, hH, hK⟩ := hv
  subst hH
  have hl := lv_entry av hn
  rw [lg_entry_eq]
  refine body p e s m _ below meth c _ _ ⟨B.exec, B.bytes, hml, findClass_of_methodNamed B.named, atoms_spec (ws := ws) B.pre⟩ hK hl ?_
  intro pc ls v hdg hty hvr
  exact W.zret B.exec B.bytes B.returns hty (fun t ht _ => ⟨⟨v, (), rfl, hvr, ht⟩, Nat.le_of_eq (by rw [ht]), fun q _ _ => by rw [ht]⟩) (fun q h => absurd h List.not_mem_nil) hdg B.notSynchronized
section RDS
variable {p : Program} {l : Launch} {e : Env} {R : Room} {s : State} {m : MethodId} {args : Array Value} {below : List Frame} {meth : Method} {c : Code} {H : Heap} {locs : List Loc} {cells slots : Nat} {Q : State → Prop} {cc : ByteArray} {pc : Nat} {ls : Array Slot} {rest : List Value}
theorem Rd.run {r : Int32} {a : Array Value} {st : List Value} (hr : va_Run p l e R s m args below meth c H locs cells slots 0 0 (F0 m pc ls st) rest (RdQ H r a) (fun _ => False)) (k : W p l e R s m args below meth c H locs cells slots Q (F0 m (pc + 3) ls (.int r :: rest))) : W p l e R s m args below meth c H locs cells slots Q (F0 m pc ls st) := by
  intro T hT X
  obtain ⟨v, st₀, t, T', L, h0, X', hL, e1, e2, ⟨⟨x, u, hv, hp, hb⟩, hz, hk⟩, stp⟩ := hr T hT X
  cases hv
  have hp : x = r := hp
  subst hp
  have hLn : L = [] := by
    cases L with
    | nil => rfl
    | cons a t => exact (hL a List.mem_cons_self).elim
  subst hLn
  rw [List.append_nil] at X'
  obtain ⟨t2, a1, b1⟩ := k T' (e1.trans hb) X'
  exact ⟨t2, stp t2 a1, b1⟩
variable {y : MethodName} {ws : List Cond} {d index n nL : Nat} {D : va_G} {Y : Nat → ClassId} {As st : List Value} {b : Addr} {r : Int32} {own C host : String} {Ts : List Cond} {bytes : ByteArray} {maxL : Nat} {ret : Option FieldType}
theorem Rd.callV (S : CallFix p m c cc nL s args Ts own) (hM : Rd l y ws d D Y (.ref b :: As) H r) (cw : CallW R s args own C index y bytes maxL ret ws (rmN d) 0 0 n) (hK : KK D Y s) (hrec : ∃ cellB : Cell, H[b]? = some cellB ∧ cellB.vm.isStatics = false ∧ s.vm.findClass C = some cellB.cls) (hn : As.length = n) (hsize : ls.size = nL) (hst : st = As.reverse ++ .ref b :: rest) (hcat : (rest.map fun v => v.category).sum ≤ 8) (hdg : decode cc pc = .ok (.invokevirtual index, 3)) (hf : cells ≤ R.cells ∧ slots ≤ R.slots) (k : W p l e R s m args below meth c H locs cells slots Q (F0 m (pc + 3) ls (.int r :: rest))) : W p l e R s m args below meth c H locs cells slots Q (F0 m pc ls st) :=
  Rd.run (va_runV (locs := locs) (cells := cells) (slots := slots) (g := F0 m pc ls st) (rest := rest) S hM cw ⟨RdP.blind, hrec, fun U hU hW => ⟨rfl, hU, KK.warm hW hK⟩⟩ rfl hn hsize hst (lv_room hcat) hdg hf) k
theorem Rd.callS (S : CallFix p m c cc nL s args Ts own) (hM : Rd l y ws d D Y As H r) (cw : CallB R s args own index y bytes maxL ret ws (rmN d) 0 0 n ∧ (Cond.static y).before args s = true) (hK : KK D Y s) (hn : As.length = n) (hsize : ls.size = nL) (hst : st = As.reverse ++ rest) (hcat : (rest.map fun v => v.category).sum ≤ 8) (hdg : decode cc pc = .ok (.invokestatic index, 3)) (hf : cells ≤ R.cells ∧ slots ≤ R.slots) (k : W p l e R s m args below meth c H locs cells slots Q (F0 m (pc + 3) ls (.int r :: rest))) : W p l e R s m args below meth c H locs cells slots Q (F0 m pc ls st) :=
  Rd.run (va_runS (locs := locs) (cells := cells) (slots := slots) (g := F0 m pc ls st) (rest := rest) S hM cw ⟨RdP.blind, fun U hU hW => ⟨rfl, hU, KK.warm hW hK⟩⟩ rfl hn hsize hst (lv_room hcat) hdg hf) k
theorem Rd.callSN (S : CallFix p m c cc nL s args Ts own) (hM : Rd l y ws d D Y As H r) (cw : va_CN R s args own index y host bytes maxL ret ws (rmN d) 0 0 n ∧ (Cond.static y).before args s = true ∧ True) (hK : KK D Y s) (hn : As.length = n) (hsize : ls.size = nL) (hst : st = As.reverse ++ rest) (hcat : (rest.map fun v => v.category).sum ≤ 8) (hdg : decode cc pc = .ok (.invokestatic index, 3)) (hf : cells ≤ R.cells ∧ slots ≤ R.slots) (k : W p l e R s m args below meth c H locs cells slots Q (F0 m (pc + 3) ls (.int r :: rest))) : W p l e R s m args below meth c H locs cells slots Q (F0 m pc ls st) :=
  Rd.run (va_runSN (locs := locs) (cells := cells) (slots := slots) (g := F0 m pc ls st) (rest := rest) S hM cw ⟨RdP.blind, fun U hU hW => ⟨rfl, hU, KK.warm hW hK⟩⟩ rfl hn hsize hst (lv_room hcat) hdg hf) k
/-- getfield, putfield: the words by their places -/
theorem nr_get {T : u_T} {N ci : Nat} {wl : va_W} {a : Nat} (S : CallFix p m c cc nL s args Ts own) (hin : ∀ w ∈ u_ws C T N, w ∈ Ts) (hK : KK D Y s) (hP : va_P D aCl wl H) (q0 : Nat) {fs : List Value} (he : wl[q0]? = some (a, .inr (ci, fs))) (hc : aCl[ci]? = some (C, T, N)) (k : Nat) (hk : k < N) (hlink : (Cond.fieldLink own index (T k).1 (T k).2.1 (T k).2.2.1) ∈ Ts) {v : Value} (hv : fs[k]? = some v) (hdg : decode cc pc = .ok (.getfield index, 3))
    (kk : W p l e R s m args below meth c H locs cells slots Q (F0 m (pc + 3) ls (v :: rest))) : W p l e R s m args below meth c H locs cells slots Q (F0 m pc ls (.ref a :: rest)) :=
  va_get S.1 S.2.1 S.2.2.2.2 hin S.2.2.2.1 hK.1 hP q0 he hc k hk (S.2.2.2.2 _ hlink) (fun _ h => h) hv hdg kk
theorem nr_put {T : u_T} {N ci : Nat} {wl : va_W} {a : Nat} {A : Nat → Prop} {H0 : Heap} (S : CallFix p m c cc nL s args Ts own) (hin : ∀ w ∈ u_ws C T N, w ∈ Ts) (ty0 : Nat → FieldType) (hty : ∀ k, k < N → parseFieldDescriptor (T k).2.2.1 = some (ty0 k)) (hnm : ∀ a, a < N → ∀ b, b < N → a ≠ b → (T a).2.1 ≠ (T b).2.1) (hK : KK D Y s) (hP : va_P D aCl wl H) (hD : va_D A wl) (hS : va_S A H0 H locs) (q0 : Nat) {fs : List Value} (he : wl[q0]? = some (a, .inr (ci, fs))) (hc : aCl[ci]? = some (C, T, N)) (k : Nat) (hk : k < N) (hlink : (Cond.fieldLink own index (T k).1 (T k).2.1 (T k).2.2.1) ∈ Ts) (hfin : (T k).2.2.2 = false) {v : Value} (hn : narrow (ty0 k) v = v) (hfit : fits (ty0 k) v = true) (hl : k < fs.length) (hdg : decode cc pc = .ok (.putfield index, 3))
    (kk : ∀ (H1 : Heap) (locs1 : List Loc), va_P D aCl (wl.set q0 (a, .inr (ci, fs.set k v))) H1 → va_D A (wl.set q0 (a, .inr (ci, fs.set k v))) → va_S A H0 H1 locs1 → W p l e R s m args below meth c H1 locs1 cells slots Q (F0 m (pc + 3) ls rest)) : W p l e R s m args below meth c H locs cells slots Q (F0 m pc ls (v :: .ref a :: rest)) :=
  va_put S.1 S.2.1 S.2.2.2.2 hin ty0 hty hnm S.2.2.2.1 hK.1 hP hD hS q0 he hc k hk (S.2.2.2.2 _ hlink) (fun _ h => h) hfin (hty k hk) hn hfit hl hdg kk
theorem nr_iald {wl : va_W} {a : Nat} (S : CallFix p m c cc nL s args Ts own) (hK : KK D Y s) (hP : va_P D aCl wl H) (q0 : Nat) {n : Nat} {f : Nat → Int32} (ha : wl[q0]? = some (a, .inl (Y 0, n, .inl f))) {i : Nat} (hi : i < n) (hn : n < 2 ^ 31) (hdg : decode cc pc = .ok (.iaload, 1))
    (kk : W p l e R s m args below meth c H locs cells slots Q (F0 m (pc + 1) ls (.int (f i) :: rest))) : W p l e R s m args below meth c H locs cells slots Q (F0 m pc ls (.int (nI i) :: .ref a :: rest)) :=
  va_iald S.1 S.2.1 hK.1 hP q0 0 ha rfl (vp_in_nI hi hn) hdg (by rw [nI_clamp (Nat.lt_trans hi hn)]; exact kk)
theorem nr_iast {wl : va_W} {a : Nat} {A : Nat → Prop} {H0 : Heap} (S : CallFix p m c cc nL s args Ts own) (hK : KK D Y s) (hP : va_P D aCl wl H) (hD : va_D A wl) (hS : va_S A H0 H locs) (q0 : Nat) {n : Nat} {f : Nat → Int32} (ha : wl[q0]? = some (a, .inl (Y 0, n, .inl f))) {i : Nat} {x : Int32} (hi : i < n) (hn : n < 2 ^ 31) (hdg : decode cc pc = .ok (.iastore, 1))
    (kk : ∀ (H1 : Heap) (locs1 : List Loc), va_P D aCl (wl.set q0 (a, .inl (Y 0, n, .inl (upd f i x)))) H1 → va_D A (wl.set q0 (a, .inl (Y 0, n, .inl (upd f i x)))) → va_S A H0 H1 locs1 → W p l e R s m args below meth c H1 locs1 cells slots Q (F0 m (pc + 1) ls rest)) : W p l e R s m args below meth c H locs cells slots Q (F0 m pc ls (.int x :: .int (nI i) :: .ref a :: rest)) :=
  va_iast S.1 S.2.1 hK.1 hP hD hS q0 0 ha rfl (vp_in_nI hi hn) hdg (by rw [nI_clamp (Nat.lt_trans hi hn)]; exact kk)
end RDS
/-- the addresses of a world -/
def adr (w : va_W) : Nat → Prop := fun q => ∃ (k : Nat) (e : va_E), w[k]? = some (q, e)
theorem va_D.adr {A : Nat → Prop} {w : va_W} (h : va_D A w) : va_D (adr w) w := ⟨h.1, fun k q hk => ⟨k, q.2, hk⟩⟩
theorem va_D.same {A : Nat → Prop} {w w' : va_W} (h : va_D A w) (e : w'.map (fun q => q.1) = w.map (fun q => q.1)) : va_D A w' := by
  have key : ∀ (k : Nat) (q : Nat × va_E), w'[k]? = some q → ∃ q', w[k]? = some q' ∧ q'.1 = q.1 := by
    intro k q hq
    have h1 : (w'.map (fun q => q.1))[k]? = some q.1 := by rw [List.getElem?_map, hq]; rfl
    rw [e, List.getElem?_map] at h1
    cases h2 : w[k]? with
    | none => rw [h2] at h1; cases h1
    | some q' => rw [h2] at h1; exact ⟨q', rfl, Option.some.inj h1⟩
  refine ⟨fun i j a b ha hb hab => ?_, fun k q hk => ?_⟩
  · obtain ⟨a', h1, h2⟩ := key i a ha
    obtain ⟨b', h3, h4⟩ := key j b hb
    exact h.1 i j a' b' h1 h3 (by rw [h2, h4]; exact hab)
  · obtain ⟨q', h1, h2⟩ := key k q hk
    rw [← h2]
    exact h.2 k q' h1
theorem adr_in {A : Nat → Prop} {w : va_W} (h : va_D A w) : ∀ q, adr w q → A q := fun _ ⟨k, _, hk⟩ => h.2 k _ hk
abbrev MuP (D : va_G) (Y : Nat → ClassId) (av : List Value) (w0 : va_W) : Array Value → State → Prop := va_Pc av (fun U => (va_P D aCl w0 U.heap ∧ va_D (fun _ => True) w0) ∧ KK D Y U)
abbrev MuQi (w0 : va_W) (B : Heap → Prop) (r : Int32) : Array Value → State → Outcome → State → Prop := va_Qi (fun (x : Int32) (_ : Unit) => x = r) (fun _ t => B t.heap) (adr w0)
abbrev MuQv (w0 : va_W) (B : Heap → Prop) : Array Value → State → Outcome → State → Prop := va_Qv (fun (_ : Unit) => True) (fun _ t => B t.heap) (adr w0)
/-- a method that changes its world's cells and makes none: what it answers, what the heap is then -/
def MuI (l : Launch) (y : MethodName) (ws : List Cond) (d : Nat) (D : va_G) (Y : Nat → ClassId) (av : List Value) (w0 : va_W) (B : Heap → Prop) (r : Int32) : Prop := Met l y ws (rmN d) (MuP D Y av w0) (MuQi w0 B r) 0 0 (adr w0)
def MuV (l : Launch) (y : MethodName) (ws : List Cond) (d : Nat) (D : va_G) (Y : Nat → ClassId) (av : List Value) (w0 : va_W) (B : Heap → Prop) : Prop := Met l y ws (rmN d) (MuP D Y av w0) (MuQv w0 B) 0 0 (adr w0)
theorem MuP.blind {D : va_G} {Y : Nat → ClassId} {av : List Value} {w0 : va_W} : FrameBlind (MuP D Y av w0) := fun a U g mk q => ⟨q.1, q.2.1, KK.calling g mk a q.2.2⟩
theorem MuI.start {l : Launch} {y : MethodName} {ws ws' : List Cond} {d : Nat} {D : va_G} {Y : Nat → ClassId} {av : List Value} {w0 : va_W} {B : Heap → Prop} {r : Int32} {cc : ByteArray} {maxL : Nat} {rt : FieldType} (hy : plainName y.cls = true) (hw : ws = Cond.code y cc maxL (some rt) :: ws') (hn : (lg_sl av).length ≤ maxL)
    (body : ∀ (p : Program) (e : Env) (s : State) (m : MethodId) (args : Array Value) (below : List Frame) (meth : Method) (c : Code) (ls : Array Slot) (AA : Nat → Prop) (H0 H : Heap) (locs : List Loc) (Q : State → Prop), CallFix p m c cc maxL s args ws y.cls → KK D Y s → va_P D aCl w0 H → va_D AA w0 → va_S AA H0 H locs → lv_has ls maxL (lv_args 0 av) →
      (∀ (pc : Nat) (ls : Array Slot) (v : Int32) (H : Heap) (locs : List Loc), decode cc pc = .ok (.ireturn, 1) → narrow rt (.int v) = .int v → v = r → B H → va_S AA H0 H locs → W p l e (rmN d) s m args below meth c H locs 0 0 Q (F0 m pc ls [.int v])) →
      W p l e (rmN d) s m args below meth c H locs 0 0 Q (F0 m 0 ls [])) : MuI l y ws d D Y av w0 B r := by
  refine Met.ofW (cc := cc) (maxL := maxL) (ret := some rt) hy hw ?_
  intro p e s m args below meth c s₁ Bd hml hv
  obtain ⟨rfl, ⟨hP, hD⟩, hK⟩ := hv
  have hl := lv_entry av hn
  rw [lg_entry_eq]
  refine body p e s m _ below meth c _ (adr w0) s.heap s.heap [] _ ⟨Bd.exec, Bd.bytes, hml, findClass_of_methodNamed Bd.named, atoms_spec (ws := ws) Bd.pre⟩ hK hP hD.adr va_S.rf hl ?_
  intro pc ls v H locs hdg hty hvr hP1 hS
  exact W.zret Bd.exec Bd.bytes Bd.returns hty (fun t ht _ => ⟨⟨v, (), rfl, hvr, (by show B t.heap; rw [ht]; exact hP1)⟩, hS.F ht⟩) hS.2.2 hdg Bd.notSynchronized
theorem MuV.start {l : Launch} {y : MethodName} {ws ws' : List Cond} {d : Nat} {D : va_G} {Y : Nat → ClassId} {av : List Value} {w0 : va_W} {B : Heap → Prop} {cc : ByteArray} {maxL : Nat} (hy : plainName y.cls = true) (hw : ws = Cond.code y cc maxL none :: ws') (hn : (lg_sl av).length ≤ maxL)
    (body : ∀ (p : Program) (e : Env) (s : State) (m : MethodId) (args : Array Value) (below : List Frame) (meth : Method) (c : Code) (ls : Array Slot) (AA : Nat → Prop) (H0 H : Heap) (locs : List Loc) (Q : State → Prop), CallFix p m c cc maxL s args ws y.cls → KK D Y s → va_P D aCl w0 H → va_D AA w0 → va_S AA H0 H locs → lv_has ls maxL (lv_args 0 av) →
      (∀ (pc : Nat) (ls : Array Slot) (H : Heap) (locs : List Loc), decode cc pc = .ok (.return_, 1) → B H → va_S AA H0 H locs → W p l e (rmN d) s m args below meth c H locs 0 0 Q (F0 m pc ls [])) →
      W p l e (rmN d) s m args below meth c H locs 0 0 Q (F0 m 0 ls [])) : MuV l y ws d D Y av w0 B := by
  refine Met.ofW (cc := cc) (maxL := maxL) (ret := none) hy hw ?_
  intro p e s m args below meth c s₁ Bd hml hv
  obtain ⟨rfl, ⟨hP, hD⟩, hK⟩ := hv
  have hl := lv_entry av hn
  rw [lg_entry_eq]
  refine body p e s m _ below meth c _ (adr w0) s.heap s.heap [] _ ⟨Bd.exec, Bd.bytes, hml, findClass_of_methodNamed Bd.named, atoms_spec (ws := ws) Bd.pre⟩ hK hP hD.adr va_S.rf hl ?_
  intro pc ls H locs hdg hP1 hS
  exact W.vret Bd.exec Bd.bytes Bd.returns (fun t ht _ => ⟨⟨(), rfl, trivial, (by show B t.heap; rw [ht]; exact hP1)⟩, hS.F ht⟩) hS.2.2 hdg Bd.notSynchronized
section MUS
variable {p : Program} {l : Launch} {e : Env} {R : Room} {s : State} {m : MethodId} {args : Array Value} {below : List Frame} {meth : Method} {c : Code} {H : Heap} {locs : List Loc} {cells slots : Nat} {Q : State → Prop} {cc : ByteArray} {pc : Nat} {ls : Array Slot} {rest : List Value}
variable {y : MethodName} {ws : List Cond} {d index n nL : Nat} {D : va_G} {Y : Nat → ClassId} {As st : List Value} {b : Addr} {r : Int32} {own C host : String} {Ts : List Cond} {bytes : ByteArray} {maxL : Nat} {ret : Option FieldType} {w0 : va_W} {B : Heap → Prop} {A : Nat → Prop} {H0 : Heap}
theorem MuI.callV (S : CallFix p m c cc nL s args Ts own) (hM : MuI l y ws d D Y (.ref b :: As) w0 B r) (cw : CallW R s args own C index y bytes maxL ret ws (rmN d) 0 0 n) (hK : KK D Y s) (hP : va_P D aCl w0 H) (hD : va_D A w0) (hS : va_S A H0 H locs) (hrec : ∃ cellB : Cell, H[b]? = some cellB ∧ cellB.vm.isStatics = false ∧ s.vm.findClass C = some cellB.cls) (hn : As.length = n) (hsize : ls.size = nL) (hst : st = As.reverse ++ .ref b :: rest) (hcat : (rest.map fun v => v.category).sum ≤ 8) (hdg : decode cc pc = .ok (.invokevirtual index, 3)) (hf : cells ≤ R.cells ∧ slots ≤ R.slots)
    (k : ∀ (H1 : Heap) (locs1 : List Loc), B H1 → va_S A H0 H1 locs1 → H.size ≤ H1.size → (∀ q : Nat, q < H.size → ¬ adr w0 q → H1[q]? = H[q]?) → W p l e R s m args below meth c H1 locs1 cells slots Q (F0 m (pc + 3) ls (.int r :: rest))) : W p l e R s m args below meth c H locs cells slots Q (F0 m pc ls st) :=
  va_calli (va_runV (locs := locs) (cells := cells) (slots := slots) (g := F0 m pc ls st) (rest := rest) S hM cw ⟨MuP.blind, hrec, fun U hU hW => ⟨rfl, ⟨by rw [hU]; exact hP, hD.weaken (fun _ _ _ _ => trivial)⟩, KK.warm hW hK⟩⟩ rfl hn hsize hst (lv_room hcat) hdg hf) hS (fun q _ h => adr_in hD q h) (fun q h => adr_in hD q h) (fun x u t H1 locs1 ht hvm hp hB hz hk hS1 => by
    have hp : x = r := hp
    subst hp
    have hB : B t.heap := hB
    rw [ht] at hB
    exact k H1 locs1 hB hS1 hz hk)
theorem MuV.callV (S : CallFix p m c cc nL s args Ts own) (hM : MuV l y ws d D Y (.ref b :: As) w0 B) (cw : CallW R s args own C index y bytes maxL ret ws (rmN d) 0 0 n) (hK : KK D Y s) (hP : va_P D aCl w0 H) (hD : va_D A w0) (hS : va_S A H0 H locs) (hrec : ∃ cellB : Cell, H[b]? = some cellB ∧ cellB.vm.isStatics = false ∧ s.vm.findClass C = some cellB.cls) (hn : As.length = n) (hsize : ls.size = nL) (hst : st = As.reverse ++ .ref b :: rest) (hcat : (rest.map fun v => v.category).sum ≤ 8) (hdg : decode cc pc = .ok (.invokevirtual index, 3)) (hf : cells ≤ R.cells ∧ slots ≤ R.slots)
    (k : ∀ (H1 : Heap) (locs1 : List Loc), B H1 → va_S A H0 H1 locs1 → H.size ≤ H1.size → (∀ q : Nat, q < H.size → ¬ adr w0 q → H1[q]? = H[q]?) → W p l e R s m args below meth c H1 locs1 cells slots Q (F0 m (pc + 3) ls rest)) : W p l e R s m args below meth c H locs cells slots Q (F0 m pc ls st) :=
  va_callv (va_runV (locs := locs) (cells := cells) (slots := slots) (g := F0 m pc ls st) (rest := rest) S hM cw ⟨MuP.blind, hrec, fun U hU hW => ⟨rfl, ⟨by rw [hU]; exact hP, hD.weaken (fun _ _ _ _ => trivial)⟩, KK.warm hW hK⟩⟩ rfl hn hsize hst (lv_room hcat) hdg hf) hS (fun q _ h => adr_in hD q h) (fun q h => adr_in hD q h) (fun u t H1 locs1 ht hvm hp hB hz hk hS1 => by
    have hB : B t.heap := hB
    rw [ht] at hB
    exact k H1 locs1 hB hS1 hz hk)
end MUS
section NR
variable {p : Program} {l : Launch} {e : Env} {R : Room} {s : State} {m : MethodId} {args : Array Value} {below : List Frame} {meth : Method} {c : Code} {H : Heap} {locs : List Loc} {cells slots : Nat} {Q : State → Prop} {cc : ByteArray} {pc : Nat} {ls : Array Slot} {rest : List Value}
theorem nr_iadd (hx : p.tables.exec = Jvm.exec) (hb : c.code = cc) {a b : Nat} (hdg : decode cc pc = .ok (.iadd, 1)) (k : W p l e R s m args below meth c H locs cells slots Q (F0 m (pc + 1) ls (.int (nI (a + b)) :: rest))) : W p l e R s m args below meth c H locs cells slots Q (F0 m pc ls (.int (nI b) :: .int (nI a) :: rest)) :=
  lv_iadd hx hb hdg (by rw [nI_add]; exact k)
theorem nr_isub (hx : p.tables.exec = Jvm.exec) (hb : c.code = cc) {a b : Nat} (h : b ≤ a) (hdg : decode cc pc = .ok (.isub, 1)) (k : W p l e R s m args below meth c H locs cells slots Q (F0 m (pc + 1) ls (.int (nI (a - b)) :: rest))) : W p l e R s m args below meth c H locs cells slots Q (F0 m pc ls (.int (nI b) :: .int (nI a) :: rest)) :=
  lv_isub hx hb hdg (by rw [pk_sub h]; exact k)
theorem nr_imul (hx : p.tables.exec = Jvm.exec) (hb : c.code = cc) {a b : Nat} (hdg : decode cc pc = .ok (.imul, 1)) (k : W p l e R s m args below meth c H locs cells slots Q (F0 m (pc + 1) ls (.int (nI (a * b)) :: rest))) : W p l e R s m args below meth c H locs cells slots Q (F0 m pc ls (.int (nI b) :: .int (nI a) :: rest)) :=
  lv_imul hx hb hdg (by rw [pk_mul]; exact k)
theorem nr_idiv (hx : p.tables.exec = Jvm.exec) (hb : c.code = cc) {a b : Nat} (ha : a < 2 ^ 31) (h0 : 0 < b) (hb2 : b < 2 ^ 31) (hdg : decode cc pc = .ok (.idiv, 1)) (k : W p l e R s m args below meth c H locs cells slots Q (F0 m (pc + 1) ls (.int (nI (a / b)) :: rest))) : W p l e R s m args below meth c H locs cells slots Q (F0 m pc ls (.int (nI b) :: .int (nI a) :: rest)) :=
  lv_idiv hx hb hdg (nI_ne0 h0 hb2) (by rw [pk_div ha h0 hb2]; exact k)
theorem nr_irem (hx : p.tables.exec = Jvm.exec) (hb : c.code = cc) {a b : Nat} (ha : a < 2 ^ 31) (h0 : 0 < b) (hb2 : b < 2 ^ 31) (hdg : decode cc pc = .ok (.irem, 1)) (k : W p l e R s m args below meth c H locs cells slots Q (F0 m (pc + 1) ls (.int (nI (a % b)) :: rest))) : W p l e R s m args below meth c H locs cells slots Q (F0 m pc ls (.int (nI b) :: .int (nI a) :: rest)) :=
  lv_irem hx hb hdg (nI_ne0 h0 hb2) (by rw [pk_rem ha h0 hb2]; exact k)
theorem nr_icmp_lt (hx : p.tables.exec = Jvm.exec) (hb : c.code = cc) {a b tgt : Nat} {off : Int} (ha : a < 2 ^ 31) (hb2 : b < 2 ^ 31) (hdg : decode cc pc = .ok (.if_icmp .lt off, 3)) (ht : (pc : Int) + off = (tgt : Int)) (kt : a < b → W p l e R s m args below meth c H locs cells slots Q (F0 m tgt ls rest)) (kf : b ≤ a → W p l e R s m args below meth c H locs cells slots Q (F0 m (pc + 3) ls rest)) : W p l e R s m args below meth c H locs cells slots Q (F0 m pc ls (.int (nI b) :: .int (nI a) :: rest)) :=
  lv_icmp_lt hx hb hdg ht (fun h => kt ((nI_ltI ha hb2).mp h)) (fun h => kf (Nat.le_of_not_lt (fun z => h ((nI_ltI ha hb2).mpr z))))
theorem nr_icmp_ge (hx : p.tables.exec = Jvm.exec) (hb : c.code = cc) {a b tgt : Nat} {off : Int} (ha : a < 2 ^ 31) (hb2 : b < 2 ^ 31) (hdg : decode cc pc = .ok (.if_icmp .ge off, 3)) (ht : (pc : Int) + off = (tgt : Int)) (kt : b ≤ a → W p l e R s m args below meth c H locs cells slots Q (F0 m tgt ls rest)) (kf : a < b → W p l e R s m args below meth c H locs cells slots Q (F0 m (pc + 3) ls rest)) : W p l e R s m args below meth c H locs cells slots Q (F0 m pc ls (.int (nI b) :: .int (nI a) :: rest)) :=
  lv_icmp_ge hx hb hdg ht (fun h => kt ((nI_leI hb2 ha).mp h)) (fun h => kf (Nat.lt_of_not_le (fun z => h ((nI_leI hb2 ha).mpr z))))
theorem nr_icmp_gt (hx : p.tables.exec = Jvm.exec) (hb : c.code = cc) {a b tgt : Nat} {off : Int} (ha : a < 2 ^ 31) (hb2 : b < 2 ^ 31) (hdg : decode cc pc = .ok (.if_icmp .gt off, 3)) (ht : (pc : Int) + off = (tgt : Int)) (kt : b < a → W p l e R s m args below meth c H locs cells slots Q (F0 m tgt ls rest)) (kf : a ≤ b → W p l e R s m args below meth c H locs cells slots Q (F0 m (pc + 3) ls rest)) : W p l e R s m args below meth c H locs cells slots Q (F0 m pc ls (.int (nI b) :: .int (nI a) :: rest)) :=
  lv_icmp_gt hx hb hdg ht (fun h => kt ((nI_ltI hb2 ha).mp h)) (fun h => kf (Nat.le_of_not_lt (fun z => h ((nI_ltI hb2 ha).mpr z))))
theorem nr_icmp_le (hx : p.tables.exec = Jvm.exec) (hb : c.code = cc) {a b tgt : Nat} {off : Int} (ha : a < 2 ^ 31) (hb2 : b < 2 ^ 31) (hdg : decode cc pc = .ok (.if_icmp .le off, 3)) (ht : (pc : Int) + off = (tgt : Int)) (kt : a ≤ b → W p l e R s m args below meth c H locs cells slots Q (F0 m tgt ls rest)) (kf : b < a → W p l e R s m args below meth c H locs cells slots Q (F0 m (pc + 3) ls rest)) : W p l e R s m args below meth c H locs cells slots Q (F0 m pc ls (.int (nI b) :: .int (nI a) :: rest)) :=
  lv_icmp_le hx hb hdg ht (fun h => kt ((nI_leI ha hb2).mp h)) (fun h => kf (Nat.lt_of_not_le (fun z => h ((nI_leI ha hb2).mpr z))))
theorem nr_icmp_eq (hx : p.tables.exec = Jvm.exec) (hb : c.code = cc) {a b tgt : Nat} {off : Int} (ha : a < 2 ^ 31) (hb2 : b < 2 ^ 31) (hdg : decode cc pc = .ok (.if_icmp .eq off, 3)) (ht : (pc : Int) + off = (tgt : Int)) (kt : a = b → W p l e R s m args below meth c H locs cells slots Q (F0 m tgt ls rest)) (kf : a ≠ b → W p l e R s m args below meth c H locs cells slots Q (F0 m (pc + 3) ls rest)) : W p l e R s m args below meth c H locs cells slots Q (F0 m pc ls (.int (nI b) :: .int (nI a) :: rest)) :=
  lv_icmp_eq hx hb hdg ht (fun h => kt ((nI_eq ha hb2).mp h)) (fun h => kf (fun z => h ((nI_eq ha hb2).mpr z)))
theorem nr_icmp_ne (hx : p.tables.exec = Jvm.exec) (hb : c.code = cc) {a b tgt : Nat} {off : Int} (ha : a < 2 ^ 31) (hb2 : b < 2 ^ 31) (hdg : decode cc pc = .ok (.if_icmp .ne off, 3)) (ht : (pc : Int) + off = (tgt : Int)) (kt : a ≠ b → W p l e R s m args below meth c H locs cells slots Q (F0 m tgt ls rest)) (kf : a = b → W p l e R s m args below meth c H locs cells slots Q (F0 m (pc + 3) ls rest)) : W p l e R s m args below meth c H locs cells slots Q (F0 m pc ls (.int (nI b) :: .int (nI a) :: rest)) :=
  lv_icmp_ne hx hb hdg ht (fun h => kt (fun z => h ((nI_eq ha hb2).mpr z))) (fun h => kf ((nI_eq ha hb2).mp h))
theorem nr_if_eq (hx : p.tables.exec = Jvm.exec) (hb : c.code = cc) {a tgt : Nat} {off : Int} (ha : a < 2 ^ 31) (hdg : decode cc pc = .ok (.ifCond .eq off, 3)) (ht : (pc : Int) + off = (tgt : Int)) (kt : a = 0 → W p l e R s m args below meth c H locs cells slots Q (F0 m tgt ls rest)) (kf : 0 < a → W p l e R s m args below meth c H locs cells slots Q (F0 m (pc + 3) ls rest)) : W p l e R s m args below meth c H locs cells slots Q (F0 m pc ls (.int (nI a) :: rest)) :=
  lv_if_eq hx hb hdg ht (fun h => kt ((nI_eq ha (by decide)).mp h)) (fun h => kf (Nat.pos_of_ne_zero (fun z => h (by rw [z]; rfl))))
theorem nr_if_ne (hx : p.tables.exec = Jvm.exec) (hb : c.code = cc) {a tgt : Nat} {off : Int} (ha : a < 2 ^ 31) (hdg : decode cc pc = .ok (.ifCond .ne off, 3)) (ht : (pc : Int) + off = (tgt : Int)) (kt : 0 < a → W p l e R s m args below meth c H locs cells slots Q (F0 m tgt ls rest)) (kf : a = 0 → W p l e R s m args below meth c H locs cells slots Q (F0 m (pc + 3) ls rest)) : W p l e R s m args below meth c H locs cells slots Q (F0 m pc ls (.int (nI a) :: rest)) :=
  lv_if_ne hx hb hdg ht (fun h => kt (Nat.pos_of_ne_zero (fun z => h (by rw [z]; rfl)))) (fun h => kf ((nI_eq ha (by decide)).mp h))
/-- the top of the stack under another name for the same number -/
theorem nr_top {x y : Int32} (h : x = y) (k : W p l e R s m args below meth c H locs cells slots Q (F0 m pc ls (.int y :: rest))) : W p l e R s m args below meth c H locs cells slots Q (F0 m pc ls (.int x :: rest)) := h ▸ k
/-- a place where ways meet -/
theorem nr_join {n pc' : Nat} {L : List (Nat × Value)} {st st' : List Value} (J : ∀ ls : Array Slot, lv_has ls n L → W p l e R s m args below meth c H locs cells slots Q (F0 m pc' ls st')) (k : (∀ ls : Array Slot, lv_has ls n L → W p l e R s m args below meth c H locs cells slots Q (F0 m pc' ls st')) → W p l e R s m args below meth c H locs cells slots Q (F0 m pc ls st)) : W p l e R s m args below meth c H locs cells slots Q (F0 m pc ls st) := k J
end NR
