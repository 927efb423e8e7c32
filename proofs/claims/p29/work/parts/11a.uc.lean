/-! methods that change cells and may make some: the heap at the start is H; F: what may change -/
abbrev rmG (d mc ms : Nat) : Room := { frames := d, cells := mc, slots := ms, locals := 40 * d }
abbrev UcP (D : va_G) (Y : Nat → ClassId) (E : State → Prop) (av : List Value) (H : Heap) : Array Value → State → Prop := va_Pc av (fun U => (U.heap = H ∧ E U) ∧ KK D Y U)
abbrev UcQ (F : Nat → Prop) (B : Option Value → Heap → Prop) : Array Value → State → Outcome → State → Prop := fun _ st oc t => (∃ v, oc = .returned v ∧ B v t.heap) ∧ va_F F st t
def UC (l : Launch) (y : MethodName) (ws : List Cond) (d mc ms : Nat) (D : va_G) (Y : Nat → ClassId) (E : State → Prop) (av : List Value) (H : Heap) (F : Nat → Prop) (B : Option Value → Heap → Prop) : Prop := Met l y ws (rmG d mc ms) (UcP D Y E av H) (UcQ F B) mc ms F
abbrev eT : State → Prop := fun _ => True
def Ebl (E : State → Prop) : Prop := ∀ (U : State) (g : JFrame) (mk : MethodId) (a : Array Value), E U → E (U.calling g mk a)
theorem eT_bl : Ebl eT := fun _ _ _ _ _ => trivial
theorem UcP.blind {D : va_G} {Y : Nat → ClassId} {E : State → Prop} {av : List Value} {H : Heap} (hb : Ebl E) : FrameBlind (UcP D Y E av H) := fun a U g mk q => ⟨q.1, ⟨q.2.1.1, hb U g mk a q.2.1.2⟩, KK.calling g mk a q.2.2⟩
abbrev bI_ (r : Int32) (B : Heap → Prop) : Option Value → Heap → Prop := fun v H => v = some (.int r) ∧ B H
abbrev bV_ (B : Heap → Prop) : Option Value → Heap → Prop := fun v H => v = none ∧ B H
abbrev bA_ (B : Nat → Heap → Prop) : Option Value → Heap → Prop := fun v H => ∃ a, v = some (.ref a) ∧ B a H
theorem UCi.start {l : Launch} {y : MethodName} {ws ws' : List Cond} {d mc ms : Nat} {D : va_G} {Y : Nat → ClassId} {E : State → Prop} {av : List Value} {H0 : Heap} {F : Nat → Prop} {B : Heap → Prop} {r : Int32} {cc : ByteArray} {maxL : Nat} {rt : FieldType} (hy : plainName y.cls = true) (hw : ws = Cond.code y cc maxL (some rt) :: ws') (hn : (lg_sl av).length ≤ maxL)
    (body : ∀ (p : Program) (e : Env) (s : State) (m : MethodId) (args : Array Value) (below : List Frame) (meth : Method) (c : Code) (ls : Array Slot) (H : Heap) (locs : List Loc) (Q : State → Prop), CallFix p m c cc maxL s args ws y.cls → KK D Y s → s.heap = H0 → E s → H = H0 → va_S F H0 H locs → lv_has ls maxL (lv_args 0 av) → (∀ hn : y.name = "<init>", meth.name = "<init>") →
      (∀ (pc : Nat) (ls : Array Slot) (v : Int32) (H : Heap) (locs : List Loc), decode cc pc = .ok (.ireturn, 1) → narrow rt (.int v) = .int v → v = r → B H → va_S F H0 H locs → W p l e (rmG d mc ms) s m args below meth c H locs mc ms Q (F0 m pc ls [.int v])) →
      W p l e (rmG d mc ms) s m args below meth c H locs 0 0 Q (F0 m 0 ls [])) : UC l y ws d mc ms D Y E av H0 F (bI_ r B) := by
  refine Met.ofW (cc := cc) (maxL := maxL) (ret := some rt) hy hw ?_
  intro p e s m args below meth c s₁ Bd hml hv
  obtain ⟨rfl, ⟨hH, hE⟩, hK⟩ := hv
  subst hH
  have hl := lv_entry av hn
  rw [lg_entry_eq]
  refine body p e s m _ below meth c _ s.heap [] _ ⟨Bd.exec, Bd.bytes, hml, findClass_of_methodNamed Bd.named, atoms_spec (ws := ws) Bd.pre⟩ hK rfl hE rfl va_S.rf hl (fun hq => (name_of_methodNamed Bd.named Bd.method).1.trans hq) ?_
  intro pc ls v H locs hdg hty hvr hB hS
  exact W.zret Bd.exec Bd.bytes Bd.returns hty (fun t ht _ => ⟨⟨_, rfl, congrArg (fun z => some (Value.int z)) hvr, (by rw [ht]; exact hB)⟩, hS.F ht⟩) hS.2.2 hdg Bd.notSynchronized
theorem UCv.start {l : Launch} {y : MethodName} {ws ws' : List Cond} {d mc ms : Nat} {D : va_G} {Y : Nat → ClassId} {E : State → Prop} {av : List Value} {H0 : Heap} {F : Nat → Prop} {B : Heap → Prop} {cc : ByteArray} {maxL : Nat} (hy : plainName y.cls = true) (hw : ws = Cond.code y cc maxL none :: ws') (hn : (lg_sl av).length ≤ maxL)
    (body : ∀ (p : Program) (e : Env) (s : State) (m : MethodId) (args : Array Value) (below : List Frame) (meth : Method) (c : Code) (ls : Array Slot) (H : Heap) (locs : List Loc) (Q : State → Prop), CallFix p m c cc maxL s args ws y.cls → KK D Y s → s.heap = H0 → E s → H = H0 → va_S F H0 H locs → lv_has ls maxL (lv_args 0 av) → (∀ hn : y.name = "<init>", meth.name = "<init>") →
      (∀ (pc : Nat) (ls : Array Slot) (H : Heap) (locs : List Loc), decode cc pc = .ok (.return_, 1) → B H → va_S F H0 H locs → W p l e (rmG d mc ms) s m args below meth c H locs mc ms Q (F0 m pc ls [])) →
      W p l e (rmG d mc ms) s m args below meth c H locs 0 0 Q (F0 m 0 ls [])) : UC l y ws d mc ms D Y E av H0 F (bV_ B) := by
  refine Met.ofW (cc := cc) (maxL := maxL) (ret := none) hy hw ?_
  intro p e s m args below meth c s₁ Bd hml hv
  obtain ⟨rfl, ⟨hH, hE⟩, hK⟩ := hv
  subst hH
  have hl := lv_entry av hn
  rw [lg_entry_eq]
  refine body p e s m _ below meth c _ s.heap [] _ ⟨Bd.exec, Bd.bytes, hml, findClass_of_methodNamed Bd.named, atoms_spec (ws := ws) Bd.pre⟩ hK rfl hE rfl va_S.rf hl (fun hq => (name_of_methodNamed Bd.named Bd.method).1.trans hq) ?_
  intro pc ls H locs hdg hB hS
  exact W.vret Bd.exec Bd.bytes Bd.returns (fun t ht _ => ⟨⟨_, rfl, rfl, (by rw [ht]; exact hB)⟩, hS.F ht⟩) hS.2.2 hdg Bd.notSynchronized
theorem UCa.start {l : Launch} {y : MethodName} {ws ws' : List Cond} {d mc ms : Nat} {D : va_G} {Y : Nat → ClassId} {E : State → Prop} {av : List Value} {H0 : Heap} {F : Nat → Prop} {B : Nat → Heap → Prop} {cc : ByteArray} {maxL : Nat} {rt : FieldType} (hy : plainName y.cls = true) (hw : ws = Cond.code y cc maxL (some rt) :: ws') (hn : (lg_sl av).length ≤ maxL) (hrt : (∃ n, rt = .object n) ∨ ∃ t, rt = .array t)
    (body : ∀ (p : Program) (e : Env) (s : State) (m : MethodId) (args : Array Value) (below : List Frame) (meth : Method) (c : Code) (ls : Array Slot) (H : Heap) (locs : List Loc) (Q : State → Prop), CallFix p m c cc maxL s args ws y.cls → KK D Y s → s.heap = H0 → E s → H = H0 → va_S F H0 H locs → lv_has ls maxL (lv_args 0 av) → (∀ hn : y.name = "<init>", meth.name = "<init>") →
      (∀ (pc : Nat) (ls : Array Slot) (v : Nat) (H : Heap) (locs : List Loc), decode cc pc = .ok (.areturn, 1) → B v H → va_S F H0 H locs → W p l e (rmG d mc ms) s m args below meth c H locs mc ms Q (F0 m pc ls [.ref v])) →
      W p l e (rmG d mc ms) s m args below meth c H locs 0 0 Q (F0 m 0 ls [])) : UC l y ws d mc ms D Y E av H0 F (bA_ B) := by
  refine Met.ofW (cc := cc) (maxL := maxL) (ret := some rt) hy hw ?_
  intro p e s m args below meth c s₁ Bd hml hv
  obtain ⟨rfl, ⟨hH, hE⟩, hK⟩ := hv
  subst hH
  have hl := lv_entry av hn
  rw [lg_entry_eq]
  refine body p e s m _ below meth c _ s.heap [] _ ⟨Bd.exec, Bd.bytes, hml, findClass_of_methodNamed Bd.named, atoms_spec (ws := ws) Bd.pre⟩ hK rfl hE rfl va_S.rf hl (fun hq => (name_of_methodNamed Bd.named Bd.method).1.trans hq) ?_
  intro pc ls v H locs hdg hB hS
  exact W.aret Bd.exec Bd.bytes Bd.returns hrt (Or.inr ⟨_, rfl⟩) (fun t ht _ => ⟨⟨_, rfl, _, rfl, (by rw [ht]; exact hB)⟩, hS.F ht⟩) hS.2.2 hdg Bd.notSynchronized
section UCS
variable {p : Program} {l : Launch} {e : Env} {R : Room} {s : State} {m : MethodId} {args : Array Value} {below : List Frame} {meth : Method} {c : Code} {H : Heap} {locs : List Loc} {cells slots : Nat} {Q : State → Prop} {cc : ByteArray} {pc : Nat} {ls : Array Slot} {rest : List Value}
variable {y : MethodName} {ws : List Cond} {d mc ms index n nL : Nat} {D : va_G} {Y : Nat → ClassId} {As st : List Value} {b : Addr} {own C host : String} {Ts : List Cond} {bytes : ByteArray} {maxL : Nat} {ret : Option FieldType} {A F : Nat → Prop} {H0 : Heap} {E : State → Prop}
theorem UC.run {B : Option Value → Heap → Prop} {a : Array Value} (hr : va_Run p l e R s m args below meth c H locs cells slots mc ms (F0 m pc ls st) rest (UcQ F B a) F) (hS : va_S A H0 H locs) (hF : ∀ q, F q → A q)
    (k : ∀ (v : Option Value) (H1 : Heap) (locs1 : List Loc), B v H1 → va_S A H0 H1 locs1 → H.size ≤ H1.size → (∀ q : Nat, q < H.size → ¬ F q → H1[q]? = H[q]?) → W p l e R s m args below meth c H1 locs1 (cells + mc) (slots + ms) Q (F0 m (pc + 3) ls (v.toList ++ rest))) : W p l e R s m args below meth c H locs cells slots Q (F0 m pc ls st) := by
  intro T hT X
  obtain ⟨v2, st₀, t, T', L, h0, X', hL, e1, e2, ⟨⟨v, hv, hb⟩, hz, hk⟩, stp⟩ := hr T hT X
  cases hv
  rw [h0] at hz hk
  obtain ⟨t2, a1, b1⟩ := k v2 t.heap (locs ++ L) hb
    ⟨Nat.le_trans hS.1 hz, fun q h1 h2 => by rw [hk q (Nat.lt_of_lt_of_le h1 hS.1) (fun z => h2 (hF q z))]; exact hS.2.1 q h1 h2, fun q hq => by
      rcases List.mem_append.mp hq with h | h
      · exact hS.2.2 q h
      · exact hF _ (hL q h)⟩ hz hk T' e1 X'
  exact ⟨t2, stp t2 a1, b1⟩
theorem UC.callV {B : Option Value → Heap → Prop} (S : CallFix p m c cc nL s args Ts own) (hM : UC l y ws d mc ms D Y E (.ref b :: As) H F B) (cw : CallW R s args own C index y bytes maxL ret ws (rmG d mc ms) mc ms n) (hK : KK D Y s) (hEb : Ebl E) (hEs : ∀ U : State, s.WarmedH U.vm → U.heap = H → E U) (hS : va_S A H0 H locs) (hF : ∀ q, F q → A q) (hrec : ∃ cellB : Cell, H[b]? = some cellB ∧ cellB.vm.isStatics = false ∧ s.vm.findClass C = some cellB.cls) (hn : As.length = n) (hsize : ls.size = nL) (hst : st = As.reverse ++ .ref b :: rest) (hcat : (rest.map fun v => v.category).sum ≤ 8) (hdg : decode cc pc = .ok (.invokevirtual index, 3)) (hf : cells + mc ≤ R.cells ∧ slots + ms ≤ R.slots)
    (k : ∀ (v : Option Value) (H1 : Heap) (locs1 : List Loc), B v H1 → va_S A H0 H1 locs1 → H.size ≤ H1.size → (∀ q : Nat, q < H.size → ¬ F q → H1[q]? = H[q]?) → W p l e R s m args below meth c H1 locs1 (cells + mc) (slots + ms) Q (F0 m (pc + 3) ls (v.toList ++ rest))) : W p l e R s m args below meth c H locs cells slots Q (F0 m pc ls st) :=
  UC.run (va_runV (locs := locs) (cells := cells) (slots := slots) (g := F0 m pc ls st) (rest := rest) S hM cw ⟨UcP.blind hEb, hrec, fun U hU hW => ⟨rfl, ⟨hU, hEs U hW hU⟩, KK.warm hW hK⟩⟩ rfl hn hsize hst (lv_room hcat) hdg hf) hS hF k
theorem UC.callI {B : Option Value → Heap → Prop} (S : CallFix p m c cc nL s args Ts own) (hM : UC l y ws d mc ms D Y E (.ref b :: As) H F B) (cw : CallB R s args own index y bytes maxL none ws (rmG d mc ms) mc ms n ∧ y.name = "<init>" ∧ (Cond.instanceMethod y).before args s = true) (hK : KK D Y s) (hEb : Ebl E) (hEs : ∀ U : State, s.WarmedH U.vm → U.heap = H → E U) (hS : va_S A H0 H locs) (hF : ∀ q, F q → A q) (hn : As.length = n) (hsize : ls.size = nL) (hst : st = As.reverse ++ .ref b :: rest) (hcat : (rest.map fun v => v.category).sum ≤ 8) (hdg : decode cc pc = .ok (.invokespecial index, 3)) (hf : cells + mc ≤ R.cells ∧ slots + ms ≤ R.slots)
    (k : ∀ (v : Option Value) (H1 : Heap) (locs1 : List Loc), B v H1 → va_S A H0 H1 locs1 → H.size ≤ H1.size → (∀ q : Nat, q < H.size → ¬ F q → H1[q]? = H[q]?) → W p l e R s m args below meth c H1 locs1 (cells + mc) (slots + ms) Q (F0 m (pc + 3) ls (v.toList ++ rest))) : W p l e R s m args below meth c H locs cells slots Q (F0 m pc ls st) :=
  UC.run (va_runI (locs := locs) (cells := cells) (slots := slots) (g := F0 m pc ls st) (rest := rest) S hM cw ⟨UcP.blind hEb, fun U hU hW => ⟨rfl, ⟨hU, hEs U hW hU⟩, KK.warm hW hK⟩⟩ rfl hn hsize hst (lv_room hcat) hdg hf) hS hF k
theorem UC.callS {B : Option Value → Heap → Prop} (S : CallFix p m c cc nL s args Ts own) (hM : UC l y ws d mc ms D Y E As H F B) (cw : CallB R s args own index y bytes maxL ret ws (rmG d mc ms) mc ms n ∧ (Cond.static y).before args s = true) (hK : KK D Y s) (hEb : Ebl E) (hEs : ∀ U : State, s.WarmedH U.vm → U.heap = H → E U) (hS : va_S A H0 H locs) (hF : ∀ q, F q → A q) (hn : As.length = n) (hsize : ls.size = nL) (hst : st = As.reverse ++ rest) (hcat : (rest.map fun v => v.category).sum ≤ 8) (hdg : decode cc pc = .ok (.invokestatic index, 3)) (hf : cells + mc ≤ R.cells ∧ slots + ms ≤ R.slots)
    (k : ∀ (v : Option Value) (H1 : Heap) (locs1 : List Loc), B v H1 → va_S A H0 H1 locs1 → H.size ≤ H1.size → (∀ q : Nat, q < H.size → ¬ F q → H1[q]? = H[q]?) → W p l e R s m args below meth c H1 locs1 (cells + mc) (slots + ms) Q (F0 m (pc + 3) ls (v.toList ++ rest))) : W p l e R s m args below meth c H locs cells slots Q (F0 m pc ls st) :=
  UC.run (va_runS (locs := locs) (cells := cells) (slots := slots) (g := F0 m pc ls st) (rest := rest) S hM cw ⟨UcP.blind hEb, fun U hU hW => ⟨rfl, ⟨hU, hEs U hW hU⟩, KK.warm hW hK⟩⟩ rfl hn hsize hst (lv_room hcat) hdg hf) hS hF k
theorem RdU.callS (S : CallFix p m c cc nL s args Ts own) (hM : RdO l y ws d D Y As H none) (cw : CallB R s args own index y bytes maxL ret ws (rmN d) 0 0 n ∧ (Cond.static y).before args s = true) (hK : KK D Y s) (hn : As.length = n) (hsize : ls.size = nL) (hst : st = As.reverse ++ rest) (hcat : (rest.map fun v => v.category).sum ≤ 8) (hdg : decode cc pc = .ok (.invokestatic index, 3)) (hf : cells ≤ R.cells ∧ slots ≤ R.slots) (k : W p l e R s m args below meth c H locs cells slots Q (F0 m (pc + 3) ls rest)) : W p l e R s m args below meth c H locs cells slots Q (F0 m pc ls st) :=
  RdO.run (va_runS (locs := locs) (cells := cells) (slots := slots) (g := F0 m pc ls st) (rest := rest) S hM cw ⟨RdP.blind, fun U hU hW => ⟨rfl, hU, KK.warm hW hK⟩⟩ rfl hn hsize hst (lv_room hcat) hdg hf) k
/-- inherited fields -/
theorem nr_getS {T : u_T} {N ci : Nat} {wl : va_W} {a : Nat} {ref : String} (S : CallFix p m c cc nL s args Ts own) (hin : ∀ w ∈ u_ws C T N, w ∈ Ts) (hK : KK D Y s) (hP : va_P D aCl wl H) (q0 : Nat) {fs : List Value} (he : wl[q0]? = some (a, .inr (ci, fs))) (hc : aCl[ci]? = some (C, T, N)) (k : Nat) (hk : k < N) (hlink : (Cond.fieldLink own index ref (T k).2.1 (T k).2.2.1) ∈ Ts) (hsf : (Cond.sameField ref (T k).1 (T k).2.1 (T k).2.2.1) ∈ Ts) {v : Value} (hv : fs[k]? = some v) (hdg : decode cc pc = .ok (.getfield index, 3))
    (kk : W p l e R s m args below meth c H locs cells slots Q (F0 m (pc + 3) ls (v :: rest))) : W p l e R s m args below meth c H locs cells slots Q (F0 m pc ls (.ref a :: rest)) :=
  va_get S.1 S.2.1 S.2.2.2.2 hin S.2.2.2.1 hK.1 hP q0 he hc k hk (S.2.2.2.2 _ hlink) (u_same (S.2.2.2.2 _ hsf)) hv hdg kk
theorem nr_putS {T : u_T} {N ci : Nat} {wl : va_W} {a : Nat} {ref : String} (S : CallFix p m c cc nL s args Ts own) (hin : ∀ w ∈ u_ws C T N, w ∈ Ts) (ty0 : Nat → FieldType) (hty : ∀ k, k < N → parseFieldDescriptor (T k).2.2.1 = some (ty0 k)) (hnm : ∀ a, a < N → ∀ b, b < N → a ≠ b → (T a).2.1 ≠ (T b).2.1) (hK : KK D Y s) (hP : va_P D aCl wl H) (hD : va_D A wl) (hS : va_S A H0 H locs) (q0 : Nat) {fs : List Value} (he : wl[q0]? = some (a, .inr (ci, fs))) (hc : aCl[ci]? = some (C, T, N)) (k : Nat) (hk : k < N) (hlink : (Cond.fieldLink own index ref (T k).2.1 (T k).2.2.1) ∈ Ts) (hsf : (Cond.sameField ref (T k).1 (T k).2.1 (T k).2.2.1) ∈ Ts) (hfin : (T k).2.2.2 = false) {v : Value} (hn : narrow (ty0 k) v = v) (hfit : fits (ty0 k) v = true) (hl : k < fs.length) (hdg : decode cc pc = .ok (.putfield index, 3))
    (kk : ∀ (H1 : Heap) (locs1 : List Loc), va_P D aCl (wl.set q0 (a, .inr (ci, fs.set k v))) H1 → va_D A (wl.set q0 (a, .inr (ci, fs.set k v))) → va_S A H0 H1 locs1 → W p l e R s m args below meth c H1 locs1 cells slots Q (F0 m (pc + 3) ls rest)) : W p l e R s m args below meth c H locs cells slots Q (F0 m pc ls (v :: .ref a :: rest)) :=
  va_put S.1 S.2.1 S.2.2.2.2 hin ty0 hty hnm S.2.2.2.1 hK.1 hP hD hS q0 he hc k hk (S.2.2.2.2 _ hlink) (u_same (S.2.2.2.2 _ hsf)) hfin (hty k hk) hn hfit hl hdg kk
/-- rows of references -/
theorem nr_aast {wl : va_W} {a v : Nat} (S : CallFix p m c cc nL s args Ts own) (hK : KK D Y s) (hP : va_P D aCl wl H) (hD : va_D A wl) (hS : va_S A H0 H locs) (q0 : Nat) {n : Nat} {f : Nat → Option Nat} (ha : wl[q0]? = some (a, .inl (Y 1, n, .inr (.inr (.inr (.inr f)))))) (hr : ∃ cellV : Cell, H[v]? = some cellV ∧ cellV.vm.isStatics = false ∧ s.vm.findClass RX1 = some cellV.cls) {i : Nat} (hi : i < n) (hn : n < 2 ^ 31) (hdg : decode cc pc = .ok (.aastore, 1))
    (kk : ∀ (H1 : Heap) (locs1 : List Loc), va_P D aCl (wl.set q0 (a, .inl (Y 1, n, .inr (.inr (.inr (.inr (va_up f i (some v)))))))) H1 → va_D A (wl.set q0 (a, .inl (Y 1, n, .inr (.inr (.inr (.inr (va_up f i (some v)))))))) → va_S A H0 H1 locs1 → W p l e R s m args below meth c H1 locs1 cells slots Q (F0 m (pc + 1) ls rest)) : W p l e R s m args below meth c H locs cells slots Q (F0 m pc ls (.ref v :: .int (nI i) :: .ref a :: rest)) :=
  vb_astq S.1 S.2.1 hK.1 hP hD hS q0 1 ha rfl hr (vb_asgC hK.2.2.2.1) (vp_in_nI hi hn) hdg (by rw [nI_clamp (Nat.lt_trans hi hn)]; exact kk)
theorem nr_aastN {wl : va_W} {a : Nat} (S : CallFix p m c cc nL s args Ts own) (hK : KK D Y s) (hP : va_P D aCl wl H) (hD : va_D A wl) (hS : va_S A H0 H locs) (q0 : Nat) {n : Nat} {f : Nat → Option Nat} (ha : wl[q0]? = some (a, .inl (Y 1, n, .inr (.inr (.inr (.inr f)))))) {i : Nat} (hi : i < n) (hn : n < 2 ^ 31) (hdg : decode cc pc = .ok (.aastore, 1))
    (kk : ∀ (H1 : Heap) (locs1 : List Loc), va_P D aCl (wl.set q0 (a, .inl (Y 1, n, .inr (.inr (.inr (.inr (va_up f i none))))))) H1 → va_D A (wl.set q0 (a, .inl (Y 1, n, .inr (.inr (.inr (.inr (va_up f i none))))))) → va_S A H0 H1 locs1 → W p l e R s m args below meth c H1 locs1 cells slots Q (F0 m (pc + 1) ls rest)) : W p l e R s m args below meth c H locs cells slots Q (F0 m pc ls (.null :: .int (nI i) :: .ref a :: rest)) :=
  va_astqN S.1 S.2.1 hK.1 hP hD hS q0 1 ha rfl (vp_in_nI hi hn) hdg (by rw [nI_clamp (Nat.lt_trans hi hn)]; exact kk)
/-- System.arraycopy within one row or between two -/
theorem nr_copy {wl : va_W} {a a0 : Nat} (S : CallFix p m c cc nL s args Ts own) (hsize : ls.size = nL) (hw : ∀ w ∈ [Cond.methodLink own index arraycopyName, .native arraycopyName, .static arraycopyName, .initialized "java/lang/System"], w ∈ Ts) (hK : KK D Y s) (hP : va_P D aCl wl H) (hD : va_D A wl) (hS : va_S A H0 H locs) (q0 q1 : Nat) {n0 n1 : Nat} {f g : Nat → Option Nat} (ha0 : wl[q0]? = some (a0, .inl (Y 1, n0, .inr (.inr (.inr (.inr f)))))) (ha1 : wl[q1]? = some (a, .inl (Y 1, n1, .inr (.inr (.inr (.inr g)))))) {sp dp k : Nat} (hb : sp < 2 ^ 31 ∧ dp < 2 ^ 31 ∧ k < 2 ^ 31) (h4 : sp + k ≤ n0) (h5 : dp + k ≤ n1) (hel : ∀ i : Nat, i < k → ∀ y : Nat, f (sp + i) = some y → ∃ cellV : Cell, H[y]? = some cellV ∧ cellV.vm.isStatics = false ∧ s.vm.findClass RX1 = some cellV.cls)
    (hframes : 1 ≤ R.frames) (hlocals : (rest.map fun v => v.category).sum + (nativeFrameWords "java/lang/System" "arraycopy" 5 + 11) ≤ R.locals) (hdg : decode cc pc = .ok (.invokestatic index, 3))
    (kk : ∀ (H1 : Heap) (locs1 : List Loc), va_P D aCl (wl.set q1 (a, .inl (Y 1, n1, .inr (.inr (.inr (.inr (va_cpy f g sp dp k))))))) H1 → va_D A (wl.set q1 (a, .inl (Y 1, n1, .inr (.inr (.inr (.inr (va_cpy f g sp dp k))))))) → va_S A H0 H1 locs1 → W p l e R s m args below meth c H1 locs1 cells slots Q (F0 m (pc + 3) ls rest)) : W p l e R s m args below meth c H locs cells slots Q (F0 m pc ls (.int (nI k) :: .int (nI dp) :: .ref a :: .int (nI sp) :: .ref a0 :: rest)) := by
  refine va_copyq S.1 S.2.1 (S.2.2.1.trans hsize.symm) S.2.2.2.1 (S.2.2.2.2 _ (hw _ (by simp))) (S.2.2.2.2 _ (hw _ (by simp))) (S.2.2.2.2 _ (hw _ (by simp))) (S.2.2.2.2 _ (hw _ (by simp))) hK.1 hP hD hS q0 q1 1 1 ha0 ha1 rfl rfl (nI_pos hb.1) (nI_pos hb.2.1) (nI_pos hb.2.2) (by rw [nI_clamp hb.1, nI_clamp hb.2.2]; exact h4) (by rw [nI_clamp hb.2.1, nI_clamp hb.2.2]; exact h5) (by rw [nI_clamp hb.1, nI_clamp hb.2.2]; exact hel) (vb_asgC hK.2.2.2.1) hframes hlocals hdg ?_
  rw [nI_clamp hb.1, nI_clamp hb.2.1, nI_clamp hb.2.2]
  exact kk
end UCS
