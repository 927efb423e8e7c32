/-! what throws: contracts, throwing, passing on -/
abbrev xNs : List String := ["java/lang/RuntimeException", "java/lang/Exception"]
abbrev xIO : String := "java/lang/IndexOutOfBoundsException"
abbrev xIA : String := "java/lang/IllegalArgumentException"
abbrev xIS : String := "java/lang/IllegalStateException"
abbrev xNE : String := "java/util/NoSuchElementException"
/-- the words of a throw that aren't good ones -/
def xB : List Cond := [.declares (Bundle.initS "java/lang/RuntimeException"), .declares (Bundle.initS "java/lang/Exception"), .declares (Bundle.initS Bundle.tN), .castable xIO xIO, .castable xIA xIA, .castable xIS xIS, .castable xNE xNE]
/-- the texts that are thrown -/
def xT : List (Nat × String) := [(26, "a range is not within 0 to 31"), (31, "the set of protocols is not 1 to 15"), (39, "there are 16 rules"), (120, "no rule matches"), (135, "no single rule shadows it"), (135, "no single rule shadows it"), (183, "a source or destination is not 0 to 31"), (185, "a protocol is not 0 to 3"), (187, "no such place"), (221, "no such entry")]
/-- what a throw needs of the state -/
def eX (A : Nat → Prop) (U : State) (H : Heap) : Prop := vx_Zq Bundle.tN "UNASSIGNED_STACK" Bundle.steD A U H ∧ vx_Zq Bundle.tN "SUPPRESSED_SENTINEL" Bundle.listD A U H ∧ (∀ w ∈ xB, va_Nw w U) ∧ ∀ q ∈ xT, ∃ sa : Nat, vk_R RX2 q.1 q.2 sa U
theorem xB_on : ∀ w ∈ xB, w.onTables = true := by decide +kernel
theorem xB_warm {s U : State} (hW : s.WarmedH U.vm) (h : ∀ w ∈ xB, va_Nw w s) : ∀ w ∈ xB, va_Nw w U := by
  intro w hw
  have h1 := h w hw
  simp only [xB, List.mem_cons, List.mem_nil_iff, or_false] at hw
  rcases hw with rfl | rfl | rfl | rfl | rfl | rfl | rfl
  · exact va_Nw.warmD hW h1
  · exact va_Nw.warmD hW h1
  · exact va_Nw.warmD hW h1
  · exact va_Nw.warmC hW h1
  · exact va_Nw.warmC hW h1
  · exact va_Nw.warmC hW h1
  · exact va_Nw.warmC hW h1
theorem eX.warm {A : Nat → Prop} {s U : State} {H : Heap} (hW : s.WarmedH U.vm) (h : eX A s H) : eX A U H :=
  ⟨vx_Zq.moved hW.alike h.1, vx_Zq.moved hW.alike h.2.1, xB_warm hW h.2.2.1, fun q hq => (h.2.2.2 q hq).imp (fun _ z => vk_R.warm hW z)⟩
theorem eX.kept {A : Nat → Prop} {s : State} {H H1 : Heap} (h : eX A s H) (hq : ∀ a : Nat, a < H.size → ¬ A a → H1[a]? = H[a]?) : eX A s H1 := ⟨h.1.kept hq, h.2.1.kept hq, h.2.2⟩
theorem eX.narrow {A B : Nat → Prop} {s : State} {H : Heap} (h : eX A s H) (hAB : ∀ q, B q → A q) : eX B s H := ⟨h.1.narrow hAB, h.2.1.narrow hAB, h.2.2⟩
theorem eX.same {A : Nat → Prop} {u U : State} {H : Heap} (hv : u.vm = U.vm) (h : eX A u H) : eX A U H :=
  ⟨vx_Zq.moved (by rw [hv]; exact Vm.Alike.refl U.vm) h.1, vx_Zq.moved (by rw [hv]; exact Vm.Alike.refl U.vm) h.2.1, fun w hw => va_Nw.same (xB_on w hw) hv (h.2.2.1 w hw), fun q hq => (h.2.2.2 q hq).imp (fun _ z => vk_R.same hv.symm z)⟩
theorem eX_bl {A : Nat → Prop} : Ebl (fun U => eX A U U.heap) := fun U g mk a h => eX.same (u := U) (U := U.calling g mk a) rfl h
/-- where it throws: the class, and the heap: the old cells as they were -/
abbrev ThX (E0 : String) (H : Heap) : String → State → State → Prop := fun E _ t => E = E0 ∧ H.size ≤ t.heap.size ∧ ∀ q : Nat, q < H.size → t.heap[q]? = H[q]?
/-- a method that throws an E0, and changes nothing -/
def Th (l : Launch) (y : MethodName) (ws : List Cond) (d : Nat) (D : va_G) (Y : Nat → ClassId) (A : Nat → Prop) (av : List Value) (H : Heap) (E0 : String) : Prop := vx_Met l y ws (rmG d 1 6) (UcP D Y (fun U => eX A U U.heap) av H) (fun _ _ _ _ => False) (ThX E0 H) 1 6 (fun _ => False)
abbrev ThQ (below : List Frame) (E0 : String) (H : Heap) (args : Array Value) (s : State) : State → Prop := vx_MQ below (fun _ _ _ _ => False) (ThX E0 H) args s 1 6 (fun _ => False)
theorem Th.start {l : Launch} {y : MethodName} {ws ws' : List Cond} {d : Nat} {D : va_G} {Y : Nat → ClassId} {A : Nat → Prop} {av : List Value} {H : Heap} {E0 : String} {cc : ByteArray} {maxL : Nat} {ret : Option FieldType} (hy : plainName y.cls = true) (hw : ws = Cond.code y cc maxL ret :: ws') (hn : (lg_sl av).length ≤ maxL)
    (body : ∀ (p : Program) (e : Env) (s : State) (m : MethodId) (args : Array Value) (below : List Frame) (meth : Method) (c : Code) (ls : Array Slot), CallFix p m c cc maxL s args ws y.cls → KK D Y s → s.heap = H → eX A s H → lv_has ls maxL (lv_args 0 av) → ((∀ x ∈ c.exceptionTable.toList, False) ∧ meth.locks = false) →
      W p l e (rmG d 1 6) s m args below meth c H [] 0 0 (ThQ below E0 H args s) (F0 m 0 ls [])) : Th l y ws d D Y A av H E0 := by
  refine vx_ofW (cc := cc) (maxL := maxL) (ret := ret) hy hw ?_
  intro p e s m args below meth c s₁ Bd hml ht hv
  obtain ⟨rfl, ⟨hH, hE⟩, hK⟩ := hv
  subst hH
  have hl := lv_entry av hn
  rw [lg_entry_eq]
  exact body p e s m _ below meth c _ ⟨Bd.exec, Bd.bytes, hml, findClass_of_methodNamed Bd.named, atoms_spec (ws := ws) Bd.pre⟩ hK rfl hE hl ⟨ht, Bd.notSynchronized⟩
section THS
variable {p : Program} {l : Launch} {e : Env} {s : State} {m : MethodId} {args : Array Value} {below : List Frame} {meth : Method} {c : Code} {H : Heap} {cc : ByteArray} {pc : Nat} {ls : Array Slot} {rest : List Value}
variable {y : MethodName} {ws : List Cond} {d d1 index n nL ik is ic : Nat} {D : va_G} {Y : Nat → ClassId} {As st : List Value} {b : Addr} {own C E0 text : String} {Ts : List Cond} {bytes : ByteArray} {maxL : Nat} {ret : Option FieldType} {A : Nat → Prop}
theorem Th.throwS (S : CallFix p m c cc nL s args Ts RX2) (hlt : l.stackTraces = false) (hsH : s.heap = H) (hX : eX A s H) (hO : (∀ x ∈ c.exceptionTable.toList, False) ∧ meth.locks = false) (hE0 : Bundle.fit E0 = true) (hk : Cond.classLink RX2 ik E0 ∈ Ts) (hi : Cond.initialized E0 ∈ Ts) (hat : ∀ w ∈ (vx_atS RX2 ic E0 xNs).filter goodWord, w ∈ Ts)
    (hgood : (Cond.classLink RX2 ik E0 :: Cond.initialized E0 :: vx_atS RX2 ic E0 xNs).all vx_ot = true) (hnb : ((vx_atS RX2 ic E0 xNs).filter (fun w => !goodWord w)).all (fun w => decide (w ∈ xB)) = true) (htx : (is, text) ∈ xT) (hsize : ls.size = nL)
    (d0 : decode cc pc = .ok (.new ik, 3)) (d3 : decode cc (pc + 3) = .ok (.dup, 1)) (d4 : decode cc (pc + 4) = .ok (.ldc is, 2)) (d6 : decode cc (pc + 6) = .ok (.invokespecial ic, 3)) (d9 : decode cc (pc + 9) = .ok (.athrow, 1))
    (hf : 5 < d) (hloc : (rest.map fun v => v.category).sum + 82 ≤ 40 * d) : W p l e (rmG d 1 6) s m args below meth c H [] 0 0 (ThQ below E0 H args s) (F0 m pc ls rest) := by
  subst hsH
  obtain ⟨hx, hb, hml, hown, hts⟩ := S
  obtain ⟨sa, hstr⟩ := hX.2.2.2 _ htx
  refine vx_throwS (own := RX2) (text := text) (names := xNs) hx hb hlt hown hE0 (by decide) (hts _ hk) (hts _ hi) hstr ?_ (fun w hw => List.all_eq_true.mp hgood w hw) hX.1 hX.2.1 va_S.rf (hsize.trans hml.symm) d0 d3 d4 d6 d9 (fun x hx => (hO.1 x hx).elim) hf hloc (Nat.le_refl 1) (Nat.le_refl 6) hO.2 (fun t _ h1 h2 => ⟨rfl, h1, h2⟩) (fun z hz => absurd hz List.not_mem_nil) (Nat.le_refl 1) (Nat.le_refl 6)
  exact vx_hat (B := xB) (fun w hw => hts w (hat w hw)) (fun w hw => of_decide_eq_true (List.all_eq_true.mp hnb w hw)) (fun w hw => va_Nw.use (xB_on w hw) (hX.2.2.1 w hw))
theorem Th.throwN (S : CallFix p m c cc nL s args Ts RX2) (hlt : l.stackTraces = false) (hsH : s.heap = H) (hX : eX A s H) (hO : (∀ x ∈ c.exceptionTable.toList, False) ∧ meth.locks = false) (hk : Cond.classLink RX2 ik nxE ∈ Ts) (hi : Cond.initialized nxE ∈ Ts) (hat : ∀ w ∈ (nxAtS RX2 ic).filter goodWord, w ∈ Ts)
    (hnb : ((nxAtS RX2 ic).filter (fun w => !goodWord w)).all (fun w => decide (w ∈ xB)) = true) (htx : (is, text) ∈ xT) (hsize : ls.size = nL)
    (d0 : decode cc pc = .ok (.new ik, 3)) (d3 : decode cc (pc + 3) = .ok (.dup, 1)) (d4 : decode cc (pc + 4) = .ok (.ldc is, 2)) (d6 : decode cc (pc + 6) = .ok (.invokespecial ic, 3)) (d9 : decode cc (pc + 9) = .ok (.athrow, 1))
    (hf : 5 < d) (hloc : (rest.map fun v => v.category).sum + 82 ≤ 40 * d) : W p l e (rmG d 1 6) s m args below meth c H [] 0 0 (ThQ below xNE H args s) (F0 m pc ls rest) := by
  subst hsH
  obtain ⟨hx, hb, hml, hown, hts⟩ := S
  obtain ⟨sa, hstr⟩ := hX.2.2.2 _ htx
  refine nx_throwS (own := RX2) (text := text) hx hb hlt hown (hts _ hk) (hts _ hi) hstr ?_ hX.1 hX.2.1 (hsize.trans hml.symm) d0 d3 d4 d6 d9 (fun x hx => (hO.1 x hx).elim) hf hloc (Nat.le_refl 1) (Nat.le_refl 6) hO.2 (fun t _ h1 h2 => ⟨rfl, h1, h2⟩) (Nat.le_refl 1) (Nat.le_refl 6)
  exact vx_hat (B := xB) (fun w hw => hts w (hat w hw)) (fun w hw => of_decide_eq_true (List.all_eq_true.mp hnb w hw)) (fun w hw => va_Nw.use (xB_on w hw) (hX.2.2.1 w hw))
theorem Th.run {XC : String → State → State → Prop} {a : Array Value} {R : Room} {rest : List Value} (hXC : XC = ThX E0 H) (hO : (∀ x ∈ c.exceptionTable.toList, False) ∧ meth.locks = false) (hr : vx_Run p l e R s m args below meth c H [] 0 0 1 6 (F0 m pc ls st) rest (fun _ _ _ => False) XC (fun _ => False)) : W p l e R s m args below meth c H [] 0 0 (ThQ below E0 H args s) (F0 m pc ls st) := by
  subst hXC
  intro T hT X
  rcases hr T hT X with ⟨v, st₀, t, T', L, h0, X', hL, e1, e2, hq, stp⟩ | ⟨q, st₀, t, T', L, E, ce, h0, X', hL, e1, e2, ⟨hE, h2, h3⟩, hce, hcv, hcl, stp⟩
  · exact hq.elim
  · subst hE
    obtain ⟨t2, a1, b1⟩ := vx_out (p := p) (l := l) (e := e) (R := R) (H := T'.heap) (locs := [] ++ L) (cells := 0 + 1) (slots := 0 + 6) (pc := pc) (ls := ls) (rest := rest) (Qc := fun _ _ _ _ => False) (XC := ThX E H) (free := fun _ => False) (mc := 1) (ms := 6) (fun x hx => (hO.1 x hx).elim) hO.2 (by rw [e1]; exact hce) hcv hcl (fun t' ht' _ => ⟨rfl, by rw [ht', e1]; exact h2, fun z hz => by rw [ht', e1]; exact h3 z hz⟩) (fun z hz => hL z (by simpa using hz)) (Nat.le_refl 1) (Nat.le_refl 6) T' rfl X'
    exact ⟨t2, stp.trans a1, b1⟩
theorem Th.callV {R : Room} (S : CallFix p m c cc nL s args Ts own) (hM : Th l y ws d1 D Y A (.ref b :: As) H E0) (cw : CallW R s args own C index y bytes maxL ret ws (rmG d1 1 6) 1 6 n) (hK : KK D Y s) (hX : eX A s H) (hO : (∀ x ∈ c.exceptionTable.toList, False) ∧ meth.locks = false) (hrec : ∃ cellB : Cell, H[b]? = some cellB ∧ cellB.vm.isStatics = false ∧ s.vm.findClass C = some cellB.cls) (hn : As.length = n) (hsize : ls.size = nL) (hst : st = As.reverse ++ .ref b :: rest) (hcat : (rest.map fun v => v.category).sum ≤ 8) (hdg : decode cc pc = .ok (.invokevirtual index, 3)) (hf : 0 + 1 ≤ R.cells ∧ 0 + 6 ≤ R.slots) : W p l e R s m args below meth c H [] 0 0 (ThQ below E0 H args s) (F0 m pc ls st) :=
  Th.run (a := #[]) rfl hO (vx_runV (Qc := fun _ _ _ _ => False) (g := F0 m pc ls st) (rest := rest) S hM cw ⟨UcP.blind eX_bl, hrec, fun U hU hW => ⟨rfl, ⟨hU, (by show eX A U U.heap; rw [hU]; exact eX.warm hW hX)⟩, KK.warm hW hK⟩⟩ rfl hn hsize hst (lv_room hcat) hdg hf)
theorem Th.callS {R : Room} (S : CallFix p m c cc nL s args Ts own) (hM : Th l y ws d1 D Y A As H E0) (cw : CallB R s args own index y bytes maxL ret ws (rmG d1 1 6) 1 6 n ∧ (Cond.static y).before args s = true) (hK : KK D Y s) (hX : eX A s H) (hO : (∀ x ∈ c.exceptionTable.toList, False) ∧ meth.locks = false) (hn : As.length = n) (hsize : ls.size = nL) (hst : st = As.reverse ++ rest) (hcat : (rest.map fun v => v.category).sum ≤ 8) (hdg : decode cc pc = .ok (.invokestatic index, 3)) (hf : 0 + 1 ≤ R.cells ∧ 0 + 6 ≤ R.slots) : W p l e R s m args below meth c H [] 0 0 (ThQ below E0 H args s) (F0 m pc ls st) :=
  Th.run (a := #[]) rfl hO (vx_runS (Qc := fun _ _ _ _ => False) (g := F0 m pc ls st) (rest := rest) S hM cw ⟨UcP.blind eX_bl, fun U hU hW => ⟨rfl, ⟨hU, (by show eX A U U.heap; rw [hU]; exact eX.warm hW hX)⟩, KK.warm hW hK⟩⟩ rfl hn hsize hst (lv_room hcat) hdg hf)
end THS
