/-! the law's helpers: what they stand on -/
theorem Rd.uc {l : Launch} {y : MethodName} {ws : List Cond} {d : Nat} {D : va_G} {Y : Nat → ClassId} {E : State → Prop} {av : List Value} {H : Heap} {F : Nat → Prop} {r : Int32} (h : Rd l y ws d D Y av H r) : UC l y ws d 0 0 D Y E av H F (bI_ r (fun H1 => H1 = H)) := by
  unfold Rd Met at h
  unfold UC Met
  refine MetFree.mono h (fun a s q => ⟨q.1, q.2.1.1, q.2.2⟩) (fun _ _ _ _ _ k => k) ?_
  intro a s o s' hp hq
  obtain ⟨⟨⟨x, u, ho, hx, hb⟩, hF⟩, L, hL, hz⟩ := hq
  have hx : x = r := hx
  subst hx
  exact ⟨⟨⟨some (.int x), ho, rfl, hb⟩, ⟨hF.1, fun q h1 _ => hF.2 q h1 (fun z => z)⟩⟩, L, hL, fun q z => (hz q z).elim⟩
theorem UC.mono {l : Launch} {y : MethodName} {ws : List Cond} {d mc ms : Nat} {D : va_G} {Y : Nat → ClassId} {E E' : State → Prop} {av : List Value} {H : Heap} {F : Nat → Prop} {B B' : Option Value → Heap → Prop} (h : UC l y ws d mc ms D Y E av H F B) (hE : ∀ U, E' U → E U) (hB : ∀ v H1, B v H1 → B' v H1) : UC l y ws d mc ms D Y E' av H F B' := by
  unfold UC Met at h ⊢
  refine MetFree.mono h (fun a s q => ⟨q.1, ⟨q.2.1.1, hE _ q.2.1.2⟩, q.2.2⟩) (fun _ _ _ _ _ k => k) ?_
  intro a s o s' hp hq
  obtain ⟨⟨⟨v, ho, hb⟩, hF⟩, hL⟩ := hq
  exact ⟨⟨⟨v, ho, hB v _ hb⟩, hF⟩, hL⟩
/-- what the helpers need of the state -/
def eL (t0 : Nat) (F F' : Nat → Prop) (U : State) : Prop := eZ t0 F U ∧ eX F' U U.heap ∧ va_Nc xIS xIA U
theorem eL.go {t0 : Nat} {F F' : Nat → Prop} {s U : State} (h : eL t0 F F' s) (hW : s.WarmedH U.vm) (hU : U.heap = s.heap) : eL t0 F F' U :=
  ⟨eZ_go h.1 (va_S.rf (A := F)) hW hU, by rw [hU]; exact eX.warm hW h.2.1, va_Nc.moved hW.alike h.2.2⟩
theorem eL_bl {t0 : Nat} {F F' : Nat → Prop} : Ebl (eL t0 F F') := fun U g mk a h =>
  ⟨eZ_bl U g mk a h.1, eX_bl (A := F') U g mk a h.2.1, va_Nc.moved (u := U) (U := U.calling g mk a) (Vm.Alike.refl U.vm) h.2.2⟩
theorem UCw.start {l : Launch} {y : MethodName} {ws ws' : List Cond} {d mc ms : Nat} {D : va_G} {Y : Nat → ClassId} {E : State → Prop} {av : List Value} {H0 : Heap} {F : Nat → Prop} {B : Heap → Prop} {r : Int32} {cc : ByteArray} {maxL : Nat} {rt : FieldType} {hh : List (Nat × Nat × Nat × Nat)} (hy : plainName y.cls = true) (hw : ws = Cond.codeWith y cc maxL (some rt) hh :: ws') (hn : (lg_sl av).length ≤ maxL)
    (body : ∀ (p : Program) (e : Env) (s : State) (m : MethodId) (args : Array Value) (below : List Frame) (meth : Method) (c : Code) (ls : Array Slot) (Q : State → Prop), CallFix p m c cc maxL s args ws y.cls → KK D Y s → s.heap = H0 → E s → lv_has ls maxL (lv_args 0 av) → c.exceptionTable.toList = tableOf hh →
      (∀ (pc : Nat) (ls : Array Slot) (v : Int32) (H : Heap) (locs : List Loc), decode cc pc = .ok (.ireturn, 1) → narrow rt (.int v) = .int v → v = r → B H → va_S F H0 H locs → W p l e (rmG d mc ms) s m args below meth c H locs mc ms Q (F0 m pc ls [.int v])) →
      W p l e (rmG d mc ms) s m args below meth c H0 [] 0 0 Q (F0 m 0 ls [])) : UC l y ws d mc ms D Y E av H0 F (bI_ r B) := by
  refine va_MetW (cc := cc) (maxL := maxL) (ret := some rt) hy hw ?_
  intro p e s m args below meth c s₁ Bd hml hv
  obtain ⟨rfl, ⟨hH, hE⟩, hK⟩ := hv
  subst hH
  have hl := lv_entry av hn
  have hts := atoms_spec (ws := ws) Bd.pre
  rw [lg_entry_eq]
  refine body p e s m _ below meth c _ _ ⟨Bd.exec, Bd.bytes, hml, findClass_of_methodNamed Bd.named, hts⟩ hK rfl hE hl (vx_table (x := y) Bd (hts _ (by rw [hw]; exact List.mem_cons_self))) ?_
  intro pc ls v H locs hdg hty hvr hB hS
  exact W.zret Bd.exec Bd.bytes Bd.returns hty (fun t ht _ => ⟨⟨_, rfl, congrArg (fun z => some (Value.int z)) hvr, (by rw [ht]; exact hB)⟩, hS.F ht⟩) hS.2.2 hdg Bd.notSynchronized
section HLP
variable {p : Program} {l : Launch} {e : Env} {R : Room} {s : State} {m : MethodId} {args : Array Value} {below : List Frame} {meth : Method} {c : Code} {H : Heap} {locs : List Loc} {cells slots : Nat} {Q : State → Prop} {cc : ByteArray} {pc : Nat} {ls : Array Slot} {rest : List Value}
variable {y : MethodName} {ws : List Cond} {d1 index n nL : Nat} {D : va_G} {Y : Nat → ClassId} {As st : List Value} {b : Addr} {own C E0 : String} {Ts : List Cond} {bytes : ByteArray} {maxL : Nat} {ret : Option FieldType} {A AX : Nat → Prop} {H0 : Heap} {o : Nat} {w x : Int64}
/-- a call of a method that throws, caught here -/
theorem Th.catchV (S : CallFix p m c cc nL s args Ts own) (hM : Th l y ws d1 D Y AX (.ref b :: As) H E0) (cw : CallW R s args own C index y bytes maxL ret ws (rmG d1 1 6) 1 6 n) (hK : KK D Y s) (hX : eX AX s H) (hS : va_S A H0 H locs) (hrec : ∃ cellB : Cell, H[b]? = some cellB ∧ cellB.vm.isStatics = false ∧ s.vm.findClass C = some cellB.cls) (hn : As.length = n) (hsize : ls.size = nL) (hst : st = As.reverse ++ .ref b :: rest) (hcat : (rest.map fun v => v.category).sum ≤ 8) (hdg : decode cc pc = .ok (.invokevirtual index, 3)) (hf : cells + 1 ≤ R.cells ∧ slots + 6 ≤ R.slots)
    {name : String} (pre : List ExceptionTableEntry) (x : ExceptionTableEntry) (suf : List ExceptionTableEntry) (hsplit : c.exceptionTable.toList = pre ++ x :: suf) (hpass : ∀ z ∈ pre, covers z pc = false ∨ (z.catchType ≠ 0 ∧ ∃ nm : String, (Cond.classLink own z.catchType nm).before args s = true ∧ va_Nc E0 nm s)) (hx : covers x pc = true) (h0 : x.catchType ≠ 0) (hlink : (Cond.classLink own x.catchType name).before args s = true) (hcast : (Cond.castable E0 name).before args s = true)
    (kk : ∀ (q : Nat) (H1 : Heap), H.size ≤ H1.size → (∀ z : Nat, z < H.size → H1[z]? = H[z]?) → va_S A H0 H1 locs → W p l e R s m args below meth c H1 locs (cells + 1) (slots + 6) Q (F0 m x.handlerPc ls [.ref q])) : W p l e R s m args below meth c H locs cells slots Q (F0 m pc ls st) := by
  intro T hT X
  have hr := vx_runV (p := p) (l := l) (e := e) (meth := meth) (below := below) (Qc := fun _ _ _ _ => False) (g := F0 m pc ls st) (rest := rest) (locs := locs) (cells := cells) (slots := slots) S hM cw ⟨UcP.blind eX_bl, hrec, fun U hU hW => ⟨rfl, ⟨hU, (by show eX AX U U.heap; rw [hU]; exact eX.warm hW hX)⟩, KK.warm hW hK⟩⟩ rfl hn hsize hst (lv_room hcat) hdg hf
  rcases hr T hT X with ⟨v, st₀, t, T', L, h1, X', hL, e1, e2, hq, stp⟩ | ⟨q, st₀, t, T', L, E, ce, h1, X', hL, e1, e2, ⟨hE, h2, h3⟩, hce, hcv, hcl, stp⟩
  · exact hq.elim
  · subst hE
    have hLn : L = [] := by
      cases L with
      | nil => rfl
      | cons a t => exact (hL a List.mem_cons_self).elim
    subst hLn
    rw [List.append_nil] at X'
    have hS1 : va_S A H0 T'.heap locs := by
      rw [e1]
      exact ⟨Nat.le_trans hS.1 h2, fun q h5 h6 => by rw [h3 q (Nat.lt_of_lt_of_le h5 hS.1)]; exact hS.2.1 q h5 h6, hS.2.2⟩
    obtain ⟨t2, a1, b1⟩ := vx_catch (pc := pc) (ls := ls) (rest := rest) (q := q) S.2.2.2.1 pre x suf hsplit hpass hx h0 hlink hcast (by rw [e1]; exact hce) hcv hcl (kk q T'.heap (by rw [e1]; exact h2) (by rw [e1]; exact h3) hS1) T' rfl X'
    exact ⟨t2, stp.trans a1, b1⟩
end HLP
