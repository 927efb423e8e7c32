/-! methods that only read and answer a reference, or nothing -/
abbrev RoQ (H : Heap) (v : Option Value) : Array Value → State → Outcome → State → Prop := fun _ st oc t => (oc = .returned v ∧ t.heap = H) ∧ va_F (fun _ => False) st t
def RdO (l : Launch) (y : MethodName) (ws : List Cond) (d : Nat) (D : va_G) (Y : Nat → ClassId) (av : List Value) (H : Heap) (v : Option Value) : Prop := Met l y ws (rmN d) (RdP D Y av H) (RoQ H v) 0 0 (fun _ => False)
theorem RdA.start {l : Launch} {y : MethodName} {ws ws' : List Cond} {d : Nat} {D : va_G} {Y : Nat → ClassId} {av : List Value} {H : Heap} {a : Nat} {cc : ByteArray} {maxL : Nat} {rt : FieldType} (hrt : (∃ n, rt = .object n) ∨ ∃ t, rt = .array t) (hy : plainName y.cls = true) (hw : ws = Cond.code y cc maxL (some rt) :: ws') (hn : (lg_sl av).length ≤ maxL)
    (body : ∀ (p : Program) (e : Env) (s : State) (m : MethodId) (args : Array Value) (below : List Frame) (meth : Method) (c : Code) (ls : Array Slot) (Q : State → Prop), CallFix p m c cc maxL s args ws y.cls → KK D Y s → lv_has ls maxL (lv_args 0 av) →
      (∀ (pc : Nat) (ls : Array Slot) (v : Nat), decode cc pc = .ok (.areturn, 1) → v = a → W p l e (rmN d) s m args below meth c H [] 0 0 Q (F0 m pc ls [.ref v])) →
      W p l e (rmN d) s m args below meth c H [] 0 0 Q (F0 m 0 ls [])) : RdO l y ws d D Y av H (some (.ref a)) := by
  refine Met.ofW (cc := cc) (maxL := maxL) (ret := some rt) hy hw ?_
  intro p e s m args below meth c s₁ B hml hv
  obtain ⟨rfl, hH, hK⟩ := hv
  subst hH
  have hl := lv_entry av hn
  rw [lg_entry_eq]
  refine body p e s m _ below meth c _ _ ⟨B.exec, B.bytes, hml, findClass_of_methodNamed B.named, atoms_spec (ws := ws) B.pre⟩ hK hl ?_
  intro pc ls v hdg hvr
  subst hvr
  exact W.aret B.exec B.bytes B.returns hrt (Or.inr ⟨_, rfl⟩) (fun t ht _ => ⟨⟨rfl, ht⟩, Nat.le_of_eq (by rw [ht]), fun q _ _ => by rw [ht]⟩) (fun q h => absurd h List.not_mem_nil) hdg B.notSynchronized
theorem RdU.start {l : Launch} {y : MethodName} {ws ws' : List Cond} {d : Nat} {D : va_G} {Y : Nat → ClassId} {av : List Value} {H : Heap} {cc : ByteArray} {maxL : Nat} (hy : plainName y.cls = true) (hw : ws = Cond.code y cc maxL none :: ws') (hn : (lg_sl av).length ≤ maxL)
    (body : ∀ (p : Program) (e : Env) (s : State) (m : MethodId) (args : Array Value) (below : List Frame) (meth : Method) (c : Code) (ls : Array Slot) (Q : State → Prop), CallFix p m c cc maxL s args ws y.cls → KK D Y s → lv_has ls maxL (lv_args 0 av) →
      (∀ (pc : Nat) (ls : Array Slot), decode cc pc = .ok (.return_, 1) → W p l e (rmN d) s m args below meth c H [] 0 0 Q (F0 m pc ls [])) →
      W p l e (rmN d) s m args below meth c H [] 0 0 Q (F0 m 0 ls [])) : RdO l y ws d D Y av H none := by
  refine Met.ofW (cc := cc) (maxL := maxL) (ret := none) hy hw ?_
  intro p e s m args below meth c s₁ B hml hv
  obtain ⟨rfl, hH, hK⟩ := hv
  subst hH
  have hl := lv_entry av hn
  rw [lg_entry_eq]
  refine body p e s m _ below meth c _ _ ⟨B.exec, B.bytes, hml, findClass_of_methodNamed B.named, atoms_spec (ws := ws) B.pre⟩ hK hl ?_
  intro pc ls hdg
  exact W.vret B.exec B.bytes B.returns (fun t ht _ => ⟨⟨rfl, ht⟩, Nat.le_of_eq (by rw [ht]), fun q _ _ => by rw [ht]⟩) (fun q h => absurd h List.not_mem_nil) hdg B.notSynchronized
section ROS
variable {p : Program} {l : Launch} {e : Env} {R : Room} {s : State} {m : MethodId} {args : Array Value} {below : List Frame} {meth : Method} {c : Code} {H : Heap} {locs : List Loc} {cells slots : Nat} {Q : State → Prop} {cc : ByteArray} {pc : Nat} {ls : Array Slot} {rest : List Value}
theorem RdO.run {v : Option Value} {a : Array Value} {st : List Value} (hr : va_Run p l e R s m args below meth c H locs cells slots 0 0 (F0 m pc ls st) rest (RoQ H v a) (fun _ => False)) (k : W p l e R s m args below meth c H locs cells slots Q (F0 m (pc + 3) ls (v.toList ++ rest))) : W p l e R s m args below meth c H locs cells slots Q (F0 m pc ls st) := by
  intro T hT X
  obtain ⟨v2, st₀, t, T', L, h0, X', hL, e1, e2, ⟨⟨hv, hb⟩, hz, hk⟩, stp⟩ := hr T hT X
  cases hv
  have hLn : L = [] := by
    cases L with
    | nil => rfl
    | cons a t => exact (hL a List.mem_cons_self).elim
  subst hLn
  rw [List.append_nil] at X'
  obtain ⟨t2, a1, b1⟩ := k T' (e1.trans hb) X'
  exact ⟨t2, stp t2 a1, b1⟩
variable {y : MethodName} {ws : List Cond} {d index n nL : Nat} {D : va_G} {Y : Nat → ClassId} {As st : List Value} {b : Addr} {own C : String} {Ts : List Cond} {bytes : ByteArray} {maxL : Nat} {ret : Option FieldType}
theorem RdO.callV {v : Option Value} (S : CallFix p m c cc nL s args Ts own) (hM : RdO l y ws d D Y (.ref b :: As) H v) (cw : CallW R s args own C index y bytes maxL ret ws (rmN d) 0 0 n) (hK : KK D Y s) (hrec : ∃ cellB : Cell, H[b]? = some cellB ∧ cellB.vm.isStatics = false ∧ s.vm.findClass C = some cellB.cls) (hn : As.length = n) (hsize : ls.size = nL) (hst : st = As.reverse ++ .ref b :: rest) (hcat : (rest.map fun v => v.category).sum ≤ 8) (hdg : decode cc pc = .ok (.invokevirtual index, 3)) (hf : cells ≤ R.cells ∧ slots ≤ R.slots) (k : W p l e R s m args below meth c H locs cells slots Q (F0 m (pc + 3) ls (v.toList ++ rest))) : W p l e R s m args below meth c H locs cells slots Q (F0 m pc ls st) :=
  RdO.run (va_runV (locs := locs) (cells := cells) (slots := slots) (g := F0 m pc ls st) (rest := rest) S hM cw ⟨RdP.blind, hrec, fun U hU hW => ⟨rfl, hU, KK.warm hW hK⟩⟩ rfl hn hsize hst (lv_room hcat) hdg hf) k
theorem RdA.callV {x : Nat} (S : CallFix p m c cc nL s args Ts own) (hM : RdO l y ws d D Y (.ref b :: As) H (some (.ref x))) (cw : CallW R s args own C index y bytes maxL ret ws (rmN d) 0 0 n) (hK : KK D Y s) (hrec : ∃ cellB : Cell, H[b]? = some cellB ∧ cellB.vm.isStatics = false ∧ s.vm.findClass C = some cellB.cls) (hn : As.length = n) (hsize : ls.size = nL) (hst : st = As.reverse ++ .ref b :: rest) (hcat : (rest.map fun v => v.category).sum ≤ 8) (hdg : decode cc pc = .ok (.invokevirtual index, 3)) (hf : cells ≤ R.cells ∧ slots ≤ R.slots) (k : W p l e R s m args below meth c H locs cells slots Q (F0 m (pc + 3) ls (.ref x :: rest))) : W p l e R s m args below meth c H locs cells slots Q (F0 m pc ls st) :=
  RdO.callV S hM cw hK hrec hn hsize hst hcat hdg hf k
theorem RdU.callV (S : CallFix p m c cc nL s args Ts own) (hM : RdO l y ws d D Y (.ref b :: As) H none) (cw : CallW R s args own C index y bytes maxL ret ws (rmN d) 0 0 n) (hK : KK D Y s) (hrec : ∃ cellB : Cell, H[b]? = some cellB ∧ cellB.vm.isStatics = false ∧ s.vm.findClass C = some cellB.cls) (hn : As.length = n) (hsize : ls.size = nL) (hst : st = As.reverse ++ .ref b :: rest) (hcat : (rest.map fun v => v.category).sum ≤ 8) (hdg : decode cc pc = .ok (.invokevirtual index, 3)) (hf : cells ≤ R.cells ∧ slots ≤ R.slots) (k : W p l e R s m args below meth c H locs cells slots Q (F0 m (pc + 3) ls rest)) : W p l e R s m args below meth c H locs cells slots Q (F0 m pc ls st) :=
  RdO.callV S hM cw hK hrec hn hsize hst hcat hdg hf k
/-- a rule out of the list, as a rule -/
theorem nr_cast {T : u_T} {N ci : Nat} {wl : va_W} {a : Nat} (S : CallFix p m c cc nL s args Ts own) (hlink : (Cond.classLink own index C) ∈ Ts) (hK : KK D Y s) (hP : va_P D aCl wl H) (q0 : Nat) {fs : List Value} (he : wl[q0]? = some (a, .inr (ci, fs))) (hc : aCl[ci]? = some (C, T, N)) (hdg : decode cc pc = .ok (.checkcast index, 3)) (k : W p l e R s m args below meth c H locs cells slots Q (F0 m (pc + 3) ls (.ref a :: rest))) : W p l e R s m args below meth c H locs cells slots Q (F0 m pc ls (.ref a :: rest)) :=
  va_castS S.1 S.2.1 S.2.2.2.1 (S.2.2.2.2 _ hlink) (hK.1.1 ci _ hc).2 (va_recv hK.1 hP hc he) hdg k
end ROS
section NB2
variable {p : Program} {l : Launch} {e : Env} {R : Room} {s : State} {m : MethodId} {args : Array Value} {below : List Frame} {meth : Method} {c : Code} {H : Heap} {locs : List Loc} {cells slots : Nat} {Q : State → Prop} {cc : ByteArray} {pc : Nat} {ls : Array Slot} {rest : List Value}
theorem nr_icmpB_eq (hx : p.tables.exec = Jvm.exec) (hb : c.code = cc) {a b : Bool} {tgt : Nat} {off : Int} (hdg : decode cc pc = .ok (.if_icmp .eq off, 3)) (ht : (pc : Int) + off = (tgt : Int)) (kt : a = b → W p l e R s m args below meth c H locs cells slots Q (F0 m tgt ls rest)) (kf : a ≠ b → W p l e R s m args below meth c H locs cells slots Q (F0 m (pc + 3) ls rest)) : W p l e R s m args below meth c H locs cells slots Q (F0 m pc ls (.int (bI b) :: .int (bI a) :: rest)) :=
  lv_icmp_eq hx hb hdg ht (fun h => kt (by cases a <;> cases b <;> first | rfl | exact absurd h (by decide))) (fun h => kf (fun z => h (congrArg bI z)))
theorem nr_icmpB_ne (hx : p.tables.exec = Jvm.exec) (hb : c.code = cc) {a b : Bool} {tgt : Nat} {off : Int} (hdg : decode cc pc = .ok (.if_icmp .ne off, 3)) (ht : (pc : Int) + off = (tgt : Int)) (kt : a ≠ b → W p l e R s m args below meth c H locs cells slots Q (F0 m tgt ls rest)) (kf : a = b → W p l e R s m args below meth c H locs cells slots Q (F0 m (pc + 3) ls rest)) : W p l e R s m args below meth c H locs cells slots Q (F0 m pc ls (.int (bI b) :: .int (bI a) :: rest)) :=
  lv_icmp_ne hx hb hdg ht (fun h => kt (fun z => h (congrArg bI z))) (fun h => kf (by cases a <;> cases b <;> first | rfl | exact absurd h (by decide)))
/-- an element of a row of references -/
theorem nr_aald {own : String} {Ts : List Cond} {nL : Nat} {D : va_G} {Y : Nat → ClassId} {wl : va_W} {a : Nat} (S : CallFix p m c cc nL s args Ts own) (hK : KK D Y s) (hP : va_P D aCl wl H) (q0 : Nat) {n : Nat} {f : Nat → Option Nat} (ha : wl[q0]? = some (a, .inl (Y 1, n, .inr (.inr (.inr (.inr f)))))) {i v : Nat} (hi : i < n) (hn : n < 2 ^ 31) (hv : f i = some v) (hdg : decode cc pc = .ok (.aaload, 1))
    (kk : W p l e R s m args below meth c H locs cells slots Q (F0 m (pc + 1) ls (.ref v :: rest))) : W p l e R s m args below meth c H locs cells slots Q (F0 m pc ls (.int (nI i) :: .ref a :: rest)) :=
  va_aldq S.1 S.2.1 hK.1 hP q0 1 ha rfl (vp_in_nI hi hn) hdg (by rw [nI_clamp (Nat.lt_trans hi hn), hv]; exact kk)
end NB2
/-! the class's objects -/
/-- a range's object -/
abbrev rgE (f t : Nat) : va_E := .inr (0, [.int (nI f), .int (nI t), .int (mkI f t)])
/-- a rule's objects, at their three places -/
abbrev ruC (r : RV) (ad : Nat × Nat × Nat) : va_W := [(ad.1, .inr (1, [.int (bI (pM r)), .ref ad.2.1, .ref ad.2.2, .int (nI (pR r)), .int (hT r)])), (ad.2.1, rgE (sF r) (sT r)), (ad.2.2, rgE (dF r) (dT r))]
def cnN (f t f2 t2 : Nat) : Nat := min t t2 + 1 - max f f2
def iaB (f t f2 t2 : Nat) : Bool := decide (f ≤ f2) && decide (t2 ≤ t)
def smB (f t f2 t2 : Nat) : Bool := decide (f2 = f) && decide (t2 = t)
def jnB (f t f2 t2 : Nat) : Bool := decide (f ≤ t2 + 1) && decide (f2 ≤ t + 1)
def mtB (r : RV) (s d p : Nat) : Bool := con r s p && inN d (dF r) (dT r)
def cvB (r r2 : RV) : Bool := (iaB (sF r) (sT r) (sF r2) (sT r2) && iaB (dF r) (dT r) (dF r2) (dT r2)) && decide (pR r &&& pR r2 = pR r2)
def cpN (r r2 : RV) : Nat := cnN (sF r) (sT r) (sF r2) (sT r2) * cnN (dF r) (dT r) (dF r2) (dT r2) * popI (nI (pR r &&& pR r2))
def exB (r r2 : RV) : Bool := decide (pM r = pM r2) || decide (cpN r r2 = 0)
def dfN (r r2 : RV) : Nat := bN (!smB (sF r) (sT r) (sF r2) (sT r2)) + bN (!smB (dF r) (dT r) (dF r2) (dT r2)) + bN (!decide (pR r = pR r2))
def mjB (r r2 : RV) : Bool := (decide (pM r = pM r2) && decide (dfN r r2 ≤ 1)) && (jnB (sF r) (sT r) (sF r2) (sT r2) && jnB (dF r) (dT r) (dF r2) (dT r2))
theorem mn_N {a b : Nat} (ha : a < 2 ^ 31) (hb : b < 2 ^ 31) : (if nI b < nI a then nI b else nI a) = nI (min a b) := by
  by_cases h : b < a
  · rw [if_pos ((nI_ltI hb ha).mpr h), Nat.min_eq_right (Nat.le_of_lt h)]
  · rw [if_neg (fun z => h ((nI_ltI hb ha).mp z)), Nat.min_eq_left (Nat.le_of_not_lt h)]
theorem mx_N {a b : Nat} (ha : a < 2 ^ 31) (hb : b < 2 ^ 31) : (if nI a < nI b then nI b else nI a) = nI (max a b) := by
  by_cases h : a < b
  · rw [if_pos ((nI_ltI ha hb).mpr h), Nat.max_eq_right (Nat.le_of_lt h)]
  · rw [if_neg (fun z => h ((nI_ltI ha hb).mp z)), Nat.max_eq_left (Nat.le_of_not_lt h)]
theorem cn_I {f t f2 t2 : Nat} (h : f ≤ 31 ∧ t ≤ 31 ∧ f2 ≤ 31 ∧ t2 ≤ 31) : (if nI 0 < nI (min t t2) - nI (max f f2) + nI 1 then nI (min t t2) - nI (max f f2) + nI 1 else nI 0) = nI (cnN f t f2 t2) := by
  unfold cnN
  have hle := nI_lts (k := max f f2) (b := min t t2 + 1) (by omega) (by omega)
  by_cases h1 : max f f2 ≤ min t t2
  · rw [pk_sub h1, nI_add, if_pos ((nI_ltI (by decide) (by omega)).mpr (by omega)), show min t t2 - max f f2 + 1 = min t t2 + 1 - max f f2 from by omega]
  · have e : nI (min t t2) - nI (max f f2) + nI 1 ≤ nI 0 := by
      rw [Int32.le_iff_toInt_le]
      have h2 : (nI (min t t2) - nI (max f f2)).toInt = (min t t2 : Nat) - ((max f f2 : Nat) : Int) := pk_sub_toInt (by omega) (by omega)
      rw [Int32.toInt_add, h2, nI_toInt (by decide), nI_toInt (by decide)]
      rw [Int.bmod_eq_of_le (by omega) (by omega)]
      omega
    rw [if_neg (fun z => absurd (Int32.lt_of_lt_of_le z e) (Int32.lt_irrefl)), show min t t2 + 1 - max f f2 = 0 from by omega]
