/-! the law: what is read of an object, methods that draw, two objects beside each other -/
theorem KK.drawn {D : va_G} {Y : Nat → ClassId} {s : State} (h : KK D Y s) (d : Drawn) : KK D Y (s.setDrawn d) := KK.warm (U := s.setDrawn d) (State.WarmedH.refl s) h
theorem eZ.narrow {t0 : Nat} {A B : Nat → Prop} {U : State} (h : eZ t0 A U) (hAB : ∀ q, B q → A q) : eZ t0 B U := ⟨h.1.narrow hAB, h.2.narrow hAB⟩
abbrev bigA (s : State) : Nat → Prop := fun q => s.heap.size ≤ q
theorem eL.use {t0 : Nat} {s U : State} {F F' : Nat → Prop} {H : Heap} {locs : List Loc} (h : eL t0 (bigA s) (bigA s) s) (hS : va_S (bigA s) s.heap H locs) (hW : s.WarmedH U.vm) (hU : U.heap = H) (hF : ∀ q, F q → bigA s q) (hF' : ∀ q, F' q → bigA s q) : eL t0 F F' U :=
  ⟨(eZ_go h.1 hS hW hU).narrow hF, by rw [hU]; exact ((eX.warm hW h.2.1).kept hS.2.1).narrow hF', va_Nc.moved hW.alike h.2.2⟩
theorem eL.step {t0 : Nat} {s U : State} {F : Nat → Prop} {H : Heap} {locs : List Loc} (h : eL t0 F F s) (hS : va_S F s.heap H locs) (hW : s.WarmedH U.vm) (hU : U.heap = H) : eL t0 F F U :=
  ⟨eZ_go h.1 hS hW hU, by rw [hU]; exact (eX.warm hW h.2.1).kept hS.2.1, va_Nc.moved hW.alike h.2.2⟩
/-- old cells as they were -/
abbrev Kp (H0 H1 : Heap) : Prop := H0.size ≤ H1.size ∧ ∀ q : Nat, q < H0.size → H1[q]? = H0[q]?
theorem Kp.rf {H : Heap} : Kp H H := ⟨Nat.le_refl _, fun _ _ => rfl⟩
theorem Kp.tr {H0 H1 H2 : Heap} (h : Kp H0 H1) (h2 : Kp H1 H2) : Kp H0 H2 := ⟨Nat.le_trans h.1 h2.1, fun q hq => (h2.2 q (Nat.lt_of_lt_of_le hq h.1)).trans (h.2 q hq)⟩
theorem CS.kp {D : va_G} {Y : Nat → ClassId} {F : Nat → Prop} {t0 la x na : Nat} {ju mi lo : Int32} {rs : List RV} {H H1 : Heap} (h : CS D Y F t0 la x na ju mi lo rs H) (hk : Kp H H1) : CS D Y F t0 la x na ju mi lo rs H1 := h.kept (fun q hq _ => hk.2 q hq)
theorem CS.mono {D : va_G} {Y : Nat → ClassId} {F F' : Nat → Prop} {t0 la x na : Nat} {ju mi lo : Int32} {rs : List RV} {H : Heap} (h : CS D Y F t0 la x na ju mi lo rs H) (hF : ∀ q, q < H.size → F q → F' q) : CS D Y F' t0 la x na ju mi lo rs H := by
  rcases h with ⟨ea, cap, h1, mod, es, nt, L, P, e, hc, hP, hD⟩ | ⟨e, mod, nt, hP, hD⟩
  · exact Or.inl ⟨ea, cap, h1, mod, es, nt, L, P, e, hc, hP, hD.weaken (fun k q hk hq => hF q.1 (vx_lt hP hk) hq)⟩
  · exact Or.inr ⟨e, mod, nt, hP, hD.weaken (fun k q hk hq => hF q.1 (vx_lt hP hk) hq)⟩
/-- the class holds these rules, to be read -/
def Hd (D : va_G) (Y : Nat → ClassId) (x : Nat) (ju mi lo : Int32) (rs : List RV) (H : Heap) : Prop := ∃ (la na ea cap : Nat) (mod : Int32) (es : Nat → Option Nat) (nt : Nat → Int32) (L : List RA), rdA D Y x la na ea cap mod es nt ju mi lo L H ∧ RS L = rs
theorem CS.hd {D : va_G} {Y : Nat → ClassId} {F : Nat → Prop} {t0 la x na : Nat} {ju mi lo : Int32} {rs : List RV} {H : Heap} (h : CS D Y F t0 la x na ju mi lo rs H) : Hd D Y x ju mi lo rs H := by
  obtain ⟨ea, cap, mod, es, nt, L, hA, e⟩ := h.rd
  exact ⟨la, na, ea, cap, mod, es, nt, L, hA, e⟩
theorem Hd.recv {D : va_G} {Y : Nat → ClassId} {x : Nat} {ju mi lo : Int32} {rs : List RV} {H : Heap} {s : State} (h : Hd D Y x ju mi lo rs H) (hK : KK D Y s) : ∃ cellB : Cell, H[x]? = some cellB ∧ cellB.vm.isStatics = false ∧ s.vm.findClass RX2 = some cellB.cls := by
  obtain ⟨la, na, ea, cap, mod, es, nt, L, hA, e⟩ := h
  exact va_recv hK.1 hA.1 (ci := 2) (q0 := 0) rfl rfl
theorem Hd.cell {D : va_G} {Y : Nat → ClassId} {x : Nat} {ju mi lo : Int32} {rs : List RV} {H : Heap} (h : Hd D Y x ju mi lo rs H) : ∃ fsx : List Value, va_P D aCl [(x, .inr (2, fsx))] H := by
  obtain ⟨la, na, ea, cap, mod, es, nt, L, hA, e⟩ := h
  exact ⟨_, hA.1⟩
theorem Hd.ok {D : va_G} {Y : Nat → ClassId} {x : Nat} {ju mi lo : Int32} {rs : List RV} {H : Heap} (h : Hd D Y x ju mi lo rs H) : rsOk rs := by
  obtain ⟨la, na, ea, cap, mod, es, nt, L, hA, e⟩ := h
  rw [← e]
  exact hA.2.2.2.2.2
section QS
variable {l : Launch} {D : va_G} {Y : Nat → ClassId} {x : Nat} {ju mi lo : Int32} {rs : List RV} {H : Heap}
theorem q_rules (h : Hd D Y x ju mi lo rs H) : Rd l yX2_rules wsX2_rules 1 D Y [.ref x] H (nI rs.length) := by
  obtain ⟨la, na, ea, cap, mod, es, nt, L, hA, rfl⟩ := h
  rw [RS_len]
  exact k_X2_rules l hA
theorem q_misses (h : Hd D Y x ju mi lo rs H) : Rd l yX2_misses wsX2_misses 0 D Y [.ref x] H (mi) := by
  obtain ⟨la, na, ea, cap, mod, es, nt, L, hA, rfl⟩ := h
  exact k_X2_misses l hA
theorem q_permitted (h : Hd D Y x ju mi lo rs H) : Rd l yX2_permitted wsX2_permitted 4 D Y [.ref x] H (nI (pmT rs)) := by
  obtain ⟨la, na, ea, cap, mod, es, nt, L, hA, rfl⟩ := h
  exact k_X2_permitted l hA
theorem q_allEntries (h : Hd D Y x ju mi lo rs H) : Rd l yX2_allEntries wsX2_allEntries 4 D Y [.ref x] H (nI (sumN (fun k => enN (gt rs k)) rs.length)) := by
  obtain ⟨la, na, ea, cap, mod, es, nt, L, hA, rfl⟩ := h
  rw [RS_len]
  exact k_X2_allEntries l hA
theorem q_sources (h : Hd D Y x ju mi lo rs H) {i : Nat} (hi : i < rs.length) : Rd l yX2_sources wsX2_sources 4 D Y [.ref x, .int (nI i)] H (nI (100 * sF (gt rs i) + sT (gt rs i))) := by
  obtain ⟨la, na, ea, cap, mod, es, nt, L, hA, rfl⟩ := h
  rw [RS_len] at hi
  exact k_X2_sources l hA hi
theorem q_destinations (h : Hd D Y x ju mi lo rs H) {i : Nat} (hi : i < rs.length) : Rd l yX2_destinations wsX2_destinations 4 D Y [.ref x, .int (nI i)] H (nI (100 * dF (gt rs i) + dT (gt rs i))) := by
  obtain ⟨la, na, ea, cap, mod, es, nt, L, hA, rfl⟩ := h
  rw [RS_len] at hi
  exact k_X2_destinations l hA hi
theorem q_protocols (h : Hd D Y x ju mi lo rs H) {i : Nat} (hi : i < rs.length) : Rd l yX2_protocols wsX2_protocols 4 D Y [.ref x, .int (nI i)] H (nI (pR (gt rs i))) := by
  obtain ⟨la, na, ea, cap, mod, es, nt, L, hA, rfl⟩ := h
  rw [RS_len] at hi
  exact k_X2_protocols l hA hi
theorem q_permits (h : Hd D Y x ju mi lo rs H) {i : Nat} (hi : i < rs.length) : Rd l yX2_permits wsX2_permits 4 D Y [.ref x, .int (nI i)] H (bI (pM (gt rs i))) := by
  obtain ⟨la, na, ea, cap, mod, es, nt, L, hA, rfl⟩ := h
  rw [RS_len] at hi
  exact k_X2_permits l hA hi
theorem q_hits (h : Hd D Y x ju mi lo rs H) {i : Nat} (hi : i < rs.length) : Rd l yX2_hits wsX2_hits 4 D Y [.ref x, .int (nI i)] H (hT (gt rs i)) := by
  obtain ⟨la, na, ea, cap, mod, es, nt, L, hA, rfl⟩ := h
  rw [RS_len] at hi
  exact k_X2_hits l hA hi
theorem q_decides (h : Hd D Y x ju mi lo rs H) {i : Nat} (hi : i < rs.length) : Rd l yX2_decides wsX2_decides 5 D Y [.ref x, .int (nI i)] H (nI (dcN rs i)) := by
  obtain ⟨la, na, ea, cap, mod, es, nt, L, hA, rfl⟩ := h
  rw [RS_len] at hi
  exact k_X2_decides l hA hi
theorem q_isRedundant (h : Hd D Y x ju mi lo rs H) {i : Nat} (hi : i < rs.length) : Rd l yX2_isRedundant wsX2_isRedundant 5 D Y [.ref x, .int (nI i)] H (bI (ndB rs i)) := by
  obtain ⟨la, na, ea, cap, mod, es, nt, L, hA, rfl⟩ := h
  rw [RS_len] at hi
  exact k_X2_isRedundant l hA hi
theorem q_isShadowed (h : Hd D Y x ju mi lo rs H) {i : Nat} (hi : i < rs.length) : Rd l yX2_isShadowed wsX2_isShadowed 5 D Y [.ref x, .int (nI i)] H (bI (decide (dcN rs i = 0))) := by
  obtain ⟨la, na, ea, cap, mod, es, nt, L, hA, rfl⟩ := h
  rw [RS_len] at hi
  exact k_X2_isShadowed l hA hi
theorem q_entries (h : Hd D Y x ju mi lo rs H) {i : Nat} (hi : i < rs.length) : Rd l yX2_entries wsX2_entries 4 D Y [.ref x, .int (nI i)] H (nI (enN (gt rs i))) := by
  obtain ⟨la, na, ea, cap, mod, es, nt, L, hA, rfl⟩ := h
  rw [RS_len] at hi
  exact k_X2_entries l hA hi
theorem q_overlap (h : Hd D Y x ju mi lo rs H) {i j : Nat} (hi : i < rs.length) (hj : j < rs.length) : Rd l yX2_overlap wsX2_overlap 4 D Y [.ref x, .int (nI i), .int (nI j)] H (nI (cpN (gt rs i) (gt rs j))) := by
  obtain ⟨la, na, ea, cap, mod, es, nt, L, hA, rfl⟩ := h
  rw [RS_len] at hi
  rw [RS_len] at hj
  exact k_X2_overlap l hA hi hj
theorem q_entryValue (h : Hd D Y x ju mi lo rs H) {i e0 : Nat} (hi : i < rs.length) (he : e0 < enN (gt rs i)) : Rd l yX2_entryValue wsX2_entryValue 4 D Y [.ref x, .int (nI i), .int (nI e0)] H (nI (evN (gt rs i) e0)) := by
  obtain ⟨la, na, ea, cap, mod, es, nt, L, hA, rfl⟩ := h
  rw [RS_len] at hi
  exact k_X2_entryValue l hA hi he
theorem q_entryMask (h : Hd D Y x ju mi lo rs H) {i e0 : Nat} (hi : i < rs.length) (he : e0 < enN (gt rs i)) : Rd l yX2_entryMask wsX2_entryMask 4 D Y [.ref x, .int (nI i), .int (nI e0)] H (nI (emN (gt rs i) e0)) := by
  obtain ⟨la, na, ea, cap, mod, es, nt, L, hA, rfl⟩ := h
  rw [RS_len] at hi
  exact k_X2_entryMask l hA hi he
theorem q_averageLooks (h : Hd D Y x ju mi lo rs H) : MetD lw_cs l yX2_averageLooks wsX2_averageLooks (rmN 0) (RdP D Y [.ref x] H) (va_Qf (fun (r : UInt32) (_ : Unit) => avR lo ju r) (fun _ t => t.heap = H) (fun _ => False)) 0 0 (fun _ => False) := by
  obtain ⟨la, na, ea, cap, mod, es, nt, L, hA, rfl⟩ := h
  exact k_X2_averageLooks l hA
end QS
/-- a method that may draw -/
def UD (l : Launch) (y : MethodName) (ws : List Cond) (d mc ms : Nat) (D : va_G) (Y : Nat → ClassId) (E : State → Prop) (av : List Value) (H : Heap) (F : Nat → Prop) (B : Heap → Prop) (r : Int32) : Prop := MetD lw_cs l y ws (rmG d mc ms) (UcP D Y E av H) (va_Qi (fun (x : Int32) (_ : Unit) => x = r) (fun _ t => B t.heap) F) mc ms F
theorem UD.start {l : Launch} {y : MethodName} {ws ws' : List Cond} {d mc ms : Nat} {D : va_G} {Y : Nat → ClassId} {E : State → Prop} {av : List Value} {H0 : Heap} {F : Nat → Prop} {B : Heap → Prop} {r : Int32} {cc : ByteArray} {maxL : Nat} {rt : FieldType} (hy : plainName y.cls = true) (hw : ws = Cond.code y cc maxL (some rt) :: ws') (hn : (lg_sl av).length ≤ maxL)
    (body : ∀ (p : Program) (e : Env) (s : State) (m : MethodId) (args : Array Value) (below : List Frame) (meth : Method) (c : Code) (ls : Array Slot) (Q : State → Prop), (∀ d : Drawn, CallFix p m c cc maxL (s.setDrawn d) args ws y.cls) → KK D Y s → s.heap = H0 → E s → va_S F H0 H0 [] → lv_has ls maxL (lv_args 0 av) →
      (∀ (d0 : Drawn) (pc : Nat) (ls : Array Slot) (v : Int32) (H : Heap) (locs : List Loc), s.drawn.sameBut d0 lw_cs → decode cc pc = .ok (.ireturn, 1) → narrow rt (.int v) = .int v → v = r → B H → va_S F H0 H locs → W p l e (rmG d mc ms) (s.setDrawn d0) m args below meth c H locs mc ms Q (F0 m pc ls [.int v])) →
      ∀ d0 : Drawn, s.drawn.sameBut d0 lw_cs → W p l e (rmG d mc ms) (s.setDrawn d0) m args below meth c H0 [] 0 0 Q (F0 m 0 ls [])) : UD l y ws d mc ms D Y E av H0 F B r := by
  refine MetD.ofW (cc := cc) (maxL := maxL) (ret := some rt) hy hw ?_
  intro p e s m args below meth c s₁ Bd hml hv hd0
  obtain ⟨rfl, ⟨hH, hE⟩, hK⟩ := hv
  subst hH
  have hl := lv_entry av hn
  have hts := atoms_spec (ws := ws) Bd.pre
  have hlocks := Bd.notSynchronized
  rw [lg_entry_eq]
  refine body p e s m _ below meth c _ _ (fun d => ⟨Bd.exec, Bd.bytes, hml, findClass_of_methodNamed Bd.named, dr_words hts d⟩) hK rfl hE va_S.rf hl ?_ s.drawn hd0
  intro d1 pc ls v H locs hd1 hdg hty hvr hB hS
  refine W.endD hd1 ?_
  exact W.zret Bd.exec Bd.bytes Bd.returns hty (fun t ht _ => ⟨⟨v, (), rfl, hvr, (by show B t.heap; rw [ht]; exact hB)⟩, hS.F ht⟩) hS.2.2 hdg hlocks
section UDS
variable {p : Program} {l : Launch} {e : Env} {R : Room} {s : State} {m : MethodId} {args : Array Value} {below : List Frame} {meth : Method} {c : Code} {H : Heap} {locs : List Loc} {cells slots : Nat} {Q : State → Prop} {cc : ByteArray} {pc : Nat} {ls : Array Slot} {rest : List Value}
variable {y : MethodName} {ws : List Cond} {d mc ms index n nL : Nat} {D : va_G} {Y : Nat → ClassId} {As st : List Value} {b : Addr} {own C : String} {Ts : List Cond} {bytes : ByteArray} {maxL : Nat} {ret : Option FieldType} {A F : Nat → Prop} {H0 : Heap} {E : State → Prop} {r : Int32} {d0 : Drawn} {x : Nat} {ju mi lo : Int32} {rs : List RV}
theorem UD.callS {B : Heap → Prop} (hd0 : s.drawn.sameBut d0 lw_cs) (S : CallFix p m c cc nL (s.setDrawn d0) args Ts own) (hM : UD l y ws d mc ms D Y E As H F B r) (cw : CallB R (s.setDrawn d0) args own index y bytes maxL ret ws (rmG d mc ms) mc ms n ∧ (Cond.static y).before args (s.setDrawn d0) = true) (hK : KK D Y (s.setDrawn d0)) (hEb : Ebl E) (hEs : ∀ U : State, (s.setDrawn d0).WarmedH U.vm → U.heap = H → E U) (hS : va_S A H0 H locs) (hF : ∀ q, F q → A q) (hn : As.length = n) (hsize : ls.size = nL) (hst : st = As.reverse ++ rest) (hcat : (rest.map fun v => v.category).sum ≤ 8) (hdg : decode cc pc = .ok (.invokestatic index, 3)) (hf : cells + mc ≤ R.cells ∧ slots + ms ≤ R.slots)
    (k : ∀ (d1 : Drawn) (H1 : Heap) (locs1 : List Loc), s.drawn.sameBut d1 lw_cs → B H1 → va_S A H0 H1 locs1 → H.size ≤ H1.size → (∀ q : Nat, q < H.size → ¬ F q → H1[q]? = H[q]?) → W p l e R (s.setDrawn d1) m args below meth c H1 locs1 (cells + mc) (slots + ms) Q (F0 m (pc + 3) ls (.int r :: rest))) : W p l e R (s.setDrawn d0) m args below meth c H locs cells slots Q (F0 m pc ls st) :=
  va_calliD hd0 (va_runS_D (As := As) (rest := rest) (g := F0 m pc ls st) S hM cw ⟨UcP.blind hEb, fun U hU hW => ⟨rfl, ⟨hU, hEs U hW hU⟩, KK.warm hW hK⟩⟩ rfl hn hsize hst (lv_room hcat) hdg hf) hS (fun q _ h => hF q h) hF (fun x u t H1 locs1 ht hvm hp hB hz hk hS1 d1 hd1 => by
    have hp : x = r := hp
    subst hp
    have hB : B t.heap := hB
    rw [ht] at hB
    exact k d1 H1 locs1 hd1 hB hS1 hz hk)
theorem nr_avg (hd0 : s.drawn.sameBut d0 lw_cs) (S : CallFix p m c cc nL (s.setDrawn d0) args Ts own) (hH : Hd D Y x ju mi lo rs H) (cw : CallW R (s.setDrawn d0) args own RX2 index yX2_averageLooks bytes maxL ret wsX2_averageLooks (rmN 0) 0 0 0) (hK : KK D Y (s.setDrawn d0)) (hS : va_S A H0 H locs) (hsize : ls.size = nL) (hcat : (rest.map fun v => v.category).sum ≤ 8) (hdg : decode cc pc = .ok (.invokevirtual index, 3)) (hf : cells ≤ R.cells ∧ slots ≤ R.slots)
    (k : ∀ (q : UInt32) (d1 : Drawn) (locs1 : List Loc), avR lo ju q → s.drawn.sameBut d1 lw_cs → va_S A H0 H locs1 → W p l e R (s.setDrawn d1) m args below meth c H locs1 cells slots Q (F0 m (pc + 3) ls (.float q :: rest))) : W p l e R (s.setDrawn d0) m args below meth c H locs cells slots Q (F0 m pc ls (.ref x :: rest)) := by
  refine va_callfD hd0 (va_runV_D (As := []) (rest := rest) S (q_averageLooks (l := l) hH) cw ⟨RdP.blind, hH.recv hK, fun U hU hW => ⟨rfl, hU, KK.warm hW hK⟩⟩ rfl rfl hsize rfl (lv_room hcat) hdg hf) hS (fun q _ h => h.elim) (fun q h => h.elim) (fun r1 u1 t1 H1 locs9 ht1 hvm1 hw1 hB1 hz1 hk1 hS9 d1 hd1 => ?_)
  have e1 : H1 = H := by rw [← ht1]; exact hB1
  rw [e1] at hS9 ⊢
  exact k r1 d1 locs9 hw1 hd1 hS9
theorem UC.callSW {hh : List (Nat × Nat × Nat × Nat)} {B : Option Value → Heap → Prop} (S : CallFix p m c cc nL s args Ts own) (hM : UC l y ws d mc ms D Y E As H F B) (cw : vx_CSW R s args own index y bytes maxL ret hh ws (rmG d mc ms) mc ms n) (hK : KK D Y s) (hEb : Ebl E) (hEs : ∀ U : State, s.WarmedH U.vm → U.heap = H → E U) (hS : va_S A H0 H locs) (hF : ∀ q, F q → A q) (hn : As.length = n) (hsize : ls.size = nL) (hst : st = As.reverse ++ rest) (hcat : (rest.map fun v => v.category).sum ≤ 8) (hdg : decode cc pc = .ok (.invokestatic index, 3)) (hf : cells + mc ≤ R.cells ∧ slots + ms ≤ R.slots)
    (k : ∀ (v : Option Value) (H1 : Heap) (locs1 : List Loc), B v H1 → va_S A H0 H1 locs1 → H.size ≤ H1.size → (∀ q : Nat, q < H.size → ¬ F q → H1[q]? = H[q]?) → W p l e R s m args below meth c H1 locs1 (cells + mc) (slots + ms) Q (F0 m (pc + 3) ls (v.toList ++ rest))) : W p l e R s m args below meth c H locs cells slots Q (F0 m pc ls st) :=
  UC.run (vx_runSW (locs := locs) (cells := cells) (slots := slots) (g := F0 m pc ls st) (rest := rest) S hM cw ⟨UcP.blind hEb, fun U hU hW => ⟨rfl, ⟨hU, hEs U hW hU⟩, KK.warm hW hK⟩⟩ rfl hn hsize hst (lv_room hcat) hdg hf) hS hF k
end UDS
section NRX
variable {p : Program} {l : Launch} {e : Env} {R : Room} {s : State} {m : MethodId} {args : Array Value} {below : List Frame} {meth : Method} {c : Code} {H : Heap} {locs : List Loc} {cells slots : Nat} {Q : State → Prop} {cc : ByteArray} {pc : Nat} {ls : Array Slot} {rest : List Value}
/-- 'v == 0' of a number as a truth -/
theorem nr_is0 (hx : p.tables.exec = Jvm.exec) (hb : c.code = cc) {a : Nat} (ha : a < 2 ^ 31) {off off2 : Int} {t j : Nat} (d0 : decode cc pc = .ok (.ifCond .ne off, 3)) (h0 : (pc : Int) + off = (t : Int)) (d1 : decode cc (pc + 3) = .ok (.iconst 1, 1)) (d2 : decode cc (pc + 3 + 1) = .ok (.goto off2, 3)) (h2 : ((pc + 3 + 1 : Nat) : Int) + off2 = (j : Int)) (d3 : decode cc t = .ok (.iconst 0, 1)) (h3 : t + 1 = j)
    (k : W p l e R s m args below meth c H locs cells slots Q (F0 m j ls (.int (bI (decide (a = 0))) :: rest))) : W p l e R s m args below meth c H locs cells slots Q (F0 m pc ls (.int (nI a) :: rest)) := by
  refine nr_if_ne hx hb ha d0 h0 (fun h => ?_) (fun h => ?_)
  · refine lv_iconst (v := bI (decide (a = 0))) hx hb d3 (by rw [decide_eq_false (show ¬ a = 0 by omega)]; decide +kernel) ?_
    rw [h3]
    exact k
  · refine lv_iconst (v := bI (decide (a = 0))) hx hb d1 (by rw [decide_eq_true h]; decide +kernel) ?_
    exact lv_goto hx hb d2 h2 k
/-- 'v == w' of numbers as a truth -/
theorem nr_isE (hx : p.tables.exec = Jvm.exec) (hb : c.code = cc) {v w : Int32} {off off2 : Int} {t j : Nat} (d0 : decode cc pc = .ok (.if_icmp .ne off, 3)) (h0 : (pc : Int) + off = (t : Int)) (d1 : decode cc (pc + 3) = .ok (.iconst 1, 1)) (d2 : decode cc (pc + 3 + 1) = .ok (.goto off2, 3)) (h2 : ((pc + 3 + 1 : Nat) : Int) + off2 = (j : Int)) (d3 : decode cc t = .ok (.iconst 0, 1)) (h3 : t + 1 = j)
    (k : W p l e R s m args below meth c H locs cells slots Q (F0 m j ls (.int (bI (decide (v = w))) :: rest))) : W p l e R s m args below meth c H locs cells slots Q (F0 m pc ls (.int w :: .int v :: rest)) := by
  refine lv_icmp_ne hx hb d0 h0 (fun h => ?_) (fun h => ?_)
  · refine lv_iconst (v := bI (decide (v = w))) hx hb d3 (by rw [decide_eq_false h]; decide +kernel) ?_
    rw [h3]
    exact k
  · refine lv_iconst (v := bI (decide (v = w))) hx hb d1 (by rw [decide_eq_true h]; decide +kernel) ?_
    exact lv_goto hx hb d2 h2 k
end NRX
/-- low: the rest of a number without its sign -/
def lowM (v : Int32) : Nat := v.toBitVec.toNat % 2147483648
def lowN (v : Int32) (n : Nat) : Nat := lowM v % n
theorem lowM_lt (v : Int32) : lowM v < 2147483648 := Nat.mod_lt _ (by decide)
theorem lowN_lt (v : Int32) {n : Nat} (h : 0 < n) : lowN v n < n := Nat.mod_lt _ h
theorem low_and (v : Int32) : v &&& (2147483647 : Int32) = nI (lowM v) := by
  have h1 : v = nI v.toBitVec.toNat := by
    apply Int32.toBitVec_inj.1
    show v.toBitVec = BitVec.ofNat 32 v.toBitVec.toNat
    simp
  have h2 : (2147483647 : Int32) = nI 2147483647 := rfl
  have h3 := nx_and v.toBitVec.toNat 2147483647
  rw [← h1, ← h2] at h3
  rw [h3]
  unfold lowM
  rw [show (2147483647 : Nat) = 2 ^ 31 - 1 from rfl, Nat.and_two_pow_sub_one_eq_mod]
