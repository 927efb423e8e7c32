/-! the law: two objects beside each other, its state -/
def Tw (D : va_G) (Y : Nat → ClassId) (t0 sz la x na la2 x2 na2 : Nat) (ju mi lo : Int32) (rs : List RV) (ju2 mi2 lo2 : Int32) (rs2 : List RV) (H : Heap) : Prop :=
  ∃ G1 G2 : Nat → Prop, CS D Y G1 t0 la x na ju mi lo rs H ∧ CS D Y G2 t0 la2 x2 na2 ju2 mi2 lo2 rs2 H ∧ (∀ q, G1 q → ¬ G2 q) ∧ (∀ q, G1 q → sz ≤ q) ∧ (∀ q, G2 q → sz ≤ q) ∧ sz ≤ H.size
section TWS
variable {D : va_G} {Y : Nat → ClassId} {t0 sz la x na la2 x2 na2 : Nat} {ju mi lo : Int32} {rs : List RV} {ju2 mi2 lo2 : Int32} {rs2 : List RV} {H H1 : Heap}
theorem Tw.sym (h : Tw D Y t0 sz la x na la2 x2 na2 ju mi lo rs ju2 mi2 lo2 rs2 H) : Tw D Y t0 sz la2 x2 na2 la x na ju2 mi2 lo2 rs2 ju mi lo rs H := by
  obtain ⟨G1, G2, h1, h2, h3, h4, h5, h6⟩ := h
  exact ⟨G2, G1, h2, h1, fun q a b => h3 q b a, h5, h4, h6⟩
theorem Tw.kp (h : Tw D Y t0 sz la x na la2 x2 na2 ju mi lo rs ju2 mi2 lo2 rs2 H) (hk : Kp H H1) : Tw D Y t0 sz la x na la2 x2 na2 ju mi lo rs ju2 mi2 lo2 rs2 H1 := by
  obtain ⟨G1, G2, h1, h2, h3, h4, h5, h6⟩ := h
  exact ⟨G1, G2, h1.kp hk, h2.kp hk, h3, h4, h5, Nat.le_trans h6 hk.1⟩
/-- one of them is called: where its cells lie; then the other stands as it was -/
theorem Tw.o (h : Tw D Y t0 sz la x na la2 x2 na2 ju mi lo rs ju2 mi2 lo2 rs2 H) : ∃ F : Nat → Prop, CS D Y F t0 la x na ju mi lo rs H ∧ (∀ q, H.size ≤ q → F q) ∧ (∀ q, F q → sz ≤ q) ∧
    ∀ (ju3 mi3 lo3 : Int32) (rs3 : List RV) (H1 : Heap), CS D Y F t0 la x na ju3 mi3 lo3 rs3 H1 → H.size ≤ H1.size → (∀ q : Nat, q < H.size → ¬ F q → H1[q]? = H[q]?) → Tw D Y t0 sz la x na la2 x2 na2 ju3 mi3 lo3 rs3 ju2 mi2 lo2 rs2 H1 := by
  obtain ⟨G1, G2, h1, h2, h3, h4, h5, h6⟩ := h
  refine ⟨fun q => G1 q ∨ H.size ≤ q, h1.mono (fun q _ z => Or.inl z), fun q z => Or.inr z, fun q z => z.elim (h4 q) (fun w => Nat.le_trans h6 w), ?_⟩
  intro ju3 mi3 lo3 rs3 H1 hc hsz hk
  have h2' : CS D Y (fun q => G2 q ∧ q < H.size) t0 la2 x2 na2 ju2 mi2 lo2 rs2 H := h2.mono (fun q hq z => ⟨z, hq⟩)
  refine ⟨_, _, hc, h2'.kept (fun q hq z => hk q hq (fun w => w.elim (fun a => h3 q a z.1) (fun a => absurd z.2 (Nat.not_lt.mpr a)))), fun q a b => a.elim (fun a => h3 q a b.1) (fun a => absurd b.2 (Nat.not_lt.mpr a)), fun q z => z.elim (h4 q) (fun w => Nat.le_trans h6 w), fun q z => h5 q z.1, Nat.le_trans h6 hsz⟩
theorem Tw.c1 (h : Tw D Y t0 sz la x na la2 x2 na2 ju mi lo rs ju2 mi2 lo2 rs2 H) : ∃ G : Nat → Prop, CS D Y G t0 la x na ju mi lo rs H := by
  obtain ⟨G1, G2, h1, -⟩ := h
  exact ⟨G1, h1⟩
theorem Tw.hd1 (h : Tw D Y t0 sz la x na la2 x2 na2 ju mi lo rs ju2 mi2 lo2 rs2 H) : Hd D Y x ju mi lo rs H := by
  obtain ⟨G1, h1⟩ := h.c1
  exact h1.hd
theorem Tw.hd2 (h : Tw D Y t0 sz la x na la2 x2 na2 ju mi lo rs ju2 mi2 lo2 rs2 H) : Hd D Y x2 ju2 mi2 lo2 rs2 H := h.sym.hd1
theorem Tw.ok (h : Tw D Y t0 sz la x na la2 x2 na2 ju mi lo rs ju2 mi2 lo2 rs2 H) : rsOk rs := h.hd1.ok
end TWS
theorem JL.av {ju lo : Int32} {n : Nat} (h : JL ju lo n) (hn : n ≤ 72) : ∃ q : UInt32, avK q = true ∧ ∀ r, avR lo ju r → r = q := by
  obtain ⟨J, L, rfl, rfl, h1, h2⟩ := h
  exact av_one (by omega) h1
/-- what holds of the law's run all along -/
def LEn (l : Launch) (p : Program) (s : State) (m : MethodId) (meth : Method) (c : Code) (b L : Nat) (xs : Nat → Int32) (D : va_G) (Y : Nat → ClassId) (t0 : Nat) : Prop := lw_At p s m meth c b L xs ∧ KK D Y s ∧ eL t0 (bigA s) (bigA s) s ∧ l.stackTraces = false ∧ L ≤ 260
abbrev lwW (p : Program) (l : Launch) (e : Env) (s : State) (m : MethodId) (below : List Frame) (meth : Method) (c : Code) (b : Nat) (d0 : Drawn) (H : Heap) (locs : List Loc) (cells slots : Nat) (g : JFrame) : Prop := W p l e room_1 (s.setDrawn d0) m #[Value.ref b] below meth c H locs cells slots (lw_Z below #[Value.ref b] s) g
/-- the law goes on from a place within a turn of its loop -/
def LC (p : Program) (l : Launch) (e : Env) (s : State) (m : MethodId) (below : List Frame) (meth : Method) (c : Code) (b : Nat) (D : va_G) (Y : Nat → ClassId) (t0 la x na la2 x2 na2 pc k : Nat) (v : Int32) (cells slots : Nat) : Prop :=
  ∀ (d0 : Drawn) (ju mi lo : Int32) (rs : List RV) (H : Heap) (locs : List Loc) (ls : Array Slot), s.drawn.sameBut d0 lw_cs → Tw D Y t0 s.heap.size la x na la2 x2 na2 ju mi lo rs ju mi lo rs H → JL ju lo (k + 1) → va_S (bigA s) s.heap H locs → lv_has ls 8 [(0, .ref b), (1, .ref x), (2, .ref x2), (3, .int (nI k)), (4, .int v)] → lwW p l e s m below meth c b d0 H locs cells slots (F0 m pc ls [])
theorem itS_ok : ∀ (k : Nat) {rs : List RV}, rsOk rs → rsOk (itS k rs).1
  | 0, _, h => h
  | k + 1, rs, h => by
    cases hs : (stS rs).2 with
    | true =>
      rw [itS_go hs]
      exact itS_ok k (stS_ok h)
    | false =>
      rw [itS_stop hs]
      exact h
