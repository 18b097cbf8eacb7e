/-! what a method finds around its world: the script, five String constants, two statics of Throwable, words that change form under warming -/
/-- the last: whether the end forgets the cells (the law's does) -/
abbrev XT : Type := (Nat × Nat × (Nat → Int32)) × (Nat → Nat) × (Nat → Nat) × Nat × Bool
def xF (X : XT) : Bool := X.2.2.2.2
def isNw : Cond → Bool
  | .methodLinkNest .. => true
  | .fieldLinkNest .. => true
  | .castable .. => true
  | .declares .. => true
  | _ => false
def zLen : List Nat := [4, 5, 4, 5, 5, 1, 0, 5, 1, 6, 5, 6, 7, 2]
def zByt : List (List Int32) := [[112, 97, 103, 101], [102, 114, 111, 110, 116], [98, 97, 99, 107], [115, 105, 122, 101, 115], [108, 101, 97, 115, 116], [45], [], [112, 97, 103, 101, 32], [32], [59, 102, 114, 111, 110, 116], [59, 98, 97, 99, 107], [59, 115, 105, 122, 101, 115], [59, 108, 101, 97, 115, 116, 32], [32, 59]]
def zStr : List (String × Nat × String × Nat) := [(RX2, 79, "page", 0), (RX2, 99, "front", 1), (RX2, 105, "back", 2), (RX2, 107, "sizes", 3), (RX2, 112, "least", 4), (RX6, 18, "-", 5), (RX6, 35, "", 6), (RL, 96, "", 6), (RL, 141, "page ", 7), (RL, 146, " ", 8), (RL, 148, ";front", 9), (RL, 150, ";back", 10), (RL, 152, ";sizes", 11), (RL, 156, ";least ", 12), (RL, 158, " ;", 13)]
abbrev eIA : String := "java/lang/IllegalArgumentException"
abbrev eIO : String := "java/lang/IndexOutOfBoundsException"
abbrev eNS : String := "java/util/NoSuchElementException"
abbrev eIS : String := "java/lang/IllegalStateException"
def zNc : List (String × String) := [(eIA, eIO), (eIA, eNS), (eIS, eIO), (eIS, eIA)]
abbrev zF1 : String := "jdk/internal/util/Preconditions"
abbrev zF2 : String := "SIOOBE_FORMATTER"
abbrev zF3 : String := "Ljava/util/function/BiFunction;"
def EV (X : XT) (A : Nat → Prop) (U : State) (H : Heap) : Prop :=
  (∀ w, w ∈ tables_1 → isNw w = true → va_Nw w U) ∧ (∀ q ∈ zNc, va_Nc q.1 q.2 U) ∧ (va_AO "LetterCuts$Sheet" U ∧ va_AO "java/lang/String" U ∧ va_AO "LetterCutsLaw$Sheet" U) ∧ va_AOA .int U ∧
  vk_S 14 zLen zByt X.2.1 X.2.2.1 A U H ∧ (∀ q ∈ zStr, vk_R q.1 q.2.1 q.2.2.1 (X.2.1 q.2.2.2) U) ∧
  va_Z "java/lang/String" "COMPACT_STRINGS" "Z" (.int 1) A U H ∧ vx_Zq Bundle.tN "UNASSIGNED_STACK" Bundle.steD A U H ∧ vx_Zq Bundle.tN "SUPPRESSED_SENTINEL" Bundle.listD A U H ∧
  (va_X X.1.1 X.1.2.1 X.1.2.2 U H ∧ X.1.1 < H.size ∧ ¬ A X.1.1) ∧ (va_Z zF1 zF2 zF3 .null A U H ∨ va_Z zF1 zF2 zF3 (.ref X.2.2.2.1) A U H)
theorem nw_warm {s U : State} (hW : s.WarmedH U.vm) {w : Cond} (hw : isNw w = true) (h : va_Nw w s) : va_Nw w U := by
  cases w <;> first | exact va_Nw.warmM hW h | exact va_Nw.warmF hW h | exact va_Nw.warmC hW h | exact va_Nw.warmD hW h | (simp [isNw] at hw)
theorem nw_same {U U' : State} (hv : U.vm = U'.vm) {w : Cond} (hw : isNw w = true) (h : va_Nw w U) : va_Nw w U' := by
  cases w <;> first | exact va_Nw.same rfl hv h | (simp [isNw] at hw)
theorem va_AOA.moved {ty : FieldType} {u U : State} (hvm : u.vm.Alike U.vm) (h : va_AOA ty u) : va_AOA ty U := by
  unfold va_AOA at h
  rw [← Cond.arrayOver_setVmC (args := #[]) hvm (.array ty)] at h
  exact h
theorem EV.call {X : XT} {A A' : Nat → Prop} {s U : State} {H : Heap} {locs : List Loc} (h : EV X A s s.heap) (hW : s.WarmedH U.vm) (hU : U.heap = H) (hS : va_S A s.heap H locs) (hA : ∀ q, A' q → A q) : EV X A' U U.heap := by
  subst hU
  obtain ⟨h1, h2, h3, h4, h5, h6, h7, h8, h9, ⟨h10, h11, h12⟩, h13⟩ := h
  exact ⟨fun w hw hn => nw_warm hW hn (h1 w hw hn), fun q hq => va_Nc.moved hW.alike (h2 q hq), ⟨va_AO.moved hW.alike h3.1, va_AO.moved hW.alike h3.2.1, va_AO.moved hW.alike h3.2.2⟩, va_AOA.moved hW.alike h4,
    ((h5.kept hS.2.1).narrow hA).moved hW.alike, fun q hq => vk_R.warm hW (h6 q hq), ((h7.kept hS.2.1).narrow hA).moved hW.alike, ((h8.kept hS.2.1).narrow hA).moved hW.alike, ((h9.kept hS.2.1).narrow hA).moved hW.alike,
    ⟨(h10.kept (hS.2.1 _ h11 h12)).moved hW.alike, Nat.lt_of_lt_of_le h11 hS.1, fun z => h12 (hA _ z)⟩, h13.imp (fun z => ((z.kept hS.2.1).narrow hA).moved hW.alike) (fun z => ((z.kept hS.2.1).narrow hA).moved hW.alike)⟩
theorem EV.same {X : XT} {A : Nat → Prop} {U U' : State} {H : Heap} (hv : U'.vm = U.vm) (h : EV X A U H) : EV X A U' H := by
  have ha : U.vm.Alike U'.vm := by rw [hv]; exact Vm.Alike.refl _
  obtain ⟨h1, h2, h3, h4, h5, h6, h7, h8, h9, ⟨h10, h11, h12⟩, h13⟩ := h
  exact ⟨fun w hw hn => nw_same hv.symm hn (h1 w hw hn), fun q hq => va_Nc.moved ha (h2 q hq), ⟨va_AO.moved ha h3.1, va_AO.moved ha h3.2.1, va_AO.moved ha h3.2.2⟩, va_AOA.moved ha h4,
    h5.moved ha, fun q hq => vk_R.same hv (h6 q hq), h7.moved ha, h8.moved ha, h9.moved ha, ⟨h10.moved ha, h11, h12⟩, h13.imp (fun z => z.moved ha) (fun z => z.moved ha)⟩
/-- the addresses of the script, the Strings and their bytes, under the numbers from 1000 on -/
def adOK (X : XT) (ad : Nat → Nat) : Prop := ad 1000 = X.1.1 ∧ (∀ i, i < 14 → ad (1001 + i) = X.2.1 i) ∧ (∀ i, i < 14 → ad (1041 + i) = X.2.2.1 i) ∧ ad 1020 = X.2.2.2.1
/-! the judgement -/
abbrev MT : Type := MethodName × ByteArray × Nat × Option FieldType × List (Nat × Nat × Nat × Nat)
abbrev Res : Type := Option Value ⊕ String
def mN (t : MT) : MethodName := t.1
def mB (t : MT) : ByteArray := t.2.1
def mL (t : MT) : Nat := t.2.2.1
def mR (t : MT) : Option FieldType := t.2.2.2.1
def mH (t : MT) : List (Nat × Nat × Nat × Nat) := t.2.2.2.2
def CX (X : XT) (mt : MT) (l : Launch) (d : Nat) (R : Room) (p : Program) (s : State) (m : MethodId) (args : Array Value) (meth : Method) (c : Code) (A : Nat → Prop) (G : va_G) (cls : Nat → ClassId) : Prop :=
  p.tables.exec = Jvm.exec ∧ c.code = mB mt ∧ c.maxLocals = mL mt ∧ s.vm.findClass (mN mt).cls = some m.cls ∧ (∀ w, w ∈ lw_tb2 → goodWord w = true → w.before args s = true) ∧ meth.locks = false ∧ l.stackTraces = false ∧
  c.exceptionTable.toList = tableOf (mH mt) ∧ meth.name = (mN mt).name ∧ (∀ q, s.heap.size ≤ q → A q) ∧ va_K G vwCl (tysOf cls) s ∧ EV X A s s.heap ∧ d ≤ R.frames ∧ 40 * d ≤ R.locals
def WD (X : XT) (A : Nat → Prop) (G : va_G) (cls : Nat → ClassId) (s : State) (h : AH) (ad : Nat → Nat) (H : Heap) (locs : List Loc) : Prop :=
  va_P G vwCl (wld cls ad h) H ∧ va_D A (wld cls ad h) ∧ va_S A s.heap H locs ∧ wfh h ∧ adOK X ad
def retOK (mt : MT) (ins : Instr) (v : Option Value) : Prop := (v = none ∧ ins = .return_ ∧ mR mt = none) ∨ (∃ x ty, v = some (.int x) ∧ ins = .ireturn ∧ mR mt = some ty ∧ narrow ty (.int x) = .int x) ∨ (∃ x, v = some (.long x) ∧ ins = .lreturn ∧ mR mt = some .long) ∨ (∃ x, v = some (.double x) ∧ ins = .dreturn ∧ mR mt = some .double) ∨ (∃ a ty, v = some (.ref a) ∧ ins = .areturn ∧ mR mt = some ty ∧ a ≠ 1030 ∧ kT ty = 2)
/-- 'throw new E()' at pc, and the words that it wants -/
def thrOK (mt : MT) (pc : Nat) (E : String) : Prop := ∃ ik ic names, decode (mB mt) pc = .ok (.new ik, 3) ∧ decode (mB mt) (pc + 3) = .ok (.dup, 1) ∧ decode (mB mt) (pc + 4) = .ok (.invokespecial ic, 3) ∧ decode (mB mt) (pc + 7) = .ok (.athrow, 1) ∧
  Bundle.fit E = true ∧ (∀ n ∈ names, Bundle.fit n = true) ∧ names.length ≤ 3 ∧ (∀ w ∈ Cond.classLink (mN mt).cls ik E :: Cond.initialized E :: vx_at0 (mN mt).cls ic E names, w ∈ lw_tb2 ∧ goodWord w = true ∨ w ∈ tables_1 ∧ isNw w = true) ∧ mH mt = []
def FIN (X : XT) (mt : MT) (p : Program) (l : Launch) (e : Env) (R : Room) (s : State) (m : MethodId) (args : Array Value) (below : List Frame) (meth : Method) (c : Code) (A : Nat → Prop) (G : va_G) (cls : Nat → ClassId) (Z : State → Prop) (n : Nat) (ad : Nat → Nat) (Q : Res → AH → Prop) : Prop :=
  (∀ (v : Option Value) (h' : AH), Q (.inl v) h' → ∀ (ad' : Nat → Nat) (H' : Heap) (locs' : List Loc) (cells' slots' : Nat) (lsA : Array Slot) (pc : Nat) (ins : Instr), (xF X = false → ∀ a, (prN n a ∨ ¬ prN (hN h') a) → ad' a = ad a) → (xF X = false → ∀ a, prN n a → prN (hN h') a) → WD X A G cls s h' ad' H' locs' → cells' ≤ R.cells → slots' ≤ R.slots →
    decode (mB mt) pc = .ok (ins, 1) → retOK mt ins v → W p l e R s m args below meth c H' locs' cells' slots' Z (F0 m pc lsA ((v.map (cv ad')).toList))) ∧
  (∀ (E : String) (h' : AH), Q (.inr E) h' → ∀ (ad' : Nat → Nat) (H' : Heap) (locs' : List Loc) (cells' slots' : Nat) (lsA : Array Slot) (pc : Nat) (st : List Value), (xF X = false → ∀ a, (prN n a ∨ ¬ prN (hN h') a) → ad' a = ad a) → (xF X = false → ∀ a, prN n a → prN (hN h') a) → WD X A G cls s h' ad' H' locs' → cells' + 1 ≤ R.cells → slots' + 6 ≤ R.slots →
    lsA.size = c.maxLocals → (st.map fun v => v.category).sum ≤ 8 → 8 ≤ R.frames → 320 ≤ R.locals → thrOK mt pc E → W p l e R s m args below meth c H' locs' cells' slots' Z (F0 m pc lsA st))
def AW (X : XT) (mt : MT) (d kc ks pc : Nat) (ls : List (Nat × Value)) (st : List Value) (h : AH) (Q : Res → AH → Prop) : Prop :=
  ∀ (p : Program) (l : Launch) (e : Env) (R : Room) (s : State) (m : MethodId) (args : Array Value) (below : List Frame) (meth : Method) (c : Code) (A : Nat → Prop) (G : va_G) (cls : Nat → ClassId) (Z : State → Prop) (H : Heap) (locs : List Loc) (cells slots : Nat) (ad : Nat → Nat) (lsA : Array Slot),
    CX X mt l d R p s m args meth c A G cls → FIN X mt p l e R s m args below meth c A G cls Z (hN h) ad Q → WD X A G cls s h ad H locs → cells + kc ≤ R.cells → slots + ks ≤ R.slots → lv_has lsA (mL mt) (ls.map (cl1 ad)) →
    W p l e R s m args below meth c H locs cells slots Z (F0 m pc lsA (st.map (cv ad)))
