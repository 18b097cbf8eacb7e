/-! the law from its start: what the Statement gives of the start, said as the abstract machine has it -/
theorem sel_priv {C : String} {n : Nat} {y z : MethodName} {s : State} {args : Array Value} (hcls : z.cls = y.cls) (hy : y.cls ≠ "java/lang/invoke/MethodHandle" ∧ y.cls ≠ "java/lang/invoke/VarHandle") (hins : (Cond.instantiable C n).before args s = true) (hpriv : (Cond.privateMethod y).before args s = true) (hinst : (Cond.instanceMethod y).before args s = true) (hz : (Cond.selects C z z).before args s = true) : (Cond.selects C y y).before args s = true := by
  obtain ⟨c, k, hc, hk, -, -, -, -⟩ := Cond.instantiable_spec hins
  obtain ⟨mk, methM, hnamed, hmethM, -, -⟩ := Cond.instanceMethod_spec hinst
  have hfound : s.methodFound? y.cls y.name y.desc = some mk := State.methodFound?_of_named hnamed hy
  have hsel : selectMethod {} s.vm c mk = .method mk := selectMethod_private hmethM (Cond.privateMethod_at hpriv mk methM hnamed hmethM)
  obtain ⟨c2, r2, m2, -, -, q3, -, kP, hkP, hkPi⟩ := Cond.selects_spec hz
  have hcc : mk.cls = m2.cls := Option.some.inj ((findClass_of_methodNamed hnamed).symm.trans (by rw [← hcls]; exact findClass_of_methodNamed q3))
  simp only [Cond.before, Cond.holds, Cond.value, hc, hfound, hnamed, hsel, hcc, hkP]
  simp
  exact hkPi
theorem jpr_ok : ∀ y ∈ jPr, y.cls = RJ5 ∧ Cond.privateMethod y ∈ tables_1 ∧ Cond.instanceMethod y ∈ tables_1 := by decide +kernel
theorem jsel_in : Cond.instantiable RJ4 4 ∈ tables_1 ∧ Cond.selects RJ4 yJ5_isLatin1_aae02 yJ5_isLatin1_aae02 ∈ tables_1 := by decide +kernel
/-- the words with 'selects' of a StringBuilder's private methods from above -/
theorem hts_2 {s : State} {args : Array Value} (hts : ∀ w ∈ lw_tbl, w.before args s = true) : ∀ w ∈ lw_tb2, w.before args s = true := by
  intro w hw
  rcases List.mem_append.mp hw with h | h
  · exact hts w h
  · obtain ⟨y, hy, rfl⟩ := List.mem_map.mp h
    obtain ⟨h1, h2, h3⟩ := jpr_ok y hy
    have t : ∀ {w : Cond}, w ∈ tables_1 → w.before args s = true := fun h => hts _ (List.mem_append_right _ h)
    exact sel_priv (z := yJ5_isLatin1_aae02) h1.symm (by rw [h1]; exact ⟨by decide +kernel, by decide +kernel⟩) (t jsel_in.1) (t h2) (t h3) (t jsel_in.2)
theorem st_eqR {args : Array Value} {s : State} {t u : Term} {a : Nat} (h : (Cond.eq t u).before args s = true) (ht : t.eval args s none [] s = some (.ref a)) : u.eval args s none [] s = some (.ref a) := by
  cases hu : u.eval args s none [] s with
  | none => simp [Cond.before, Cond.holds, Cond.value, ht, hu] at h
  | some w =>
    simp only [Cond.before, Cond.holds, Cond.value, ht, hu] at h
    cases w <;> simp_all
theorem fg_eq : Cond.eq (tmS 6) (.string RL 96) ∈ fgs := by decide +kernel
theorem fg_nc : ∀ q ∈ zNc, Cond.not (.castable q.1 q.2) ∈ fgs := by decide +kernel
theorem fg_st : Cond.isRef (.static Bundle.tN "UNASSIGNED_STACK" Bundle.steD) ∈ fgs ∧ Cond.isRef (.static Bundle.tN "SUPPRESSED_SENTINEL" Bundle.listD) ∈ fgs ∧ Cond.isRef (.static zF1 zF2 zF3) ∈ fgs ∧ Cond.eq (.static "java/lang/String" "COMPACT_STRINGS" "Z") (.int 1) ∈ fgs := by decide +kernel
theorem zLen7 : ∀ i : Fin 14, zLen.getD i.val 0 ≤ 7 := by decide
theorem st_in : (Cond.laysStatic Bundle.tN "UNASSIGNED_STACK" Bundle.steD ∈ lw_tb2 ∧ Cond.laysStatic Bundle.tN "SUPPRESSED_SENTINEL" Bundle.listD ∈ lw_tb2 ∧ Cond.laysStatic zF1 zF2 zF3 ∈ lw_tb2 ∧ Cond.laysStatic "java/lang/String" "COMPACT_STRINGS" "Z" ∈ lw_tb2) ∧ Cond.initialized Bundle.tN ∈ lw_tb2 ∧ Cond.initialized zF1 ∈ lw_tb2 ∧ Cond.initialized "java/lang/String" ∈ lw_tb2 := ⟨⟨(tbi 493 (by decide +kernel)), (tbi 495 (by decide +kernel)), (tbi 367 (by decide +kernel)), (tbi 350 (by decide +kernel))⟩, (tbi 11 (by decide +kernel)), (tbi 18 (by decide +kernel)), (tbi 16 (by decide +kernel))⟩
theorem ao_in : Cond.arrayOver (.object "LetterCuts$Sheet") ∈ lw_tb2 ∧ Cond.arrayOver (.object "java/lang/String") ∈ lw_tb2 ∧ Cond.arrayOver (.object "LetterCutsLaw$Sheet") ∈ lw_tb2 ∧ Cond.arrayOver (.array .int) ∈ lw_tb2 := ⟨(tbi 96 (by decide +kernel)), (tbi 269 (by decide +kernel)), (tbi 1275 (by decide +kernel)), (tbi 167 (by decide +kernel))⟩
theorem zs_in : ∀ q ∈ zStr, Cond.stringRef q.1 q.2.1 q.2.2.1 ∈ tables_1 := by decide +kernel
theorem zs_tm : ∀ q ∈ zStr, q.2.2.2 < 14 ∧ (Term.string q.1 q.2.1 = tmS q.2.2.2 ∨ (Term.string q.1 q.2.1 = .string RL 96 ∧ q.2.2.2 = 6)) := by
  intro q hq
  simp only [zStr, List.mem_cons, List.not_mem_nil, or_false] at hq
  rcases hq with rfl | rfl | rfl | rfl | rfl | rfl | rfl | rfl | rfl | rfl | rfl | rfl | rfl | rfl | rfl <;> first | exact ⟨by decide, Or.inl rfl⟩ | exact ⟨by decide, Or.inr ⟨rfl, rfl⟩⟩
theorem ins_in : Cond.instantiable (cR 0) (nF 0) ∈ lw_tb2 ∧ Cond.instantiable (cR 1) (nF 1) ∈ lw_tb2 ∧ Cond.instantiable (cR 2) (nF 2) ∈ lw_tb2 ∧ Cond.instantiable (cR 3) (nF 3) ∈ lw_tb2 ∧ Cond.instantiable (cR 4) (nF 4) ∈ lw_tb2 ∧ Cond.instantiable (cR 5) (nF 5) ∈ lw_tb2 ∧ Cond.instantiable (cR 6) (nF 6) ∈ lw_tb2 ∧ Cond.instantiable (cR 7) (nF 7) ∈ lw_tb2 ∧ Cond.instantiable (cR 8) (nF 8) ∈ lw_tb2 := ⟨(tbi 139 (by decide +kernel)), (tbi 159 (by decide +kernel)), (tbi 98 (by decide +kernel)), (tbi 37 (by decide +kernel)), (tbi 29 (by decide +kernel)), (tbi 248 (by decide +kernel)), (tbi 263 (by decide +kernel)), (tbi 1090 (by decide +kernel)), (tbi 950 (by decide +kernel))⟩
def nine {α : Type} (a0 a1 a2 a3 a4 a5 a6 a7 a8 : α) (k : Nat) : α := match k with | 0 => a0 | 1 => a1 | 2 => a2 | 3 => a3 | 4 => a4 | 5 => a5 | 6 => a6 | 7 => a7 | _ => a8
theorem ex_K {s : State} {args : Array Value} (hts : ∀ w ∈ lw_tb2, w.before args s = true) : ∃ (G : va_G) (cls : Nat → ClassId), va_K G vwCl (tysOf cls) s := by
  have kn : ∀ ci, ci < 9 → Cond.instantiable (cR ci) (nF ci) ∈ lw_tb2 → ∃ (cC : ClassId) (iS : Nat → Nat), u_Kn s (cR ci) (cT ci) (nF ci) cC iS := fun ci hci hi => u_known hts (fun w q => (uws_ok ci hci w q).1) (hts _ hi)
  obtain ⟨c0, i0, k0⟩ := kn 0 (by omega) ins_in.1
  obtain ⟨c1, i1, k1⟩ := kn 1 (by omega) ins_in.2.1
  obtain ⟨c2, i2, k2⟩ := kn 2 (by omega) ins_in.2.2.1
  obtain ⟨c3, i3, k3⟩ := kn 3 (by omega) ins_in.2.2.2.1
  obtain ⟨c4, i4, k4⟩ := kn 4 (by omega) ins_in.2.2.2.2.1
  obtain ⟨c5, i5, k5⟩ := kn 5 (by omega) ins_in.2.2.2.2.2.1
  obtain ⟨c6, i6, k6⟩ := kn 6 (by omega) ins_in.2.2.2.2.2.2.1
  obtain ⟨c7, i7, k7⟩ := kn 7 (by omega) ins_in.2.2.2.2.2.2.2.1
  obtain ⟨c8, i8, k8⟩ := kn 8 (by omega) ins_in.2.2.2.2.2.2.2.2
  have pr : ∀ ty : FieldType, (ty = .int ∨ ty = .byte ∨ ty = .boolean ∨ ty = .long) → Cond.arrayClass ty ∈ lw_tb2 → ∃ cA, ArrOfT s cA ty ∧ va_RA s cA ty := fun ty ht hi => by
    obtain ⟨cA, kA, comp, h1, h2, h3⟩ := Cond.arrayClass_spec (args := args) (first := s) (o := none) (s := s) (idx := []) (hts _ hi)
    refine ⟨cA, fun n z => ⟨fun k h => (by cases h), kA, h2, comp, h3⟩, ?_⟩
    rcases ht with rfl | rfl | rfl | rfl <;> exact h1
  obtain ⟨a0, p0⟩ := pr .int (Or.inl rfl) aC_in.1
  obtain ⟨a1, p1⟩ := pr .byte (Or.inr (Or.inl rfl)) aC_in.2.1
  obtain ⟨a2, p2⟩ := pr .boolean (Or.inr (Or.inr (Or.inl rfl))) aC_in.2.2.1
  obtain ⟨a3, p3⟩ := pr .long (Or.inr (Or.inr (Or.inr rfl))) aC_in.2.2.2
  obtain ⟨a4, p4⟩ : ∃ cA, ArrOfT s cA (.object "LetterCuts$Sheet") ∧ va_RA s cA (.object "LetterCuts$Sheet") := by
    obtain ⟨comp, cA, kA, h1, -, h2, h3, h4⟩ := Cond.arrayOver_spec (args := args) (first := s) (o := none) (s := s) (idx := []) (hts _ ao_in.1)
    exact ⟨cA, fun n z => ⟨fun k h => (by cases h), kA, h2, comp, h3⟩, kA, comp, h2, h3, h1, h4⟩
  obtain ⟨a5, p5⟩ : ∃ cA, ArrOfT s cA (.array .int) ∧ va_RA s cA (.array .int) := by
    obtain ⟨comp, cA, kA, h1, h2, h3, h4⟩ := Cond.arrayOver_specA (args := args) (first := s) (o := none) (s := s) (idx := []) (hts _ ao_in.2.2.2)
    exact ⟨cA, fun n z => ⟨fun k h => (by cases h), kA, h2, comp, h3⟩, h4⟩
  obtain ⟨a6, p6⟩ : ∃ cA, ArrOfT s cA (.object "java/lang/String") ∧ va_RA s cA (.object "java/lang/String") := by
    obtain ⟨comp, cA, kA, h1, -, h2, h3, h4⟩ := Cond.arrayOver_spec (args := args) (first := s) (o := none) (s := s) (idx := []) (hts _ ao_in.2.1)
    exact ⟨cA, fun n z => ⟨fun k h => (by cases h), kA, h2, comp, h3⟩, kA, comp, h2, h3, h1, h4⟩
  obtain ⟨a7, p7⟩ : ∃ cA, ArrOfT s cA (.object "LetterCutsLaw$Sheet") ∧ va_RA s cA (.object "LetterCutsLaw$Sheet") := by
    obtain ⟨comp, cA, kA, h1, -, h2, h3, h4⟩ := Cond.arrayOver_spec (args := args) (first := s) (o := none) (s := s) (idx := []) (hts _ ao_in.2.2.1)
    exact ⟨cA, fun n z => ⟨fun k h => (by cases h), kA, h2, comp, h3⟩, kA, comp, h2, h3, h1, h4⟩
  refine ⟨(nine c0 c1 c2 c3 c4 c5 c6 c7 c8, nine i0 i1 i2 i3 i4 i5 i6 i7 i8), nine a0 a1 a2 a3 a4 a5 a6 a7 a7, fun c q hq => ?_, fun k q hq => ?_⟩
  · match c, hq with
    | 0, hq => cases hq; exact k0
    | 1, hq => cases hq; exact k1
    | 2, hq => cases hq; exact k2
    | 3, hq => cases hq; exact k3
    | 4, hq => cases hq; exact k4
    | 5, hq => cases hq; exact k5
    | 6, hq => cases hq; exact k6
    | 7, hq => cases hq; exact k7
    | 8, hq => cases hq; exact k8
  · match k, hq with
    | 0, hq => cases hq; exact p0
    | 1, hq => cases hq; exact p1
    | 2, hq => cases hq; exact p2
    | 3, hq => cases hq; exact p3
    | 4, hq => cases hq; exact p4
    | 5, hq => cases hq; exact p5
    | 6, hq => cases hq; exact p6
    | 7, hq => cases hq; exact p7
theorem ex_E {s : State} {b L : Nat} {xs : Nat → Int32} (hts : ∀ w ∈ lw_tb2, w.before #[Value.ref b] s = true) (hX : va_X b L xs s s.heap) (hbl : b < s.heap.size) (hgv : (Jvm.Cond.and given_1 narrow_1).before #[Value.ref b] s = true) : ∃ (K V : Nat → Nat) (q : Nat), EV ((b, L, xs), K, V, q, true) (fun q => s.heap.size ≤ q) s s.heap := by
  have fg : ∀ c ∈ fgs, c.before #[Value.ref b] s = true := flat_of_before _ hgv
  have ht1 : ∀ {w : Cond}, w ∈ tables_1 → w.before #[Value.ref b] s = true := fun h => hts _ (List.mem_append_left _ (List.mem_append_right _ h))
  have hA : ∀ a : Nat, a < s.heap.size → ¬ (fun q : Nat => s.heap.size ≤ q) a := fun a h => Nat.not_le.mpr h
  obtain ⟨K, V, h5, h6⟩ := vk_Sof (args := #[Value.ref b]) (s := s) (N := 14) (tm := tmS) (len := zLen) (byt := zByt) (A := fun q : Nat => s.heap.size ≤ q) (fun i hi => Nat.lt_of_le_of_lt (zLen7 ⟨i, hi⟩) (by decide)) (fun i hi => fg _ (fg_ex ⟨i, hi⟩)) (fun i hi => fg _ (fg_co ⟨i, hi⟩)) (fun i hi => fg _ (fg_ar ⟨i, hi⟩)) (fun i hi => fg _ (fg_le ⟨i, hi⟩))
    (fun i hi j hj => fg _ (fg_el ⟨i, hi⟩ ⟨j, Nat.lt_of_lt_of_le hj (zLen7 ⟨i, hi⟩)⟩ hj)) (fun i j hi hj hij => (fg_ne ⟨i, hi⟩ ⟨j, hj⟩ (fun z => hij (Fin.mk.inj z))).imp (fg _) (fg _)) hA
  obtain ⟨q20, h13⟩ : ∃ q, va_Z zF1 zF2 zF3 .null (fun q : Nat => s.heap.size ≤ q) s s.heap ∨ va_Z zF1 zF2 zF3 (.ref q) (fun q : Nat => s.heap.size ≤ q) s s.heap := by
    rcases va_Zqof (hts _ st_in.1.2.2.1) (hts _ st_in.2.2.1) (fg _ fg_st.2.2.1) hA with z | ⟨q, z⟩
    · exact ⟨0, Or.inl z⟩
    · exact ⟨q, Or.inr z⟩
  refine ⟨K, V, q20, fun w h1 h2 => va_Nw.of (by cases w <;> first | rfl | (simp [isNw] at h2)) (ht1 h1), fun q hq => va_Nc.of (fg _ (fg_nc q hq)), ⟨va_AO.of (hts _ ao_in.1), va_AO.of (hts _ ao_in.2.1), va_AO.of (hts _ ao_in.2.2.1)⟩, hts _ ao_in.2.2.2, h5, fun q hq => ?_,
    va_Zof (hts _ st_in.1.2.2.2) (hts _ st_in.2.2.2) (va_eqt (fg _ fg_st.2.2.2)) hA, vx_Zqof (hts _ st_in.1.1) (hts _ st_in.2.1) (fg _ fg_st.1) hA, vx_Zqof (hts _ st_in.1.2.1) (hts _ st_in.2.1) (fg _ fg_st.2.1) hA, ⟨hX, hbl, hA b hbl⟩, h13⟩
  obtain ⟨z1, z2⟩ := zs_tm q hq
  refine vk_R.of (ht1 (zs_in q hq)) ?_
  rcases z2 with z2 | ⟨z2, z3⟩
  · rw [z2]; exact h6 _ z1
  · rw [z2, z3]; exact st_eqR (fg _ fg_eq) (h6 6 (by decide))
theorem WD_00 {X : XT} {A : Nat → Prop} {G : va_G} {cls : Nat → ClassId} {s : State} {ad : Nat → Nat} {H : Heap} {locs : List Loc} (hS : va_S A s.heap H locs) (had : adOK X ad) : WD X A G cls s h00 ad H locs := by
  have e : wld cls ad h00 = [] := by
    unfold wld
    rw [hC_low (show hN h00 ≤ 68 from Nat.zero_le _)]
    rfl
  refine ⟨?_, ?_, hS, ⟨?_, fun a j k ha _ => ?_⟩, had⟩
  · rw [e]; exact fun k q hq => (by cases hq)
  · rw [e]; exact ⟨fun i j p q hp => (by cases hp), fun k q hq => (by cases hq)⟩
  · rw [dyn_low (show hN h00 ≤ 68 from Nat.zero_le _)]; exact fun i a hi => (by cases hi)
  · exact absurd ((prN_low (show hN h00 ≤ 68 from Nat.zero_le _)).mp ha) (Nat.not_lt_zero _)
def R_law : String := "LetterCutsLaw"
def lw_P (b : Addr) (xs : List Int32) (args : Array Value) (s : State) : Prop := args = #[.ref b] ∧ s.IntsAt b xs ∧ xs.length ≤ 260 ∧ (Jvm.Cond.and given_1 narrow_1).before args s = true
def lw_Q (_ : Array Value) (s : State) (o : Outcome) (t : State) : Prop := o = .returned (some (.int 1)) ∧ Framed s o t [] 600086 7301442
def lw_Z (below : List Frame) (a : Array Value) (s : State) : State → Prop := fun t => ∃ o, t.status = .running ∧ Ended t below o ∧ lw_Q a s o t
/-- the law's own end, with 1 on the stack, nothing written that was there before, its room as the claim has it -/
theorem lw_ret {p : Program} {l : Launch} {e : Env} {s : State} {m : MethodId} {below : List Frame} {meth : Method} {c : Code} {b : Nat} (hx : p.tables.exec = Jvm.exec) (hb : c.code = code) (hr : meth.sig.returnType = ret) (hlocks : meth.locks = false) {pc : Nat} {H : Heap} {ls : Array Slot} (hdg : decode code pc = .ok (.ireturn, 1)) : W p l e room_1 s m #[Value.ref b] below meth c H [] 600086 7301442 (lw_Z below #[Value.ref b] s) (F0 m pc ls [.int 1]) := by
  intro T hT X
  obtain ⟨fs, hret, hrun, hended, hW, hframe⟩ := X.leave (v := some (.int 1)) (hlocks := hlocks) (fun h => by rw [hr] at h; cases h)
  have hmeth' : T.vm.method? m = some meth := X.method'
  refine ⟨T.setFrames fs, ?_, .returned (some (.int 1)), hrun, hended, rfl, ⟨_, rfl⟩, hW, hframe⟩
  jvm_step X.here [X.here.top, hx, hb, hdg, hmeth', hr, ret, narrow_b1]
  (try refine ⟨rfl, ?_⟩); (try refine ⟨rfl, ?_⟩)
  first | (intro acts; rw [hret _ acts rfl rfl rfl]) | rw [hret _ _ rfl rfl rfl]
  exact Steps.refl _
/-- what holds at the law's entry: the machine, the code, the tables' words (any of lw_tbl by 'hts w (by decide +kernel)'), the script of L ints xs at the cell b, what the Statement gives of the start (any of its parts by flat_of_before) -/
def lw_At (p : Program) (s : State) (m : MethodId) (meth : Method) (c : Code) (b L : Nat) (xs : Nat → Int32) : Prop :=
  p.tables.exec = Jvm.exec ∧ c.code = code ∧ meth.sig.returnType = ret ∧ c.maxLocals = 20 ∧ s.vm.findClass R_law = some m.cls ∧ (∀ w ∈ lw_tbl, w.before #[Value.ref b] s = true) ∧ va_X b L xs s s.heap ∧ b < s.heap.size ∧ meth.locks = false ∧ (Jvm.Cond.and given_1 narrow_1).before #[Value.ref b] s = true
theorem whole_start {p : Program} {e : Env} {s : State} {m : MethodId} {below : List Frame} {meth : Method} {c : Code} (l : Launch) (hflags : l.flags = flags0) {b L : Nat} {xs : Nat → Int32} (hL : L ≤ 260) (C0 : lw_At p s m meth c b L xs) : W p l e room_1 s m #[Value.ref b] below meth c s.heap [] 0 0 (lw_Z below #[Value.ref b] s) (entryFrame m ([Value.ref b] : List Value).toArray 20) := by
  obtain ⟨hx, hb, hr, hml, hown, hts0, hX, hbl, hlocks, hgv⟩ := id C0
  have hts := hts_2 hts0
  obtain ⟨G, cls, hK⟩ := ex_K hts
  obtain ⟨KK, V, q20, hE⟩ := ex_E hts hX hbl hgv
  have hst : l.stackTraces = false := by rw [Launch.stackTraces, hflags]; decide +kernel
  have hl0 := lv_entry ([.ref b]) (n := 20) (Nat.le_of_ble_eq_true rfl)
  rw [lg_entry_eq]
  generalize (lg_sl ([.ref b]) ++ List.replicate (20 - (lg_sl ([.ref b])).length) Slot.unset).toArray = lsA at hl0 ⊢
  have hl1 : lv_has lsA 20 [(0, .ref b)] := hl0
  obtain ⟨ad, had⟩ : ∃ f : Nat → Nat, f = fun a => if a = 1000 then b else if a = 1020 then q20 else if a < 1015 then KK (a - 1001) else V (a - 1041) := ⟨_, rfl⟩
  have hb0 : ad 1000 = b := by rw [had]; rfl
  have hadOK : adOK ((b, L, xs), KK, V, q20, true) ad := by
    refine ⟨hb0, fun i hi => ?_, fun i hi => ?_, by rw [had]; rfl⟩
    · rw [had]; simp only
      rw [if_neg (by omega), if_neg (by omega), if_pos (by omega), Nat.add_sub_cancel_left]
    · rw [had]; simp only
      rw [if_neg (by omega), if_neg (by omega), if_neg (by omega), Nat.add_sub_cancel_left]
  have hD : WD ((b, L, xs), KK, V, q20, true) (fun q => s.heap.size ≤ q) G cls s h00 ad s.heap [] := WD_00 va_S.rf hadOK
  have C : CX ((b, L, xs), KK, V, q20, true) (mLaw meth.name (c.exceptionTable.toList.map fun h => (h.startPc, h.endPc, h.handlerPc, h.catchType))) l 2000 room_1 p s m #[Value.ref b] meth c (fun q => s.heap.size ≤ q) G cls :=
    ⟨hx, hb, hml, hown, fun w h1 _ => hts w h1, hlocks, hst, (table_eq _).symm, rfl, fun q hq => hq, hK, hE, Nat.le_of_ble_eq_true rfl, Nat.le_of_ble_eq_true rfl⟩
  refine law_aw (X := ((b, L, xs), KK, V, q20, true)) (nm := meth.name) (hh := c.exceptionTable.toList.map fun h => (h.startPc, h.endPc, h.handlerPc, h.catchType)) (h := h00) hL rfl p l e room_1 s m #[Value.ref b] below meth c (fun q => s.heap.size ≤ q) G cls (lw_Z below #[Value.ref b] s) s.heap [] 0 0 ad lsA C ⟨?_, fun E h' q => (by cases q)⟩ hD (Nat.le_of_ble_eq_true rfl) (Nat.le_of_ble_eq_true rfl) ?_
  · intro v h' q ad' H' locs' cells' slots' ls' pc ins q1 q2 D hc hs hd hret
    have ev : v = some (.int 1) := Sum.inl.inj q
    subst ev
    rcases hret with ⟨e, -⟩ | ⟨x, ty, e, rfl, -⟩ | ⟨x, e, -⟩ | ⟨x, e, -⟩ | ⟨a, ty, e, -⟩
    · cases e
    · exact va_forget (fun z hz => D.2.2.1.2.2 z hz) (W.widen (k := 600086) (n := 7301442) hc hs (lw_ret hx hb hr hlocks hd))
    · cases e
    · cases e
    · cases e
  · show lv_has lsA 20 [(0, .ref (ad 1000))]
    rw [hb0]
    exact hl1
