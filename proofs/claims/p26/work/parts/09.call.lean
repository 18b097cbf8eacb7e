/-! contracts, calls, ends -/
theorem gw_mem {w : Cond} (h1 : w ∈ lw_tb2) (h2 : goodWord w = true) : w ∈ lw_tb2.filter goodWord := List.mem_filter.mpr ⟨h1, h2⟩
def wsM (mt : MT) : List Cond := Cond.code (mN mt) (mB mt) (mL mt) (mR mt) :: lw_tb2.filter goodWord
def rmM (d mc ms : Nat) : Room := { frames := d, cells := mc, slots := ms, locals := 40 * d }
def PB (X : XT) (G : va_G) (cls : Nat → ClassId) (ad : Nat → Nat) (h : AH) (sz : Nat) : State → Prop := fun U =>
  U.heap.size = sz ∧ va_P G vwCl (wld cls ad h) U.heap ∧ va_K G vwCl (tysOf cls) U ∧ va_D (fun _ => True) (wld cls ad h) ∧ EV X (va_A (wld cls ad h) sz) U U.heap
def EXT (X : XT) (G : va_G) (cls : Nat → ClassId) (ad ad' : Nat → Nat) (h h' : AH) (sz : Nat) (t : State) : Prop :=
  (∀ a, (prN (hN h) a ∨ ¬ prN (hN h') a) → ad' a = ad a) ∧ (∀ a, prN (hN h) a → prN (hN h') a) ∧ wfh h' ∧ adOK X ad' ∧ va_P G vwCl (wld cls ad' h') t.heap ∧ va_D (va_A (wld cls ad h) sz) (wld cls ad' h')
def QR (X : XT) (G : va_G) (cls : Nat → ClassId) (ad : Nat → Nat) (h : AH) (sz : Nat) (Q : Res → AH → Prop) : Array Value → State → Outcome → State → Prop := fun _ st oc t =>
  (∃ (v : Option Value) (h' : AH) (ad' : Nat → Nat), oc = .returned (v.map (cv ad')) ∧ (∀ b, v = some (.ref b) → b ≠ 1030) ∧ Q (.inl v) h' ∧ EXT X G cls ad ad' h h' sz t) ∧ va_F (va_A (wld cls ad h) sz) st t
def QX (X : XT) (G : va_G) (cls : Nat → ClassId) (ad : Nat → Nat) (h : AH) (sz : Nat) (Q : Res → AH → Prop) : String → State → State → Prop := fun E st t =>
  (∃ (h' : AH) (ad' : Nat → Nat), Q (.inr E) h' ∧ EXT X G cls ad ad' h h' sz t) ∧ va_F (va_A (wld cls ad h) sz) st t
/-- a method's contract: from the heap h with these arguments it ends as Q says -/
def AC (mt : MT) (d mc ms : Nat) (as : List Value) (h : AH) (Q : Res → AH → Prop) : Prop :=
  ∀ (X : XT) (l : Launch), l.stackTraces = false → ∀ (G : va_G) (cls : Nat → ClassId) (ad : Nat → Nat) (sz : Nat), wfh h → adOK X ad →
    vx_Met l (mN mt) (wsM mt) (rmM d mc ms) (va_Pc (as.map (cv ad)) (PB X G cls ad h sz)) (QR X G cls ad h sz Q) (QX X G cls ad h sz Q) mc ms (va_A (wld cls ad h) sz)
theorem AC.post {mt : MT} {d mc ms : Nat} {as : List Value} {h : AH} {Q Q' : Res → AH → Prop} (k : AC mt d mc ms as h Q') (hq : ∀ r h2, Q' r h2 → Q r h2) : AC mt d mc ms as h Q := by
  intro X l hl G cls ad sz hw ha p e h1 h2 h3 s m args below h4 h5 h6 h7
  obtain ⟨n, o, a1, a2, a3, a4⟩ := k X l hl G cls ad sz hw ha p e h1 h2 h3 s m args below h4 h5 h6 h7
  refine ⟨n, o, a1, a2, a3, ?_⟩
  rcases a4 with ⟨⟨⟨v, h', ad', b1, b0, b2, b3⟩, b4⟩, b5⟩ | ⟨q, b1, E, ce, L, ⟨⟨h', ad', b2, b3⟩, b4⟩, b5⟩
  · exact Or.inl ⟨⟨⟨v, h', ad', b1, b0, hq _ _ b2, b3⟩, b4⟩, b5⟩
  · exact Or.inr ⟨q, b1, E, ce, L, ⟨⟨h', ad', hq _ _ b2, b3⟩, b4⟩, b5⟩
theorem args_map {ad : Nat → Nat} : ∀ (as : List Value) (i : Nat), lv_args i (as.map (cv ad)) = (lv_args i as).map (cl1 ad)
  | [], _ => rfl
  | v :: as, i => by
    simp only [List.map_cons, lv_args, cv_cat]
    rw [args_map as]
    rfl
theorem sl_len {ad : Nat → Nat} (as : List Value) : (lg_sl (as.map (cv ad))).length = (lg_sl as).length := by
  induction as with
  | nil => rfl
  | cons v as ih =>
    unfold lg_sl at ih ⊢
    simp only [List.map_cons, List.flatMap_cons, List.length_append, ih, cv_cat]
    congr 1
    split <;> rfl
theorem thr_words {mt : MT} {X : XT} {A : Nat → Prop} {args : Array Value} {s : State} (hw : ∀ w, w ∈ lw_tb2 → goodWord w = true → w.before args s = true) (hE : EV X A s s.heap) {w : Cond} (h : w ∈ lw_tb2 ∧ goodWord w = true ∨ w ∈ tables_1 ∧ isNw w = true) : w.before args s = true := by
  rcases h with ⟨h1, h2⟩ | ⟨h1, h2⟩
  · exact hw w h1 h2
  · refine va_Nw.use ?_ (hE.1 w h1 h2)
    cases w <;> first | rfl | (simp [isNw] at h2)
theorem thr_ot {w : Cond} (h : w ∈ lw_tb2 ∧ goodWord w = true ∨ w ∈ tables_1 ∧ isNw w = true) : vx_ot w = true := by
  rcases h with ⟨-, h⟩ | ⟨-, h⟩
  · simp [vx_ot, h]
  · cases w <;> first | rfl | (simp [isNw] at h)
theorem blind_PB {X : XT} {G : va_G} {cls : Nat → ClassId} {ad : Nat → Nat} {h : AH} {sz : Nat} {av : List Value} : FrameBlind (va_Pc av (PB X G cls ad h sz)) := by
  intro a U g mk q
  obtain ⟨q0, q1, q2, q3, q4, q5⟩ := q
  exact ⟨q0, q1, q2, va_K.moved (u := U) (U := U.calling g mk a) (Vm.Alike.refl U.vm) q3, q4, EV.same (U := U) rfl q5⟩
theorem retOK_b {mt : MT} {ins : Instr} {v : Option Value} (hr : retOK mt ins v) : ∀ b, v = some (.ref b) → b ≠ 1030 := by
  intro b e
  rcases hr with ⟨rfl, -⟩ | ⟨x, ty, rfl, -⟩ | ⟨x, rfl, -⟩ | ⟨x, rfl, -⟩ | ⟨x, ty, rfl, -, -, hx, -⟩ <;> first | (cases e; done) | skip
  cases e
  exact hx
theorem kT_ref {ty : FieldType} (h : kT ty = 2) : (∃ n, ty = .object n) ∨ ∃ t, ty = .array t := by
  cases ty <;> simp [kT] at h ⊢
/-- a body that keeps AW keeps the contract -/
theorem AC.of {mt : MT} {d mc ms : Nat} {as : List Value} {h : AH} {Q : Res → AH → Prop} (hty : plainName (mN mt).cls = true) (hH : mH mt = []) (hlen : (lg_sl as).length ≤ mL mt) (k : ∀ X, AW X mt d mc ms 0 (lv_args 0 as) [] h Q) : AC mt d mc ms as h Q := by
  intro X l hst G cls ad sz hwf had
  refine vx_ofW (cc := mB mt) (maxL := mL mt) (ret := mR mt) hty rfl ?_
  intro p e s m args below meth c s₁ B hml ht hv
  obtain ⟨rfl, hsz, hP, hK, hD0, hE⟩ := hv
  subst hsz
  have hts := atoms_spec (ws := wsM mt) B.pre
  have hD := hD0.self (sz := s.heap.size)
  have hl := lv_entry (as.map (cv ad)) (n := mL mt) (by rw [sl_len]; exact hlen)
  rw [lg_entry_eq]
  rw [args_map] at hl
  have C : CX (X.1, X.2.1, X.2.2.1, X.2.2.2.1, false) mt l d (headSpec (wsM mt) (rmM d mc ms)).room p s m (as.map (cv ad)).toArray meth c (va_A (wld cls ad h) s.heap.size) G cls :=
    ⟨B.exec, B.bytes, hml, findClass_of_methodNamed B.named, fun w h1 h2 => hts w (List.mem_cons_of_mem _ (gw_mem h1 h2)), B.notSynchronized, hst, by
      rw [hH]
      cases e : c.exceptionTable.toList with
      | nil => rfl
      | cons x r => exact absurd (ht x (by rw [e]; exact List.mem_cons_self)) id,
     (name_of_methodNamed B.named B.method).1, fun q hq => Or.inr hq, hK, hE, Nat.le_refl _, Nat.le_refl _⟩
  refine k (X.1, X.2.1, X.2.2.1, X.2.2.2.1, false) p l e (headSpec (wsM mt) (rmM d mc ms)).room s m (as.map (cv ad)).toArray below meth c (va_A (wld cls ad h) s.heap.size) G cls _ s.heap [] 0 0 ad _ C ?_ ⟨hP, hD, va_S.rf, hwf, had⟩ (Nat.le_of_eq (Nat.zero_add _)) (Nat.le_of_eq (Nat.zero_add _)) hl
  refine ⟨?_, ?_⟩
  · intro v h' hq ad' H' locs' cells' slots' lsA pc ins q1 q2 D' hc' hs' hd hr
    have hpost : ∀ t : State, t.heap = H' → s.WarmedH t.vm → QR X G cls ad h s.heap.size Q (as.map (cv ad)).toArray s (.returned (v.map (cv ad'))) t := fun t ht _ =>
      ⟨⟨v, h', ad', rfl, retOK_b hr, hq, q1 rfl, q2 rfl, D'.2.2.2.1, D'.2.2.2.2, by rw [ht]; exact D'.1, D'.2.1⟩, D'.2.2.1.F ht⟩
    refine W.widen (k := mc) (n := ms) hc' hs' (vx_ret ?_)
    rcases hr with ⟨rfl, rfl, hr⟩ | ⟨x, ty, rfl, rfl, hr, hn⟩ | ⟨x, rfl, rfl, hr⟩ | ⟨x, rfl, rfl, hr⟩ | ⟨x, ty, rfl, rfl, hr, -, hk⟩
    · exact W.vret B.exec B.bytes (B.returns.trans hr) hpost D'.2.2.1.2.2 hd B.notSynchronized
    · exact W.zret B.exec B.bytes (B.returns.trans hr) hn hpost D'.2.2.1.2.2 hd B.notSynchronized
    · exact W.lret B.exec B.bytes (B.returns.trans hr) hpost D'.2.2.1.2.2 hd B.notSynchronized
    · exact W.dret B.exec B.bytes (B.returns.trans hr) hpost D'.2.2.1.2.2 hd B.notSynchronized
    · exact W.aret B.exec B.bytes (B.returns.trans hr) (kT_ref hk) (Or.inr ⟨_, rfl⟩) hpost D'.2.2.1.2.2 hd B.notSynchronized
  · intro E h' hq ad' H' locs' cells' slots' lsA pc st q1 q2 D' hc' hs' hsz hcat hf8 hl8 ht'
    obtain ⟨ik, ic, names, d0, d3, d4, d7, f1, f2, f3, f4, -⟩ := ht'
    have hnl : names.length ≤ 3 := f3
    refine vx_throw0 B.exec B.bytes hst C.2.2.2.1 f1 f2 (thr_words (mt := mt) C.2.2.2.2.1 hE (f4 _ List.mem_cons_self)) (thr_words (mt := mt) C.2.2.2.2.1 hE (f4 _ (List.mem_cons_of_mem _ List.mem_cons_self))) (fun w q => thr_words (mt := mt) C.2.2.2.2.1 hE (f4 w (List.mem_cons_of_mem _ (List.mem_cons_of_mem _ q))))
      (fun w q => thr_ot (f4 w q)) hE.2.2.2.2.2.2.2.1 hE.2.2.2.2.2.2.2.2.1 D'.2.2.1 hsz d0 d3 d4 d7 (fun x q => absurd (ht x q) id) (by omega) (by omega) hc' hs' B.notSynchronized ?_ D'.2.2.1.2.2 hc' hs'
    intro t hvm hz hk
    have hF : va_F (va_A (wld cls ad h) s.heap.size) s t := ⟨Nat.le_trans D'.2.2.1.1 hz, fun q g1 g2 => (hk q (Nat.lt_of_lt_of_le g1 D'.2.2.1.1)).trans (D'.2.2.1.2.1 q g1 g2)⟩
    exact ⟨⟨h', ad', hq, q1 rfl, q2 rfl, D'.2.2.2.1, D'.2.2.2.2, D'.1.kept (fun k q hq2 => hk _ ((D'.1 k q hq2).lt)), D'.2.1⟩, hF⟩
