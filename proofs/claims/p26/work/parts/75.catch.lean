/-! methods with handlers: a call that may throw, caught; what a handler finds -/
abbrev wsH (mt : MT) : List Cond := Cond.codeWith (mN mt) (mB mt) (mL mt) (mR mt) (mH mt) :: lw_tb2.filter goodWord
/-- a contract of a method with handlers, from which nothing is thrown -/
def AH' (mt : MT) (d mc ms : Nat) (as : List Value) (h : AH) (Q : Res → AH → Prop) : Prop :=
  ∀ (X : XT) (l : Launch), l.stackTraces = false → ∀ (G : va_G) (cls : Nat → ClassId) (ad : Nat → Nat) (sz : Nat), wfh h → adOK X ad →
    vx_Met l (mN mt) (wsH mt) (rmM d mc ms) (va_Pc (as.map (cv ad)) (PB X G cls ad h sz)) (QR X G cls ad h sz Q) (QX X G cls ad h sz Q) mc ms (va_A (wld cls ad h) sz)
theorem AH'.of {mt : MT} {d mc ms : Nat} {as : List Value} {h : AH} {Q : Res → AH → Prop} (hty : plainName (mN mt).cls = true) (hQ : ∀ E h', ¬ Q (.inr E) h') (hlen : (lg_sl as).length ≤ mL mt) (k : ∀ X, AW X mt d mc ms 0 (lv_args 0 as) [] h Q) : AH' mt d mc ms as h Q := by
  intro X l hst G cls ad sz hwf had
  refine vx_ofWH (cc := mB mt) (maxL := mL mt) (ret := mR mt) hty rfl ?_
  intro p e s m args below meth c s₁ B hml hv
  obtain ⟨rfl, hsz, hP, hK, hD0, hE⟩ := hv
  subst hsz
  have hts := atoms_spec (ws := wsH mt) B.pre
  have hD := hD0.self (sz := s.heap.size)
  have hl := lv_entry (as.map (cv ad)) (n := mL mt) (by rw [sl_len]; exact hlen)
  rw [lg_entry_eq]
  rw [args_map] at hl
  have C : CX (X.1, X.2.1, X.2.2.1, X.2.2.2.1, false) mt l d (headSpec (wsH mt) (rmM d mc ms)).room p s m (as.map (cv ad)).toArray meth c (va_A (wld cls ad h) s.heap.size) G cls :=
    ⟨B.exec, B.bytes, hml, findClass_of_methodNamed B.named, fun w h1 h2 => hts w (List.mem_cons_of_mem _ (gw_mem h1 h2)), B.notSynchronized, hst, vx_table (x := mN mt) B (hts _ List.mem_cons_self),
     (name_of_methodNamed B.named B.method).1, fun q hq => Or.inr hq, hK, hE, Nat.le_refl _, Nat.le_refl _⟩
  refine k (X.1, X.2.1, X.2.2.1, X.2.2.2.1, false) p l e (headSpec (wsH mt) (rmM d mc ms)).room s m (as.map (cv ad)).toArray below meth c (va_A (wld cls ad h) s.heap.size) G cls _ s.heap [] 0 0 ad _ C ?_ ⟨hP, hD, va_S.rf, hwf, had⟩ (Nat.le_of_eq (Nat.zero_add _)) (Nat.le_of_eq (Nat.zero_add _)) hl
  refine ⟨?_, fun E h' hq => absurd hq (hQ E h')⟩
  intro v h' hq ad' H' locs' cells' slots' lsA pc ins q1 q2 D' hc' hs' hd hr
  have hpost : ∀ t : State, t.heap = H' → s.WarmedH t.vm → QR X G cls ad h s.heap.size Q (as.map (cv ad)).toArray s (.returned (v.map (cv ad'))) t := fun t ht _ =>
    ⟨⟨v, h', ad', rfl, retOK_b hr, hq, q1 rfl, q2 rfl, D'.2.2.2.1, D'.2.2.2.2, by rw [ht]; exact D'.1, D'.2.1⟩, D'.2.2.1.F ht⟩
  refine W.widen (k := mc) (n := ms) hc' hs' (vx_ret ?_)
  rcases hr with ⟨rfl, rfl, hr⟩ | ⟨x, ty, rfl, rfl, hr, hn⟩ | ⟨x, rfl, rfl, hr⟩ | ⟨x, rfl, rfl, hr⟩ | ⟨x, ty, rfl, rfl, hr, -, hk⟩
  · exact W.vret B.exec B.bytes (B.returns.trans hr) hpost D'.2.2.1.2.2 hd B.notSynchronized
  · exact W.zret B.exec B.bytes (B.returns.trans hr) hn hpost D'.2.2.1.2.2 hd B.notSynchronized
  · exact W.lret B.exec B.bytes (B.returns.trans hr) hpost D'.2.2.1.2.2 hd B.notSynchronized
  · exact W.dret B.exec B.bytes (B.returns.trans hr) hpost D'.2.2.1.2.2 hd B.notSynchronized
  · exact W.aret B.exec B.bytes (B.returns.trans hr) (kT_ref hk) (Or.inr ⟨_, rfl⟩) hpost D'.2.2.1.2.2 hd B.notSynchronized
def CEH (mt : MT) (n : Nat) : Prop := (Cond.codeWith (mN mt) (mB mt) (mL mt) (mR mt) (mH mt) ∈ lw_tb2 ∧ Cond.initialized (mN mt).cls ∈ lw_tb2) ∧ ((mN mt).cls ≠ "java/lang/invoke/MethodHandle" ∧ (mN mt).cls ≠ "java/lang/invoke/VarHandle" ∧ (parseMethodDescriptor (mN mt).desc).map (fun d => d.parameters.length) = some n) ∧ mL mt ≤ 20
theorem wsH_good {mt : MT} {n : Nat} (h : CEH mt n) : GoodIn (lw_tb2.filter goodWord) (wsH mt) := by
  intro w hw
  rcases List.mem_cons.mp hw with rfl | hw
  · exact ⟨gw_mem h.1.1 rfl, Or.inl rfl⟩
  · exact ⟨hw, good_of_word (List.mem_filter.mp hw).2⟩
-- the addresses of cells that stand outside
theorem wld_cg {cls : Nat → ClassId} {ad ad' : Nat → Nat} {h : AH} (hw : wfh h) (he : ∀ a, (prN (hN h) a ∨ ext a) → ad' a = ad a) : wld cls ad' h = wld cls ad h := by
  apply List.map_congr_left
  intro a ha
  have ha : prN (hN h) a := ha
  have e : ce cls ad' h a = ce cls ad h a := ce_congr rfl rfl (fun j => by
    cases e : hR h a j with
    | none => rfl
    | some k => simp only [Option.map_some]; rw [he k (hw.2 a j k ha e)])
  simp only [he a (Or.inl ha), e]
theorem prN_ne {N a : Nat} (w : dOK (dyn N)) (ha : prN N a) : a ≠ 1030 := by
  intro e
  subst e
  rcases prN_iff.mp ha with z | z
  · omega
  · obtain ⟨k, q, -, -, e⟩ := dOK_mem w z
    unfold nm at e
    omega
theorem WD.cg {X : XT} {A : Nat → Prop} {G : va_G} {cls : Nat → ClassId} {s : State} {h : AH} {ad ad' : Nat → Nat} {H : Heap} {locs : List Loc} (D : WD X A G cls s h ad H locs) (he : ∀ a, a ≠ 1030 → ad' a = ad a) : WD X A G cls s h ad' H locs := by
  have e := wld_cg (cls := cls) (ad := ad) (ad' := ad') D.2.2.2.1 (fun a ha => he a (ha.elim (prN_ne D.2.2.2.1.1) (fun z => z.2.2)))
  exact ⟨by rw [e]; exact D.1, by rw [e]; exact D.2.1, D.2.2.1, D.2.2.2.1, adOK_upx (fun a ha => he a ha.2.2) D.2.2.2.2⟩
theorem FIN.off {X : XT} {mt : MT} {Q : Res → AH → Prop} {p : Program} {l : Launch} {e : Env} {R : Room} {s : State} {m : MethodId} {args : Array Value} {below : List Frame} {meth : Method} {c : Code} {A : Nat → Prop} {G : va_G} {cls : Nat → ClassId} {Z : State → Prop} {n K q : Nat} {ad : Nat → Nat} (hK : K = 1030) (F : FIN X mt p l e R s m args below meth c A G cls Z n ad Q) : FIN X mt p l e R s m args below meth c A G cls Z n (va_up ad K q) Q := by
  have tw : ∀ (adF : Nat → Nat) (P : Nat → Prop), (∀ a, P a → adF a = va_up ad K q a) → ∀ a, P a → va_up adF K (ad K) a = ad a := fun adF P hP a ha => by
    by_cases e : a = K
    · subst e; exact up_eq
    · rw [up_ne e, hP a ha, up_ne e]
  refine ⟨fun v h' hq ad' H' locs' cells' slots' lsA pc ins q1 q2 D hc hs hd hr => ?_, fun E h' hq ad' H' locs' cells' slots' lsA pc st q1 q2 D => ?_⟩
  · have g := F.1 v h' hq (va_up ad' K (ad K)) H' locs' cells' slots' lsA pc ins (fun x => tw ad' _ (q1 x)) q2 (D.cg (fun a ha => up_ne (by omega))) hc hs hd hr
    have e : v.map (cv (va_up ad' K (ad K))) = v.map (cv ad') := by
      rcases hr with ⟨rfl, -⟩ | ⟨x, ty, rfl, -⟩ | ⟨x, rfl, -⟩ | ⟨x, rfl, -⟩ | ⟨x, ty, rfl, -, -, hx, -⟩ <;> first | rfl | skip
      simp only [Option.map_some, cv]
      rw [up_ne (fun z => hx (z.trans hK))]
    rw [e] at g
    exact g
  · exact F.2 E h' hq (va_up ad' K (ad K)) H' locs' cells' slots' lsA pc st (fun x => tw ad' _ (q1 x)) q2 (D.cg (fun a ha => up_ne (by omega)))
/-- the class E thrown at pc finds its handler at t -/
def CT (mt : MT) (pc : Nat) (E : String) (t : Nat) : Prop := ∃ pre x suf, tableOf (mH mt) = pre ++ x :: suf ∧ (∀ z ∈ pre, covers z pc = false ∨ (z.catchType ≠ 0 ∧ ∃ nm, Cond.classLink (mN mt).cls z.catchType nm ∈ lw_tb2 ∧ (E, nm) ∈ zNc)) ∧
  covers x pc = true ∧ x.catchType ≠ 0 ∧ Cond.classLink (mN mt).cls x.catchType E ∈ lw_tb2 ∧ Cond.castable E E ∈ tables_1 ∧ x.handlerPc = t
section RW75
variable {X : XT} {mt : MT} {d kc ks pc : Nat} {ls ls' : List (Nat × Value)} {st : List Value} {h : AH} {Q : Res → AH → Prop}
/-- behind a call that returns, or throws what is caught -/
theorem w_afterC {p : Program} {l : Launch} {e : Env} {R : Room} {s : State} {m : MethodId} {args : Array Value} {below : List Frame} {meth : Method} {c : Code} {A : Nat → Prop} {G : va_G} {cls : Nat → ClassId} {Z : State → Prop} {H : Heap} {locs : List Loc} {cells slots mc ms : Nat} {ad : Nat → Nat} {lsA : Array Slot} {st0 : List Value} {a : Array Value} {Q' : Res → AH → Prop}
    (hr : vx_Run p l e R s m args below meth c H locs cells slots mc ms (F0 m pc lsA st0) (st.map (cv ad)) (QR X G cls ad h H.size Q' a) (QX X G cls ad h H.size Q') (va_A (wld cls ad h) H.size))
    (C : CX X mt l d R p s m args meth c A G cls) (F : FIN X mt p l e R s m args below meth c A G cls Z (hN h) ad Q) (D : WD X A G cls s h ad H locs) (hc : cells + (kc + mc) ≤ R.cells) (hs2 : slots + (ks + ms) ≤ R.slots) (hA : lv_has lsA (mL mt) (ls.map (cl1 ad)))
    (hn : ∀ r h', Q' r h' → hN h' = hN h) (hl : ∀ q ∈ ls, ∀ b, q.2 = .ref b → b ≠ 1030) (kk : ∀ v h', Q' (.inl v) h' → AW X mt d kc ks (pc + 3) ls (v.toList ++ st) h' Q) (kx : ∀ E h', Q' (.inr E) h' → ∃ t, CT mt pc E t ∧ AW X mt d kc ks t ls [.ref 1030] h' Q) :
    W p l e R s m args below meth c H locs cells slots Z (F0 m pc lsA st0) := by
  intro T hT Xs
  have hFA : ∀ q, va_A (wld cls ad h) H.size q → A q := fun q hq => by
    rcases hq with ⟨k, e9, hq⟩ | hq
    · exact D.2.1.2 k _ hq
    · exact C.2.2.2.2.2.2.2.2.2.1 q (Nat.le_trans D.2.2.1.1 hq)
  rcases hr T hT Xs with ⟨v, st₀, t, T', L, h0, X', hL, e1, e2, ⟨⟨v', h', ad', hv, -, hq, x1, x2, x3, x4, x5, x6⟩, hF⟩, go⟩ | ⟨q, st₀, t, T', L, E, ce, h0, X', hL, e1, e2, ⟨⟨h', ad', hq, x1, x2, x3, x4, x5, x6⟩, hF⟩, hce, hcv, hcl, go⟩
  · cases hv
    obtain ⟨k1, k2, k3⟩ := vx_keep (A0 := A) (A1 := va_A (wld cls ad h) H.size) h0 e1 D.2.2.1 (fun q _ z => hFA q z) hFA hL hF
    have he : ad' = ad := funext fun a => x1 a (by rw [hn _ _ hq]; exact Classical.em _)
    subst he
    have g := kk v' h' hq p l e R s m args below meth c A G cls Z T'.heap (locs ++ L) (cells + mc) (slots + ms) ad' lsA C (F.up (fun _ => x2) (fun _ => x1)) ⟨by rw [e1]; exact x5, x6.weaken (fun _ q _ z => hFA q.1 z), k3, x3, x4⟩ (by omega) (by omega) hA
    have e9 : (v'.toList ++ st).map (cv ad') = (v'.map (cv ad')).toList ++ st.map (cv ad') := by
      rw [List.map_append]
      cases v' <;> rfl
    rw [e9] at g
    obtain ⟨t2, a1, b1⟩ := g T' rfl X'
    exact ⟨t2, go t2 a1, b1⟩
  · obtain ⟨k1, k2, k3⟩ := vx_keep (A0 := A) (A1 := va_A (wld cls ad h) H.size) h0 e1 D.2.2.1 (fun q _ z => hFA q z) hFA hL hF
    have he : ad' = ad := funext fun a => x1 a (by rw [hn _ _ hq]; exact Classical.em _)
    subst he
    obtain ⟨t9, ⟨pre, x, suf, c1, c2, c3, c4, c5, c6, rfl⟩, kx⟩ := kx E h' hq
    obtain ⟨hx, hb, hml, hown, hw, -, -, htb, -, -, hK, hE, -, -⟩ := id C
    have D' : WD X A G cls s h' ad' T'.heap (locs ++ L) := ⟨by rw [e1]; exact x5, x6.weaken (fun _ q _ z => hFA q.1 z), k3, x3, x4⟩
    have ho : ∀ a, a ≠ 1030 → va_up ad' 1030 q a = ad' a := fun a ha => up_ne ha
    have hA2 : lv_has lsA (mL mt) (ls.map (cl1 (va_up ad' 1030 q))) := by
      have e : ls.map (cl1 (va_up ad' 1030 q)) = ls.map (cl1 ad') := List.map_congr_left fun z hz => by
        have hb : ∀ b, z.2 = .ref b → b ≠ 1030 := fun b hb => hl z hz b hb
        simp only [cl1]
        cases e : z.2 <;> first | rfl | skip
        rename_i b
        simp only [cv, up_ne (hb b e)]
      rw [e]; exact hA
    have g := kx p l e R s m args below meth c A G cls Z T'.heap (locs ++ L) (cells + mc) (slots + ms) (va_up ad' 1030 q) lsA C (FIN.off rfl (F.up (fun _ => x2) (fun _ => x1))) (D'.cg ho) (by omega) (by omega) hA2
    have e9 : [Value.ref 1030].map (cv (va_up ad' 1030 q)) = [.ref q] := by simp [cv, up_eq]
    rw [e9] at g
    have gw := vx_catch (own := (mN mt).cls) (name := E) (pc := pc) (ls := lsA) (rest := st.map (cv ad')) hown pre x suf (htb.trans c1) (fun z hz => (c2 z hz).imp id (fun y => ⟨y.1, y.2.elim fun nm y => ⟨nm, hw _ y.1 rfl, hE.2.1 _ y.2⟩⟩)) c3 c4 (hw _ c5 rfl) (va_Nw.use rfl (hE.1 _ c6 rfl)) (H := T'.heap) (by rw [e1]; exact hce) hcv hcl g
    obtain ⟨t2, a1, b1⟩ := gw T' rfl X'
    exact ⟨t2, go.trans a1, b1⟩
theorem a_callVC {mt' : MT} {idx n mc ms b ci : Nat} {as stk : List Value} {Q' : Res → AH → Prop} (hd : decode (mB mt) pc = .ok (.invokevirtual idx, 3)) (hl : Cond.methodLink (mN mt).cls idx (mN mt') ∈ lw_tb2 ∧ Cond.instanceMethod (mN mt') ∈ lw_tb2 ∧ Cond.selects (cR ci) (mN mt') (mN mt') ∈ lw_tb2) (hce : CE mt' n) (hs : shK b = some (.inl ci)) (hb : b < hN h) (hc' : AC mt' d mc ms (.ref b :: as) h Q') (hn : as.length = n) (hstk : stk = as.reverse ++ .ref b :: st) (hst : (st.map fun v => v.category).sum ≤ 8)
    (hnn : ∀ r h', Q' r h' → hN h' = hN h) (hlo : ∀ q ∈ ls, ∀ b, q.2 = .ref b → b ≠ 1030) (kk : ∀ v h', Q' (.inl v) h' → AW X mt (d + 1) kc ks (pc + 3) ls (v.toList ++ st) h' Q) (kx : ∀ E h', Q' (.inr E) h' → ∃ t, CT mt pc E t ∧ AW X mt (d + 1) kc ks t ls [.ref 1030] h' Q) : AW X mt (d + 1) (kc + mc) (ks + ms) pc ls stk h Q := by
  subst hstk
  intro p l e R s m args below meth c A G cls Z H locs cells slots ad lsA C F D hc hs2 hA
  obtain ⟨hx, hb2, hml, hown, hw, -, hls, -, -, -, hK, -, hd1, hd2⟩ := id C
  have ht : ∀ w ∈ lw_tb2.filter goodWord, w.before args s = true := fun w q => hw w (List.mem_filter.mp q).1 (List.mem_filter.mp q).2
  have cw : CallB R s args (mN mt).cls idx (mN mt') (mB mt') (mL mt') (mR mt') (wsM mt') (rmM d mc ms) mc ms n := callB_of n ht (wsM_good hce) rfl rfl rfl (hw _ hce.1.2 rfl) (hw _ hl.1 rfl) hce.2.1 ⟨by show d + 1 ≤ _; exact hd1, by show 8 + (mL mt' + 11) + 40 * d ≤ _; have := hce.2.2; omega⟩
  obtain ⟨ib, hib, hgb⟩ := wld_at (cls := cls) (ad := ad) (pr_sh hs hb)
  have hrecv := va_recv (q := (cR ci, cT ci, nF ci)) hK D.1 (vwCl_at (kdA_ci (kdA_sh hs))) (by rw [hgb, ce_obj (kdA_sh hs)])
  obtain ⟨q1, q2⟩ := pre_call C D ((Value.ref b :: as).map (cv ad))
  refine w_afterC (st := st) (mc := mc) (ms := ms) (Q' := Q') (a := ((Value.ref b :: as).map (cv ad)).toArray) ?_ C F D hc hs2 hA hnn hlo kk kx
  exact vx_runV (C := cR ci) (b := ad b) (As := as.map (cv ad)) (rest := st.map (cv ad)) ⟨hx, hb2, hml, hown, ht⟩ (hc' X l hls G cls ad H.size D.2.2.2.1 D.2.2.2.2) ⟨cw, hw _ hl.2.1 rfl, hw _ hl.2.2 rfl⟩ ⟨q1, hrecv, q2⟩ rfl (by rw [List.length_map]; exact hn) (hA.1) (by simp [cv]) (lv_room (cat_rest hst)) hd ⟨by omega, by omega⟩
/-- invokestatic of a method with handlers -/
theorem a_callSX {mt' : MT} {idx n mc ms : Nat} {as stk : List Value} {Q' : Res → AH → Prop} (hd : decode (mB mt) pc = .ok (.invokestatic idx, 3)) (hl : Cond.methodLink (mN mt).cls idx (mN mt') ∈ lw_tb2 ∧ Cond.static (mN mt') ∈ lw_tb2) (hce : CEH mt' n) (hc' : AH' mt' d mc ms as h Q') (hn : as.length = n) (hstk : stk = as.reverse ++ st) (hst : (st.map fun v => v.category).sum ≤ 8)
    (hnt : ∀ E h', ¬ Q' (.inr E) h') (hok : ∀ v h', Q' (.inl v) h' → hN h' = hN h) (kk : ∀ v h', Q' (.inl v) h' → AW X mt (d + 1) kc ks (pc + 3) ls (v.toList ++ st) h' Q) : AW X mt (d + 1) (kc + mc) (ks + ms) pc ls stk h Q := by
  subst hstk
  intro p l e R s m args below meth c A G cls Z H locs cells slots ad lsA C F D hc hs2 hA
  obtain ⟨hx, hb, hml, hown, hw, -, hls, -, -, -, hK, -, hd1, hd2⟩ := id C
  have ht : ∀ w ∈ lw_tb2.filter goodWord, w.before args s = true := fun w q => hw w (List.mem_filter.mp q).1 (List.mem_filter.mp q).2
  have cw : vx_CSW R s args (mN mt).cls idx (mN mt') (mB mt') (mL mt') (mR mt') (mH mt') (wsH mt') (rmM d mc ms) mc ms n :=
    ⟨⟨rfl, rfl, by show d + 1 ≤ _; exact hd1, by show 8 + (mL mt' + 11) + 40 * d ≤ _; have := hce.2.2; omega, pay_in ht (wsH_good hce), List.mem_cons_self⟩, hw _ hce.1.1 rfl, hw _ hce.1.2 rfl, ⟨hce.2.1.1, hce.2.1.2.1⟩, fun sig hsig => by
      have h2 := hce.2.1.2.2
      rw [hsig] at h2
      exact (Option.some.inj h2).symm, hw _ hl.1 rfl, hw _ hl.2 rfl⟩
  refine w_after (st := st) (mc := mc) (ms := ms) (Q' := Q') (a := (as.map (cv ad)).toArray) ?_ C F D hc hs2 hA hnt (Or.inl hok) kk
  exact vx_runSX (As := as.map (cv ad)) (rest := st.map (cv ad)) ⟨hx, hb, hml, hown, ht⟩ (hc' X l hls G cls ad H.size D.2.2.2.1 D.2.2.2.2) cw (pre_call C D _) rfl (by rw [List.length_map]; exact hn) (hA.1) (by simp) (lv_room (cat_rest hst)) hd ⟨by omega, by omega⟩
end RW75
