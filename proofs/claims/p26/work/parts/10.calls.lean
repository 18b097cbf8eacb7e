/-! rows of AW: ends and calls -/
def CE (mt : MT) (n : Nat) : Prop := (Cond.code (mN mt) (mB mt) (mL mt) (mR mt) ∈ lw_tb2 ∧ Cond.initialized (mN mt).cls ∈ lw_tb2) ∧ ((mN mt).cls ≠ "java/lang/invoke/MethodHandle" ∧ (mN mt).cls ≠ "java/lang/invoke/VarHandle" ∧ (parseMethodDescriptor (mN mt).desc).map (fun d => d.parameters.length) = some n) ∧ mL mt ≤ 20
theorem wsM_good {mt : MT} {n : Nat} (h : CE mt n) : GoodIn (lw_tb2.filter goodWord) (wsM mt) := by
  intro w hw
  rcases List.mem_cons.mp hw with rfl | hw
  · exact ⟨gw_mem h.1.1 rfl, Or.inl rfl⟩
  · exact ⟨hw, good_of_word (List.mem_filter.mp hw).2⟩
section RW10
variable {X : XT} {mt : MT} {d kc ks pc : Nat} {ls ls' : List (Nat × Value)} {st : List Value} {h : AH} {Q : Res → AH → Prop}
theorem a_ret_ {v : Option Value} {ins : Instr} (hd : decode (mB mt) pc = .ok (ins, 1)) (hr : retOK mt ins v) (hq : Q (.inl v) h) : AW X mt d kc ks pc ls v.toList h Q := by
  intro p l e R s m args below meth c A G cls Z H locs cells slots ad lsA C F D hc hs2 hA
  have g := F.1 v h hq ad H locs cells slots lsA pc ins (fun _ _ _ => rfl) (fun _ _ q => q) D (by omega) (by omega) hd hr
  cases v <;> exact g
theorem a_ireturn {x : Int32} {ty : FieldType} (hd : decode (mB mt) pc = .ok (.ireturn, 1)) (hr : mR mt = some ty) (hn : narrow ty (.int x) = .int x) (hq : Q (.inl (some (.int x))) h) : AW X mt d kc ks pc ls [.int x] h Q :=
  a_ret_ (v := some (.int x)) hd (Or.inr (Or.inl ⟨x, ty, rfl, rfl, hr, hn⟩)) hq
theorem a_lreturn {x : Int64} (hd : decode (mB mt) pc = .ok (.lreturn, 1)) (hr : mR mt = some .long) (hq : Q (.inl (some (.long x))) h) : AW X mt d kc ks pc ls [.long x] h Q :=
  a_ret_ (v := some (.long x)) hd (Or.inr (Or.inr (Or.inl ⟨x, rfl, rfl, hr⟩))) hq
theorem a_dreturn {x : UInt64} (hd : decode (mB mt) pc = .ok (.dreturn, 1)) (hr : mR mt = some .double) (hq : Q (.inl (some (.double x))) h) : AW X mt d kc ks pc ls [.double x] h Q :=
  a_ret_ (v := some (.double x)) hd (Or.inr (Or.inr (Or.inr (Or.inl ⟨x, rfl, rfl, hr⟩)))) hq
theorem a_areturn {b : Nat} {ty : FieldType} (hd : decode (mB mt) pc = .ok (.areturn, 1)) (hr : mR mt = some ty) (hk : kT ty = 2) (hb : b ≠ 1030) (hq : Q (.inl (some (.ref b))) h) : AW X mt d kc ks pc ls [.ref b] h Q :=
  a_ret_ (v := some (.ref b)) hd (Or.inr (Or.inr (Or.inr (Or.inr ⟨b, ty, rfl, rfl, hr, hb, hk⟩)))) hq
theorem a_return (hd : decode (mB mt) pc = .ok (.return_, 1)) (hr : mR mt = none) (hq : Q (.inl none) h) : AW X mt d kc ks pc ls [] h Q :=
  a_ret_ (v := none) hd (Or.inl ⟨rfl, rfl, hr⟩) hq
theorem a_throw {E : String} (ht : thrOK mt pc E) (h8 : 8 ≤ d) (hst : (st.map fun v => v.category).sum ≤ 8) (hq : Q (.inr E) h) : AW X mt d (kc + 1) (ks + 6) pc ls st h Q := by
  intro p l e R s m args below meth c A G cls Z H locs cells slots ad lsA C F D hc hs2 hA
  obtain ⟨-, -, hml, -, -, -, -, -, -, -, -, -, hd1, hd2⟩ := id C
  refine F.2 E h hq ad H locs cells slots lsA pc _ (fun _ _ _ => rfl) (fun _ _ q => q) D (by omega) (by omega) (hA.1.trans hml.symm) ?_ (by omega) (by omega) ht
  rw [List.map_map, show ((fun v : Value => v.category) ∘ cv ad) = (fun v => v.category) from funext (cv_cat ad)]
  exact hst
/-- behind a call that returns -/
theorem w_after {p : Program} {l : Launch} {e : Env} {R : Room} {s : State} {m : MethodId} {args : Array Value} {below : List Frame} {meth : Method} {c : Code} {A : Nat → Prop} {G : va_G} {cls : Nat → ClassId} {Z : State → Prop} {H : Heap} {locs : List Loc} {cells slots mc ms : Nat} {ad : Nat → Nat} {lsA : Array Slot} {st0 : List Value} {a : Array Value} {Q' : Res → AH → Prop}
    (hr : vx_Run p l e R s m args below meth c H locs cells slots mc ms (F0 m pc lsA st0) (st.map (cv ad)) (QR X G cls ad h H.size Q' a) (QX X G cls ad h H.size Q') (va_A (wld cls ad h) H.size))
    (C : CX X mt l d R p s m args meth c A G cls) (F : FIN X mt p l e R s m args below meth c A G cls Z (hN h) ad Q) (D : WD X A G cls s h ad H locs) (hc : cells + (kc + mc) ≤ R.cells) (hs2 : slots + (ks + ms) ≤ R.slots) (hA : lv_has lsA (mL mt) (ls.map (cl1 ad)))
    (hnt : ∀ E h', ¬ Q' (.inr E) h') (hok : (∀ v h', Q' (.inl v) h' → hN h' = hN h) ∨ ((∀ q ∈ ls, okd (hN h) q.2) ∧ ∀ v ∈ st, okd (hN h) v)) (kk : ∀ v h', Q' (.inl v) h' → AW X mt d kc ks (pc + 3) ls (v.toList ++ st) h' Q) :
    W p l e R s m args below meth c H locs cells slots Z (F0 m pc lsA st0) := by
  intro T hT Xs
  have hFA : ∀ q, va_A (wld cls ad h) H.size q → A q := fun q hq => by
    rcases hq with ⟨k, e9, hq⟩ | hq
    · exact D.2.1.2 k _ hq
    · exact C.2.2.2.2.2.2.2.2.2.1 q (Nat.le_trans D.2.2.1.1 hq)
  rcases hr T hT Xs with ⟨v, st₀, t, T', L, h0, X', hL, e1, e2, ⟨⟨v', h', ad', hv, -, hq, x1, x2, x3, x4, x5, x6⟩, hF⟩, go⟩ | ⟨q, st₀, t, T', L, E, ce, h0, X', hL, e1, e2, ⟨⟨h', ad', hq, -⟩, -⟩, -⟩
  · cases hv
    obtain ⟨k1, k2, k3⟩ := vx_keep (A0 := A) (A1 := va_A (wld cls ad h) H.size) h0 e1 D.2.2.1 (fun q _ z => hFA q z) hFA hL hF
    have hls : ls.map (cl1 ad') = ls.map (cl1 ad) ∧ st.map (cv ad') = st.map (cv ad) := by
      rcases hok with hok | ⟨o1, o2⟩
      · have hn := hok _ _ hq
        have he : ad' = ad := funext fun a => x1 a (by rw [hn]; exact Classical.em _)
        rw [he]; exact ⟨rfl, rfl⟩
      · have hext : ∀ a, (prN (hN h) a ∨ ext a) → ad' a = ad a := fun a ha => x1 a (ha.imp id (fun z => ext_no x3.1 z))
        exact ⟨map_okdl hext o1, map_okd hext o2⟩
    have g := kk v' h' hq p l e R s m args below meth c A G cls Z T'.heap (locs ++ L) (cells + mc) (slots + ms) ad' lsA C (F.up (fun _ => x2) (fun _ => x1)) ⟨by rw [e1]; exact x5, x6.weaken (fun _ q _ z => hFA q.1 z), k3, x3, x4⟩ (by omega) (by omega) (by rw [hls.1]; exact hA)
    have e9 : (v'.toList ++ st).map (cv ad') = (v'.map (cv ad')).toList ++ st.map (cv ad) := by
      rw [List.map_append, hls.2]
      cases v' <;> rfl
    rw [e9] at g
    obtain ⟨t2, a1, b1⟩ := g T' rfl X'
    exact ⟨t2, go t2 a1, b1⟩
  · exact absurd hq (hnt E h')
theorem pre_call {p : Program} {l : Launch} {R : Room} {s : State} {m : MethodId} {args : Array Value} {meth : Method} {c : Code} {A : Nat → Prop} {G : va_G} {cls : Nat → ClassId} {H : Heap} {locs : List Loc} {ad : Nat → Nat} (C : CX X mt l d R p s m args meth c A G cls) (D : WD X A G cls s h ad H locs) (av : List Value) : FrameBlind (va_Pc av (PB X G cls ad h H.size)) ∧ ∀ U : State, U.heap = H → s.WarmedH U.vm → va_Pc av (PB X G cls ad h H.size) av.toArray U := by
  refine ⟨blind_PB, fun U hU hW => ⟨rfl, by rw [hU], by rw [hU]; exact D.1, va_K.moved hW.alike C.2.2.2.2.2.2.2.2.2.2.1, D.2.1.weaken (fun _ _ _ _ => trivial), ?_⟩⟩
  refine EV.call C.2.2.2.2.2.2.2.2.2.2.2.1 hW hU D.2.2.1 (fun q hq => ?_)
  rcases hq with ⟨k, e9, hq⟩ | hq
  · exact D.2.1.2 k _ hq
  · exact C.2.2.2.2.2.2.2.2.2.1 q (Nat.le_trans D.2.2.1.1 hq)
theorem cat_rest {ad : Nat → Nat} (hst : (st.map fun v => v.category).sum ≤ 8) : ((st.map (cv ad)).map fun v => v.category).sum ≤ 8 := by
  rw [List.map_map, show ((fun v : Value => v.category) ∘ cv ad) = (fun v => v.category) from funext (cv_cat ad)]
  exact hst
/-- invokestatic -/
theorem a_callS {mt' : MT} {idx n mc ms : Nat} {as stk : List Value} {Q' : Res → AH → Prop} (hd : decode (mB mt) pc = .ok (.invokestatic idx, 3)) (hl : Cond.methodLink (mN mt).cls idx (mN mt') ∈ lw_tb2 ∧ Cond.static (mN mt') ∈ lw_tb2) (hce : CE mt' n) (hc' : AC mt' d mc ms as h Q') (hn : as.length = n) (hstk : stk = as.reverse ++ st) (hst : (st.map fun v => v.category).sum ≤ 8)
    (hnt : ∀ E h', ¬ Q' (.inr E) h') (hok : (∀ v h', Q' (.inl v) h' → hN h' = hN h) ∨ ((∀ q ∈ ls, okd (hN h) q.2) ∧ ∀ v ∈ st, okd (hN h) v)) (kk : ∀ v h', Q' (.inl v) h' → AW X mt (d + 1) kc ks (pc + 3) ls (v.toList ++ st) h' Q) : AW X mt (d + 1) (kc + mc) (ks + ms) pc ls stk h Q := by
  subst hstk
  intro p l e R s m args below meth c A G cls Z H locs cells slots ad lsA C F D hc hs2 hA
  obtain ⟨hx, hb, hml, hown, hw, -, hls, -, -, -, hK, -, hd1, hd2⟩ := id C
  have ht : ∀ w ∈ lw_tb2.filter goodWord, w.before args s = true := fun w q => hw w (List.mem_filter.mp q).1 (List.mem_filter.mp q).2
  have cw : CallB R s args (mN mt).cls idx (mN mt') (mB mt') (mL mt') (mR mt') (wsM mt') (rmM d mc ms) mc ms n := callB_of n ht (wsM_good hce) rfl rfl rfl (hw _ hce.1.2 rfl) (hw _ hl.1 rfl) hce.2.1 ⟨by show d + 1 ≤ _; exact hd1, by show 8 + (mL mt' + 11) + 40 * d ≤ _; have := hce.2.2; omega⟩
  refine w_after (st := st) (mc := mc) (ms := ms) (Q' := Q') (a := (as.map (cv ad)).toArray) ?_ C F D hc hs2 hA hnt hok kk
  exact vx_runS (As := as.map (cv ad)) (rest := st.map (cv ad)) ⟨hx, hb, hml, hown, ht⟩ (hc' X l hls G cls ad H.size D.2.2.2.1 D.2.2.2.2) ⟨cw, hw _ hl.2 rfl⟩ (pre_call C D _) rfl (by rw [List.length_map]; exact hn) (hA.1) (by simp) (lv_room (cat_rest hst)) hd ⟨by omega, by omega⟩
theorem a_callSN {mt' : MT} {host : String} {idx n mc ms : Nat} {as stk : List Value} {Q' : Res → AH → Prop} (hd : decode (mB mt) pc = .ok (.invokestatic idx, 3)) (hl : Cond.methodLinkNest (mN mt).cls idx (mN mt') host ∈ tables_1 ∧ Cond.static (mN mt') ∈ lw_tb2) (hce : CE mt' n) (hc' : AC mt' d mc ms as h Q') (hn : as.length = n) (hstk : stk = as.reverse ++ st) (hst : (st.map fun v => v.category).sum ≤ 8)
    (hnt : ∀ E h', ¬ Q' (.inr E) h') (hok : (∀ v h', Q' (.inl v) h' → hN h' = hN h) ∨ ((∀ q ∈ ls, okd (hN h) q.2) ∧ ∀ v ∈ st, okd (hN h) v)) (kk : ∀ v h', Q' (.inl v) h' → AW X mt (d + 1) kc ks (pc + 3) ls (v.toList ++ st) h' Q) : AW X mt (d + 1) (kc + mc) (ks + ms) pc ls stk h Q := by
  subst hstk
  intro p l e R s m args below meth c A G cls Z H locs cells slots ad lsA C F D hc hs2 hA
  obtain ⟨hx, hb, hml, hown, hw, -, hls, -, -, -, hK, hE, hd1, hd2⟩ := id C
  have ht : ∀ w ∈ lw_tb2.filter goodWord, w.before args s = true := fun w q => hw w (List.mem_filter.mp q).1 (List.mem_filter.mp q).2
  have cw : va_CN R s args (mN mt).cls idx (mN mt') host (mB mt') (mL mt') (mR mt') (wsM mt') (rmM d mc ms) mc ms n := va_cnB n ht (wsM_good hce) rfl rfl rfl (hE.1 _ hl.1 rfl) (hw _ hce.1.2 rfl) hce.2.1 ⟨by show d + 1 ≤ _; exact hd1, by show 8 + (mL mt' + 11) + 40 * d ≤ _; have := hce.2.2; omega⟩
  refine w_after (st := st) (mc := mc) (ms := ms) (Q' := Q') (a := (as.map (cv ad)).toArray) ?_ C F D hc hs2 hA hnt hok kk
  exact vx_runSN (As := as.map (cv ad)) (rest := st.map (cv ad)) ⟨hx, hb, hml, hown, ht⟩ (hc' X l hls G cls ad H.size D.2.2.2.1 D.2.2.2.2) ⟨cw, hw _ hl.2 rfl, trivial⟩ (pre_call C D _) rfl (by rw [List.length_map]; exact hn) (hA.1) (by simp) (lv_room (cat_rest hst)) hd ⟨by omega, by omega⟩
/-- invokevirtual -/
theorem g_callV {mt' : MT} {idx n mc ms b ci : Nat} {as stk : List Value} {Q' : Res → AH → Prop} (hd : decode (mB mt) pc = .ok (.invokevirtual idx, 3)) (hl : Cond.methodLink (mN mt).cls idx (mN mt') ∈ lw_tb2 ∧ Cond.instanceMethod (mN mt') ∈ lw_tb2 ∧ Cond.selects (cR ci) (mN mt') (mN mt') ∈ lw_tb2) (hce : CE mt' n) (hs : kdA b = some (.inl ci)) (hb : prN (hN h) b) (hc' : AC mt' d mc ms (.ref b :: as) h Q') (hn : as.length = n) (hstk : stk = as.reverse ++ .ref b :: st) (hst : (st.map fun v => v.category).sum ≤ 8)
    (hnt : ∀ E h', ¬ Q' (.inr E) h') (hok : (∀ v h', Q' (.inl v) h' → hN h' = hN h) ∨ ((∀ q ∈ ls, okd (hN h) q.2) ∧ ∀ v ∈ st, okd (hN h) v)) (kk : ∀ v h', Q' (.inl v) h' → AW X mt (d + 1) kc ks (pc + 3) ls (v.toList ++ st) h' Q) : AW X mt (d + 1) (kc + mc) (ks + ms) pc ls stk h Q := by
  subst hstk
  intro p l e R s m args below meth c A G cls Z H locs cells slots ad lsA C F D hc hs2 hA
  obtain ⟨hx, hb2, hml, hown, hw, -, hls, -, -, -, hK, -, hd1, hd2⟩ := id C
  have ht : ∀ w ∈ lw_tb2.filter goodWord, w.before args s = true := fun w q => hw w (List.mem_filter.mp q).1 (List.mem_filter.mp q).2
  have cw : CallB R s args (mN mt).cls idx (mN mt') (mB mt') (mL mt') (mR mt') (wsM mt') (rmM d mc ms) mc ms n := callB_of n ht (wsM_good hce) rfl rfl rfl (hw _ hce.1.2 rfl) (hw _ hl.1 rfl) hce.2.1 ⟨by show d + 1 ≤ _; exact hd1, by show 8 + (mL mt' + 11) + 40 * d ≤ _; have := hce.2.2; omega⟩
  obtain ⟨ib, hib, hgb⟩ := wld_at (cls := cls) (ad := ad) hb
  have hrecv := va_recv (q := (cR ci, cT ci, nF ci)) hK D.1 (vwCl_at (kdA_ci hs)) (by rw [hgb, ce_obj hs])
  obtain ⟨q1, q2⟩ := pre_call C D ((Value.ref b :: as).map (cv ad))
  refine w_after (st := st) (mc := mc) (ms := ms) (Q' := Q') (a := ((Value.ref b :: as).map (cv ad)).toArray) ?_ C F D hc hs2 hA hnt hok kk
  exact vx_runV (C := cR ci) (b := ad b) (As := as.map (cv ad)) (rest := st.map (cv ad)) ⟨hx, hb2, hml, hown, ht⟩ (hc' X l hls G cls ad H.size D.2.2.2.1 D.2.2.2.2) ⟨cw, hw _ hl.2.1 rfl, hw _ hl.2.2 rfl⟩ ⟨q1, hrecv, q2⟩ rfl (by rw [List.length_map]; exact hn) (hA.1) (by simp [cv]) (lv_room (cat_rest hst)) hd ⟨by omega, by omega⟩
theorem a_callV {mt' : MT} {idx n mc ms b ci : Nat} {as stk : List Value} {Q' : Res → AH → Prop} (hd : decode (mB mt) pc = .ok (.invokevirtual idx, 3)) (hl : Cond.methodLink (mN mt).cls idx (mN mt') ∈ lw_tb2 ∧ Cond.instanceMethod (mN mt') ∈ lw_tb2 ∧ Cond.selects (cR ci) (mN mt') (mN mt') ∈ lw_tb2) (hce : CE mt' n) (hs : shK b = some (.inl ci)) (hb : b < hN h) (hc' : AC mt' d mc ms (.ref b :: as) h Q') (hn : as.length = n) (hstk : stk = as.reverse ++ .ref b :: st) (hst : (st.map fun v => v.category).sum ≤ 8)
    (hnt : ∀ E h', ¬ Q' (.inr E) h') (hok : (∀ v h', Q' (.inl v) h' → hN h' = hN h) ∨ ((∀ q ∈ ls, okd (hN h) q.2) ∧ ∀ v ∈ st, okd (hN h) v)) (kk : ∀ v h', Q' (.inl v) h' → AW X mt (d + 1) kc ks (pc + 3) ls (v.toList ++ st) h' Q) : AW X mt (d + 1) (kc + mc) (ks + ms) pc ls stk h Q := g_callV hd hl hce (kdA_sh hs) (pr_sh hs hb) hc' hn hstk hst hnt hok kk
theorem g_callVN {mt' : MT} {host : String} {idx n mc ms b ci : Nat} {as stk : List Value} {Q' : Res → AH → Prop} (hd : decode (mB mt) pc = .ok (.invokevirtual idx, 3)) (hl : Cond.methodLinkNest (mN mt).cls idx (mN mt') host ∈ tables_1 ∧ Cond.instanceMethod (mN mt') ∈ lw_tb2 ∧ Cond.selects (cR ci) (mN mt') (mN mt') ∈ lw_tb2) (hce : CE mt' n) (hs : kdA b = some (.inl ci)) (hb : prN (hN h) b) (hc' : AC mt' d mc ms (.ref b :: as) h Q') (hn : as.length = n) (hstk : stk = as.reverse ++ .ref b :: st) (hst : (st.map fun v => v.category).sum ≤ 8)
    (hnt : ∀ E h', ¬ Q' (.inr E) h') (hok : (∀ v h', Q' (.inl v) h' → hN h' = hN h) ∨ ((∀ q ∈ ls, okd (hN h) q.2) ∧ ∀ v ∈ st, okd (hN h) v)) (kk : ∀ v h', Q' (.inl v) h' → AW X mt (d + 1) kc ks (pc + 3) ls (v.toList ++ st) h' Q) : AW X mt (d + 1) (kc + mc) (ks + ms) pc ls stk h Q := by
  subst hstk
  intro p l e R s m args below meth c A G cls Z H locs cells slots ad lsA C F D hc hs2 hA
  obtain ⟨hx, hb2, hml, hown, hw, -, hls, -, -, -, hK, hE, hd1, hd2⟩ := id C
  have ht : ∀ w ∈ lw_tb2.filter goodWord, w.before args s = true := fun w q => hw w (List.mem_filter.mp q).1 (List.mem_filter.mp q).2
  have cw : va_CN R s args (mN mt).cls idx (mN mt') host (mB mt') (mL mt') (mR mt') (wsM mt') (rmM d mc ms) mc ms n := va_cnB n ht (wsM_good hce) rfl rfl rfl (hE.1 _ hl.1 rfl) (hw _ hce.1.2 rfl) hce.2.1 ⟨by show d + 1 ≤ _; exact hd1, by show 8 + (mL mt' + 11) + 40 * d ≤ _; have := hce.2.2; omega⟩
  obtain ⟨ib, hib, hgb⟩ := wld_at (cls := cls) (ad := ad) hb
  have hrecv := va_recv (q := (cR ci, cT ci, nF ci)) hK D.1 (vwCl_at (kdA_ci hs)) (by rw [hgb, ce_obj hs])
  obtain ⟨q1, q2⟩ := pre_call C D ((Value.ref b :: as).map (cv ad))
  refine w_after (st := st) (mc := mc) (ms := ms) (Q' := Q') (a := ((Value.ref b :: as).map (cv ad)).toArray) ?_ C F D hc hs2 hA hnt hok kk
  exact vx_runVN (C := cR ci) (b := ad b) (As := as.map (cv ad)) (rest := st.map (cv ad)) ⟨hx, hb2, hml, hown, ht⟩ (hc' X l hls G cls ad H.size D.2.2.2.1 D.2.2.2.2) ⟨cw, hw _ hl.2.1 rfl, hw _ hl.2.2 rfl⟩ ⟨q1, hrecv, q2⟩ rfl (by rw [List.length_map]; exact hn) (hA.1) (by simp [cv]) (lv_room (cat_rest hst)) hd ⟨by omega, by omega⟩
theorem a_callVN {mt' : MT} {host : String} {idx n mc ms b ci : Nat} {as stk : List Value} {Q' : Res → AH → Prop} (hd : decode (mB mt) pc = .ok (.invokevirtual idx, 3)) (hl : Cond.methodLinkNest (mN mt).cls idx (mN mt') host ∈ tables_1 ∧ Cond.instanceMethod (mN mt') ∈ lw_tb2 ∧ Cond.selects (cR ci) (mN mt') (mN mt') ∈ lw_tb2) (hce : CE mt' n) (hs : shK b = some (.inl ci)) (hb : b < hN h) (hc' : AC mt' d mc ms (.ref b :: as) h Q') (hn : as.length = n) (hstk : stk = as.reverse ++ .ref b :: st) (hst : (st.map fun v => v.category).sum ≤ 8)
    (hnt : ∀ E h', ¬ Q' (.inr E) h') (hok : (∀ v h', Q' (.inl v) h' → hN h' = hN h) ∨ ((∀ q ∈ ls, okd (hN h) q.2) ∧ ∀ v ∈ st, okd (hN h) v)) (kk : ∀ v h', Q' (.inl v) h' → AW X mt (d + 1) kc ks (pc + 3) ls (v.toList ++ st) h' Q) : AW X mt (d + 1) (kc + mc) (ks + ms) pc ls stk h Q := g_callVN hd hl hce (kdA_sh hs) (pr_sh hs hb) hc' hn hstk hst hnt hok kk
/-- constructors -/
theorem a_callI {mt' : MT} {idx n mc ms b : Nat} {as stk : List Value} {Q' : Res → AH → Prop} (hd : decode (mB mt) pc = .ok (.invokespecial idx, 3)) (hl : Cond.methodLink (mN mt).cls idx (mN mt') ∈ lw_tb2 ∧ Cond.instanceMethod (mN mt') ∈ lw_tb2) (hnm : (mN mt').name = "<init>") (hret : mR mt' = none) (hce : CE mt' n) (hc' : AC mt' d mc ms (.ref b :: as) h Q') (hn : as.length = n) (hstk : stk = as.reverse ++ .ref b :: st) (hst : (st.map fun v => v.category).sum ≤ 8)
    (hnt : ∀ E h', ¬ Q' (.inr E) h') (hok : (∀ v h', Q' (.inl v) h' → hN h' = hN h) ∨ ((∀ q ∈ ls, okd (hN h) q.2) ∧ ∀ v ∈ st, okd (hN h) v)) (kk : ∀ v h', Q' (.inl v) h' → AW X mt (d + 1) kc ks (pc + 3) ls (v.toList ++ st) h' Q) : AW X mt (d + 1) (kc + mc) (ks + ms) pc ls stk h Q := by
  subst hstk
  intro p l e R s m args below meth c A G cls Z H locs cells slots ad lsA C F D hc hs2 hA
  obtain ⟨hx, hb2, hml, hown, hw, -, hls, -, -, -, hK, -, hd1, hd2⟩ := id C
  have ht : ∀ w ∈ lw_tb2.filter goodWord, w.before args s = true := fun w q => hw w (List.mem_filter.mp q).1 (List.mem_filter.mp q).2
  have cw : CallB R s args (mN mt).cls idx (mN mt') (mB mt') (mL mt') none (wsM mt') (rmM d mc ms) mc ms n := callB_of n ht (wsM_good hce) (by rw [← hret]; rfl) rfl rfl (hw _ hce.1.2 rfl) (hw _ hl.1 rfl) hce.2.1 ⟨by show d + 1 ≤ _; exact hd1, by show 8 + (mL mt' + 11) + 40 * d ≤ _; have := hce.2.2; omega⟩
  refine w_after (st := st) (mc := mc) (ms := ms) (Q' := Q') (a := ((Value.ref b :: as).map (cv ad)).toArray) ?_ C F D hc hs2 hA hnt hok kk
  exact vx_runI (b := ad b) (As := as.map (cv ad)) (rest := st.map (cv ad)) ⟨hx, hb2, hml, hown, ht⟩ (hc' X l hls G cls ad H.size D.2.2.2.1 D.2.2.2.2) ⟨cw, hnm, hw _ hl.2 rfl⟩ (pre_call C D _) rfl (by rw [List.length_map]; exact hn) (hA.1) (by simp [cv]) (lv_room (cat_rest hst)) hd ⟨by omega, by omega⟩
theorem a_callIN {mt' : MT} {host : String} {idx n mc ms b : Nat} {as stk : List Value} {Q' : Res → AH → Prop} (hd : decode (mB mt) pc = .ok (.invokespecial idx, 3)) (hl : Cond.methodLinkNest (mN mt).cls idx (mN mt') host ∈ tables_1 ∧ Cond.instanceMethod (mN mt') ∈ lw_tb2) (hnm : (mN mt').name = "<init>") (hret : mR mt' = none) (hce : CE mt' n) (hc' : AC mt' d mc ms (.ref b :: as) h Q') (hn : as.length = n) (hstk : stk = as.reverse ++ .ref b :: st) (hst : (st.map fun v => v.category).sum ≤ 8)
    (hnt : ∀ E h', ¬ Q' (.inr E) h') (hok : (∀ v h', Q' (.inl v) h' → hN h' = hN h) ∨ ((∀ q ∈ ls, okd (hN h) q.2) ∧ ∀ v ∈ st, okd (hN h) v)) (kk : ∀ v h', Q' (.inl v) h' → AW X mt (d + 1) kc ks (pc + 3) ls (v.toList ++ st) h' Q) : AW X mt (d + 1) (kc + mc) (ks + ms) pc ls stk h Q := by
  subst hstk
  intro p l e R s m args below meth c A G cls Z H locs cells slots ad lsA C F D hc hs2 hA
  obtain ⟨hx, hb2, hml, hown, hw, -, hls, -, -, -, hK, hE, hd1, hd2⟩ := id C
  have ht : ∀ w ∈ lw_tb2.filter goodWord, w.before args s = true := fun w q => hw w (List.mem_filter.mp q).1 (List.mem_filter.mp q).2
  have cw : va_CN R s args (mN mt).cls idx (mN mt') host (mB mt') (mL mt') none (wsM mt') (rmM d mc ms) mc ms n := va_cnB n ht (wsM_good hce) (by rw [← hret]; rfl) rfl rfl (hE.1 _ hl.1 rfl) (hw _ hce.1.2 rfl) hce.2.1 ⟨by show d + 1 ≤ _; exact hd1, by show 8 + (mL mt' + 11) + 40 * d ≤ _; have := hce.2.2; omega⟩
  refine w_after (st := st) (mc := mc) (ms := ms) (Q' := Q') (a := ((Value.ref b :: as).map (cv ad)).toArray) ?_ C F D hc hs2 hA hnt hok kk
  exact vx_runIN (b := ad b) (As := as.map (cv ad)) (rest := st.map (cv ad)) ⟨hx, hb2, hml, hown, ht⟩ (hc' X l hls G cls ad H.size D.2.2.2.1 D.2.2.2.2) ⟨cw, hnm, hw _ hl.2 rfl⟩ (pre_call C D _) rfl (by rw [List.length_map]; exact hn) (hA.1) (by simp [cv]) (lv_room (cat_rest hst)) hd ⟨by omega, by omega⟩
end RW10
