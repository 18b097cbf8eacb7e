/-! remember -/
/-- ends without an answer, and R -/
def Qu (R : AH → Prop) : Res → AH → Prop := fun r h2 => r = .inl none ∧ R h2
theorem Qu_nt {R : AH → Prop} : ∀ E h2, ¬ Qu R (.inr E) h2 := fun _ _ q => by cases q.1
theorem ku_of {X : XT} {mt : MT} {d kc ks pc : Nat} {ls : List (Nat × Value)} {st : List Value} {Q : Res → AH → Prop} {R : AH → Prop} (kk : ∀ h2, R h2 → AW X mt d kc ks pc ls st h2 Q) : ∀ v2 h2, Qu R (.inl v2) h2 → AW X mt d kc ks pc ls (v2.toList ++ st) h2 Q := by
  intro v2 h2 q
  obtain ⟨e1, e2⟩ := q
  cases e1
  exact kk h2 e2
theorem hoku_of {R : AH → Prop} {h : AH} {P : Prop} (hR : ∀ h2, R h2 → hN h2 = hN h) : (∀ v2 h2, Qu R (.inl v2) h2 → hN h2 = hN h) ∨ P := Or.inl fun v2 h2 q => hR h2 q.2
section RW36
variable {X : XT} {mt : MT} {d kc ks pc : Nat} {ls ls' : List (Nat × Value)} {st : List Value} {h : AH} {Q : Res → AH → Prop}
theorem a_uV {mt' : MT} {idx n b ci : Nat} {as stk : List Value} {R : AH → Prop} (hd : decode (mB mt) pc = .ok (.invokevirtual idx, 3)) (hl : Cond.methodLink (mN mt).cls idx (mN mt') ∈ lw_tb2 ∧ Cond.instanceMethod (mN mt') ∈ lw_tb2 ∧ Cond.selects (cR ci) (mN mt') (mN mt') ∈ lw_tb2) (hce : CE mt' n) (hs : shK b = some (.inl ci)) (hb : b < hN h) (hc' : AC mt' d 0 0 (.ref b :: as) h (Qu R)) (hn : as.length = n) (hstk : stk = as.reverse ++ .ref b :: st) (hst : (st.map fun v => v.category).sum ≤ 8) (hR : ∀ h2, R h2 → hN h2 = hN h) (kk : ∀ h2, R h2 → AW X mt (d + 1) kc ks (pc + 3) ls st h2 Q) : AW X mt (d + 1) kc ks pc ls stk h Q :=
  a_callV (mc := 0) (ms := 0) hd hl hce hs hb hc' hn hstk hst Qu_nt (hoku_of hR) (ku_of kk)
theorem a_uVN {mt' : MT} {host : String} {idx n b ci : Nat} {as stk : List Value} {R : AH → Prop} (hd : decode (mB mt) pc = .ok (.invokevirtual idx, 3)) (hl : Cond.methodLinkNest (mN mt).cls idx (mN mt') host ∈ tables_1 ∧ Cond.instanceMethod (mN mt') ∈ lw_tb2 ∧ Cond.selects (cR ci) (mN mt') (mN mt') ∈ lw_tb2) (hce : CE mt' n) (hs : shK b = some (.inl ci)) (hb : b < hN h) (hc' : AC mt' d 0 0 (.ref b :: as) h (Qu R)) (hn : as.length = n) (hstk : stk = as.reverse ++ .ref b :: st) (hst : (st.map fun v => v.category).sum ≤ 8) (hR : ∀ h2, R h2 → hN h2 = hN h) (kk : ∀ h2, R h2 → AW X mt (d + 1) kc ks (pc + 3) ls st h2 Q) : AW X mt (d + 1) kc ks pc ls stk h Q :=
  a_callVN (mc := 0) (ms := 0) hd hl hce hs hb hc' hn hstk hst Qu_nt (hoku_of hR) (ku_of kk)
end RW36
/-- the other object's cells stand as they did -/
def Fw (h h2 : AH) : Prop := hN h2 = hN h ∧ ∀ a, 66 ≤ a → hI h2 a = hI h a ∧ hL h2 a = hL h a ∧ hR h2 a = hR h a
theorem Fw.refl {h : AH} : Fw h h := ⟨rfl, fun _ _ => ⟨rfl, rfl, rfl⟩⟩
theorem Fw.trans {h h2 h3 : AH} (f : Fw h h2) (g : Fw h2 h3) : Fw h h3 := ⟨g.1.trans f.1, fun a ha => ⟨(g.2 a ha).1.trans (f.2 a ha).1, (g.2 a ha).2.1.trans (f.2 a ha).2.1, (g.2 a ha).2.2.trans (f.2 a ha).2.2⟩⟩
theorem Fr.w {S : List Nat} {h h2 : AH} (f : Fr S h h2) (hs : ∀ a, a ∈ S → a < 66) : Fw h h2 := ⟨f.1, fun a ha => ⟨(f.2.2 a (fun z => by have := hs a z; omega)).1, (f.2.2 a (fun z => by have := hs a z; omega)).2, by rw [f.2.1]⟩⟩
theorem CB.r6 {h h2 : AH} (c : CB h) (hn : hN h2 = hN h) (e : ∀ a, a ≠ 6 → hR h2 a = hR h a) : CB h2 := by
  refine ⟨by rw [hn]; exact c.1, ?_⟩
  obtain ⟨c0, cs, c7, c13, c17, c16, c22, -⟩ := c.2
  unfold CBr
  rw [e 0 (by omega), e 7 (by omega), e 13 (by omega), e 17 (by omega), e 16 (by omega), e 22 (by omega)]
  refine ⟨c0, fun k hk => ?_, c7, c13, c17, c16, c22, trivial⟩
  rw [e k (by rcases hk with rfl | rfl | ⟨i, hi, rfl⟩ <;> omega)]
  exact cs k hk
/-- the scratch cells stand as they did -/
def Fvx (h h2 : AH) : Prop := ∀ a, 7 ≤ a → a ≤ 33 → hI h2 a = hI h a ∧ hL h2 a = hL h a
theorem Fvx.trans {h h2 h3 : AH} (f : Fvx h h2) (g : Fvx h2 h3) : Fvx h h3 := fun a h1 h2 => ⟨(g a h1 h2).1.trans (f a h1 h2).1, (g a h1 h2).2.trans (f a h1 h2).2⟩
def tShift (t : ST) : ST := (tC t, (tB t, tY t), tE t, (7, fun i => tP t (i + 1)))
noncomputable def tPush (t : ST) : ST := (tC t, (tB t, tY t), tE t, (tN t + 1, fun i => if i = tN t then tC t else tP t i))
noncomputable def tRem (t : ST) : ST := if tN t = 8 then tPush (tShift t) else tPush t
theorem shP {i : Nat} (h : i < 8) : shKs (34 + 4 * i) := Or.inr (Or.inr ⟨i, h, rfl⟩)
theorem sR_row {h : AH} {a j b : Nat} {x : Option Nat} (hb : b ≠ a) : hR (sR h a j x) b = hR h b := up2_row hb
set_option maxHeartbeats 1500000 in
set_option maxRecDepth 100000 in
theorem sp_makeOldest {d : Nat} {h : AH} {t : ST} (m : IM0 h t) (h8 : tN t = 8) : AC mX4_makeOldestFinal (d + 2) 0 0 [.ref 0] h (Qu (fun h2 => IM0 h2 (tShift t) ∧ Fw h h2 ∧ hI h2 0 9 = hI h 0 9 ∧ Fvx h h2)) := by
  refine AC.of (by decide) rfl (Nat.le_of_ble_eq_true rfl) (fun X => ?_)
  show AW X mX4_makeOldestFinal (d + 2) 0 0 0 [(0, .ref 0)] [] h (Qu (fun h2 => IM0 h2 (tShift t) ∧ Fw h h2 ∧ hI h2 0 9 = hI h 0 9 ∧ Fvx h h2))
  obtain ⟨c, g, r, b0, e2, e5, w, w1, w2⟩ := m
  have hn := c.1
  have LP : ∀ (fu : Nat) (i : Nat) (H : AH), 1 ≤ i ∧ i ≤ 8 → (hN H = hN h ∧ hI H = hI h ∧ hL H = hL h) → (∀ a, a ≠ 6 → hR H a = hR h a) → (∀ j, j + 1 < i → hR H 6 j = hR h 6 (j + 1)) → (∀ j, i ≤ j + 1 → hR H 6 j = hR h 6 j) → 8 - i < fu → AW X mX4_makeOldestFinal (d + 2) 0 0 9 [(0, .ref 0), (1, .ref (34 + 4 * w 0)), (2, .int (nI i))] [] H (Qu (fun h2 => IM0 h2 (tShift t) ∧ Fw h h2 ∧ hI h2 0 9 = hI h 0 9 ∧ Fvx h h2)) := by
    intro fu
    induction fu with
    | zero => intro i H hi hk h6 hlo hhi hz; exact absurd hz (Nat.not_lt_zero _)
    | succ fu ih =>
      intro i H hi hk h6 hlo hhi hz
      have c1 := c.r6 hk.1 h6
      have hn2 := c1.1
      refine a_iload_n (pc := 9) (i := 2) dX4_makeOldestFinal_9 rfl rfl ?_
      refine a_bipush (pc := 10) (v := nI 8) dX4_makeOldestFinal_10 (by decide) ?_
      refine n_icmp_ge (pc := 12) (tgt := 35) dX4_makeOldestFinal_12 (by decide) (by omega) (by omega) (fun c12 => ?_) (fun c12 => ?_)
      · have e : i = 8 := by omega
        subst e
        refine a_aload_n (pc := 35) (i := 0) dX4_makeOldestFinal_35 rfl rfl ?_
        refine a_getR (pc := 36) (ci := 4) (k := 4) (b := 6) dX4_makeOldestFinal_36 (lf_RX4_27 rfl) (by decide) rfl rfl (lt90 hn2 (shK_lt (show shK 0 = _ from rfl))) c1.2.1.2.2.1 ?_
        refine a_bipush (pc := 39) (v := nI 7) dX4_makeOldestFinal_39 (by decide) ?_
        refine a_aload_n (pc := 41) (i := 1) dX4_makeOldestFinal_41 rfl rfl ?_
        refine a_aast (pc := 42) (j := 7) (b := (34 + 4 * w 0)) dX4_makeOldestFinal_42 rfl (lt90 hn2 (shK_lt (show shK 6 = _ from rfl))) rfl (by omega) (shKs_sh (shP (w1.1 0 (by omega)).1)).1 (lt90 hn2 (shK_lt (shKs_sh (shP (w1.1 0 (by omega)).1)).1)) ?_
        refine a_aload_n (pc := 43) (i := 0) dX4_makeOldestFinal_43 rfl rfl ?_
        refine a_bipush (pc := 44) (v := nI 7) dX4_makeOldestFinal_44 (by decide) ?_
        refine a_putI (pc := 46) (ci := 4) (k := 5) dX4_makeOldestFinal_46 (lf_RX4_31 rfl) (by decide) (Or.inl rfl) rfl (lt90 hn2 (shK_lt (show shK 0 = _ from rfl))) rfl ?_
        obtain ⟨HF, hHF⟩ : ∃ Hx, Hx = sI (sR H 6 7 (some (34 + 4 * w 0))) 0 5 (nI 7) := ⟨_, rfl⟩
        have rI : ∀ a, a ≠ 0 → hI HF a = hI h a := fun a ha => by rw [hHF, show hI (sI (sR H 6 7 (some (34 + 4 * w 0))) 0 5 (nI 7)) a = hI H a from up2_row ha, hk.2.1]
        have rL : hL HF = hL h := by rw [hHF]; exact hk.2.2
        have rR : ∀ a, a ≠ 6 → hR HF a = hR h a := fun a ha => by rw [hHF, hR_sI, sR_row ha, h6 a ha]
        have r6 : ∀ j, j < 8 → hR HF 6 j = hR h 6 ((j + 1) % 8) := fun j hj => by
          rw [hHF, hR_sI, hR_sR]
          by_cases e : j = 7
          · rw [if_pos ⟨rfl, e⟩, e]; exact (w1.1 0 (by omega)).2.symm
          · rw [if_neg (fun z => e z.2), hlo j (by omega), Nat.mod_eq_of_lt (by omega)]
        have r0 : ∀ j, j ≠ 5 → hI HF 0 j = hI h 0 j := fun j hj => by rw [hHF, rd1 (by omega)]; exact congrFun (congrFun hk.2.1 0) j
        have r5 : hI HF 0 5 = nI 7 := by rw [hHF]; exact rd2 ⟨rfl, rfl⟩
        have rN : hN HF = hN h := by rw [hHF]; exact hk.1
        refine a_heap (h' := HF) hHF.symm ?_
        exact a_return (pc := 49) dX4_makeOldestFinal_49 rfl (⟨rfl, ⟨c.r6 rN rR, ⟨g.1, g.2.1, g.2.2.1, by show 7 ≤ 8; omega, fun i => g.2.2.2.2 (i + 1)⟩, r.row (fun a h1 h3 => ⟨rI a (by omega), congrFun rL a⟩), ⟨(r0 1 (by omega)).trans b0.1, fun j hj => by rw [rI 1 (by omega)]; exact b0.2 j hj⟩, (r0 2 (by omega)).trans e2, r5, fun i => w ((i + 1) % 8), ⟨fun i hi => ⟨(w1.1 _ (Nat.mod_lt _ (by omega))).1, by rw [r6 i hi]; exact (w1.1 _ (Nat.mod_lt _ (by omega))).2⟩, fun i j hi hj e => by have := w1.2 _ _ (Nat.mod_lt _ (by omega)) (Nat.mod_lt _ (by omega)) e; omega⟩, fun i hi => by have hi : i < 7 := hi; show CR HF (34 + 4 * w ((i + 1) % 8)) (tP t (i + 1)); rw [Nat.mod_eq_of_lt (by omega)]; exact (w2 (i + 1) (by omega)).row (fun a h1 h3 => ⟨rI a (by omega), congrFun rL a⟩)⟩, ⟨rN, fun a ha => ⟨rI a (by omega), congrFun rL a, rR a (by omega)⟩⟩, r0 9 (by omega), fun a h1 h3 => ⟨rI a (by omega), congrFun rL a⟩⟩)
      · skip
        refine a_aload_n (pc := 15) (i := 0) dX4_makeOldestFinal_15 rfl rfl ?_
        refine a_getR (pc := 16) (ci := 4) (k := 4) (b := 6) dX4_makeOldestFinal_16 (lf_RX4_27 rfl) (by decide) rfl rfl (lt90 hn2 (shK_lt (show shK 0 = _ from rfl))) c1.2.1.2.2.1 ?_
        refine a_iload_n (pc := 19) (i := 2) dX4_makeOldestFinal_19 rfl rfl ?_
        refine a_iconst (pc := 20) (v := nI 1) dX4_makeOldestFinal_20 (by decide) ?_
        refine n_isub (pc := 21) dX4_makeOldestFinal_21 (by omega) ?_
        refine a_aload_n (pc := 22) (i := 0) dX4_makeOldestFinal_22 rfl rfl ?_
        refine a_getR (pc := 23) (ci := 4) (k := 4) (b := 6) dX4_makeOldestFinal_23 (lf_RX4_27 rfl) (by decide) rfl rfl (lt90 hn2 (shK_lt (show shK 0 = _ from rfl))) c1.2.1.2.2.1 ?_
        refine a_iload_n (pc := 26) (i := 2) dX4_makeOldestFinal_26 rfl rfl ?_
        refine a_aald (pc := 27) (j := i) (b := (34 + 4 * w i)) dX4_makeOldestFinal_27 rfl (lt90 hn2 (shK_lt (show shK 6 = _ from rfl))) rfl (by omega) ((hhi i (by omega)).trans (w1.1 i (by omega)).2) ?_
        refine a_aast (pc := 28) (j := (i - 1)) (b := (34 + 4 * w i)) dX4_makeOldestFinal_28 rfl (lt90 hn2 (shK_lt (show shK 6 = _ from rfl))) rfl (by omega) (shKs_sh (shP (w1.1 i (by omega)).1)).1 (lt90 hn2 (shK_lt (shKs_sh (shP (w1.1 i (by omega)).1)).1)) ?_
        refine n_iinc (pc := 29) (k := 1) (ls' := [(0, .ref 0), (1, .ref (34 + 4 * w 0)), (2, .int (nI (i + 1)))]) dX4_makeOldestFinal_29 rfl (by decide) (by decide) rfl ?_
        refine a_goto (pc := 32) (tgt := 9) dX4_makeOldestFinal_32 (by decide) ?_
        exact ih (i + 1) _ (by omega) hk (fun a ha => (sR_row ha).trans (h6 a ha)) (fun j hj => by
      rw [hR_sR]
      by_cases e : j = i - 1
      · rw [if_pos ⟨rfl, e⟩, show j + 1 = i by omega]; exact (w1.1 i (by omega)).2.symm
      · rw [if_neg (fun z => e z.2)]; exact hlo j (by omega)) (fun j hj => by rw [hR_sR, if_neg (by omega)]; exact hhi j (by omega)) (by omega)
  refine a_aload_n (pc := 0) (i := 0) dX4_makeOldestFinal_0 rfl rfl ?_
  refine a_getR (pc := 1) (ci := 4) (k := 4) (b := 6) dX4_makeOldestFinal_1 (lf_RX4_27 rfl) (by decide) rfl rfl (lt90 hn (shK_lt (show shK 0 = _ from rfl))) c.2.1.2.2.1 ?_
  refine a_iconst (pc := 4) (v := nI 0) dX4_makeOldestFinal_4 (by decide) ?_
  refine a_aald (pc := 5) (j := 0) (b := (34 + 4 * w 0)) dX4_makeOldestFinal_5 rfl (lt90 hn (shK_lt (show shK 6 = _ from rfl))) rfl (by omega) (w1.1 0 (by omega)).2 ?_
  refine a_astore_n (pc := 6) (i := 1) (ls' := [(0, .ref 0), (1, .ref (34 + 4 * w 0))]) dX4_makeOldestFinal_6 rfl (by decide) rfl ?_
  refine a_iconst (pc := 7) (v := nI 1) dX4_makeOldestFinal_7 (by decide) ?_
  refine a_istore_n (pc := 8) (i := 2) (ls' := [(0, .ref 0), (1, .ref (34 + 4 * w 0)), (2, .int (nI 1))]) dX4_makeOldestFinal_8 rfl (by decide) rfl ?_
  exact LP 8 1 h (by omega) ⟨rfl, rfl, rfl⟩ (fun _ _ => rfl) (fun j hj => absurd hj (by omega)) (fun _ _ => rfl) (by omega)
set_option maxHeartbeats 1500000 in
set_option maxRecDepth 100000 in
theorem sp_remember {d : Nat} {h : AH} {t : ST} (m : IM0 h t) : AC mX4_remember (d + 3) 0 0 [.ref 0] h (Qu (fun h2 => IM0 h2 (tRem t) ∧ Fw h h2 ∧ hI h2 0 9 = 0 ∧ Fvx h h2)) := by
  refine AC.of (by decide) rfl (Nat.le_of_ble_eq_true rfl) (fun X => ?_)
  show AW X mX4_remember (d + 3) 0 0 0 [(0, .ref 0)] [] h (Qu (fun h2 => IM0 h2 (tRem t) ∧ Fw h h2 ∧ hI h2 0 9 = 0 ∧ Fvx h h2))
  have TL : ∀ (u : ST) (H : AH), IM0 H u → tN u ≤ 7 → tPush u = tRem t → Fw h H → hI H 0 9 = 0 → Fvx h H → AW X mX4_remember (d + 3) 0 0 18 [(0, .ref 0)] [] H (Qu (fun h2 => IM0 h2 (tRem t) ∧ Fw h h2 ∧ hI h2 0 9 = 0 ∧ Fvx h h2)) := by
    intro u H hm hu7 hpu hfw h90 hfv
    have hm2 := hm
    obtain ⟨c, g, r, b0, e2, e5, w, w1, w2⟩ := hm
    have hn := c.1
    have hw := (w1.1 (tN u) (by omega)).1
    refine a_aload_n (pc := 18) (i := 0) dX4_remember_18 rfl rfl ?_
    refine a_getI (pc := 19) (ci := 4) (k := 5) dX4_remember_19 (lf_RX4_31 rfl) (by decide) rfl rfl (lt90 hn (shK_lt (show shK 0 = _ from rfl))) ?_
    refine a_top (show (.int (hI H 0 5) : Value) = .int (nI (tN u)) from congrArg Value.int e5) ?_
    refine n_if_lt (pc := 22) (tgt := 46) dX4_remember_22 (by decide) (by omega) ?_
    refine a_aload_n (pc := 25) (i := 0) dX4_remember_25 rfl rfl ?_
    refine a_getI (pc := 26) (ci := 4) (k := 5) dX4_remember_26 (lf_RX4_31 rfl) (by decide) rfl rfl (lt90 hn (shK_lt (show shK 0 = _ from rfl))) ?_
    refine a_top (show (.int (hI H 0 5) : Value) = .int (nI (tN u)) from congrArg Value.int e5) ?_
    refine a_bipush (pc := 29) (v := nI 8) dX4_remember_29 (by decide) ?_
    refine n_icmp_ge (pc := 31) (tgt := 46) dX4_remember_31 (by decide) (by omega) (by omega) (fun c31 => ?_) (fun c31 => ?_)
    · exact absurd c31 (by omega)
    · skip
      refine a_aload_n (pc := 34) (i := 0) dX4_remember_34 rfl rfl ?_
      refine a_getR (pc := 35) (ci := 4) (k := 4) (b := 6) dX4_remember_35 (lf_RX4_27 rfl) (by decide) rfl rfl (lt90 hn (shK_lt (show shK 0 = _ from rfl))) c.2.1.2.2.1 ?_
      refine a_aload_n (pc := 38) (i := 0) dX4_remember_38 rfl rfl ?_
      refine a_getI (pc := 39) (ci := 4) (k := 5) dX4_remember_39 (lf_RX4_31 rfl) (by decide) rfl rfl (lt90 hn (shK_lt (show shK 0 = _ from rfl))) ?_
      refine a_top (show (.int (hI H 0 5) : Value) = .int (nI (tN u)) from congrArg Value.int e5) ?_
      refine a_aald (pc := 42) (j := (tN u)) (b := (34 + 4 * w (tN u))) dX4_remember_42 rfl (lt90 hn (shK_lt (show shK 6 = _ from rfl))) rfl (by omega) (w1.1 (tN u) (by omega)).2 ?_
      refine a_goto (pc := 43) (tgt := 47) dX4_remember_43 (by decide) ?_
      refine a_astore_n (pc := 47) (i := 1) (ls' := [(0, .ref 0), (1, .ref (34 + 4 * w (tN u)))]) dX4_remember_47 rfl (by decide) rfl ?_
      refine a_aload_n (pc := 48) (i := 1) dX4_remember_48 rfl rfl ?_
      refine a_ifnull (pc := 49) dX4_remember_49 ?_
      refine a_aload_n (pc := 52) (i := 1) dX4_remember_52 rfl rfl ?_
      refine a_aload_n (pc := 53) (i := 0) dX4_remember_53 rfl rfl ?_
      refine a_getR (pc := 54) (ci := 4) (k := 3) (b := 2) dX4_remember_54 (lf_RX4_23 rfl) (by decide) rfl rfl (lt90 hn (shK_lt (show shK 0 = _ from rfl))) c.2.1.2.1 ?_
      refine a_wVN0 (pc := 57) (as := [.ref 2]) (b := 34 + 4 * w (tN u)) (ci := 3) dX4_remember_57 (lc_RX4_79 rfl) ceX3_copyFrom (shKs_sh (shP hw)).1 (lt90 hn (shK_lt (shKs_sh (shP hw)).1)) (sp_copyFrom c g.1 (shP hw) (Or.inl rfl) (by omega) r) rfl rfl (Nat.le_of_ble_eq_true rfl) (fun H2 f2 r2 => ?_)
      have c2 := c.fr f2
      have hn2 := c2.1
      have z0 := f2.2.2 0 (by simp; omega)
      refine a_aload_n (pc := 60) (i := 0) dX4_remember_60 rfl rfl ?_
      refine a_dup (pc := 61) dX4_remember_61 rfl ?_
      refine a_getI (pc := 62) (ci := 4) (k := 5) dX4_remember_62 (lf_RX4_31 rfl) (by decide) rfl rfl (lt90 hn2 (shK_lt (show shK 0 = _ from rfl))) ?_
      refine a_top (show (.int (hI H2 0 5) : Value) = .int (nI (tN u)) from congrArg Value.int ((congrFun z0.1 5).trans e5)) ?_
      refine a_iconst (pc := 65) (v := nI 1) dX4_remember_65 (by decide) ?_
      refine n_iadd (pc := 66) dX4_remember_66 ?_
      refine a_putI (pc := 67) (ci := 4) (k := 5) dX4_remember_67 (lf_RX4_31 rfl) (by decide) (Or.inl rfl) rfl (lt90 hn2 (shK_lt (show shK 0 = _ from rfl))) rfl ?_
      obtain ⟨HF, hHF⟩ : ∃ Hx, Hx = sI H2 0 5 (nI ((tN u) + 1)) := ⟨_, rfl⟩
      have fr : Fr [0, 34 + 4 * w (tN u), 34 + 4 * w (tN u) + 1, 34 + 4 * w (tN u) + 2, 34 + 4 * w (tN u) + 3] H HF := by rw [hHF]; exact (f2.mono (by intro a ha; simp at ha ⊢; omega)).sI (by simp)
      have rr : CR HF (34 + 4 * w (tN u)) (tC u) := by rw [hHF]; exact r2.sI (by omega)
      have r0 : ∀ j, j ≠ 5 → hI HF 0 j = hI H 0 j := fun j hj => by rw [hHF, rd1 (by omega)]; exact congrFun z0.1 j
      have r5 : hI HF 0 5 = nI (tN u + 1) := by rw [hHF]; exact rd2 ⟨rfl, rfl⟩
      refine a_heap (h' := HF) hHF.symm ?_
      exact a_return (pc := 70) dX4_remember_70 rfl (⟨rfl, hpu ▸ ⟨c.fr fr, ⟨g.1, g.2.1, g.2.2.1, by show tN u + 1 ≤ 8; omega, fun i => by show GS (if i = tN u then tC u else tP u i); split; exact g.1; exact g.2.2.2.2 i⟩, r.fr fr (fun a h1 h3 => by simp; omega), ⟨(r0 1 (by omega)).trans b0.1, fun j hj => by rw [(fr.2.2 1 (by simp; omega)).1]; exact b0.2 j hj⟩, (r0 2 (by omega)).trans e2, r5, w, ⟨fun i hi => by rw [fr.2.1]; exact w1.1 i hi, w1.2⟩, fun i hi => by
      have hi : i < tN u + 1 := hi
      show CR HF (34 + 4 * w i) (if i = tN u then tC u else tP u i)
      by_cases e : i = tN u
      · rw [if_pos e, e]; exact rr
      · rw [if_neg e]
        have hne : w i ≠ w (tN u) := fun z => e (w1.2 i (tN u) (by omega) (by omega) z)
        exact (w2 i (by omega)).fr fr (fun a h1 h3 => by simp; omega)⟩, hfw.trans (fr.w (by intro a ha; simp at ha; omega)), (r0 9 (by omega)).trans h90, hfv.trans (fun a h1 h3 => fr.2.2 a (by simp; omega))⟩)
  have hm := m
  have g8 := m.2.1.2.2.2.1
  obtain ⟨c, g, r, b0, e2, e5, w, w1, w2⟩ := m
  have hn := c.1
  refine a_aload_n (pc := 0) (i := 0) dX4_remember_0 rfl rfl ?_
  refine a_iconst (pc := 1) (v := nI 0) dX4_remember_1 (by decide) ?_
  refine a_putI (pc := 2) (ci := 4) (k := 9) dX4_remember_2 (lf_RX4_55 rfl) (by decide) (Or.inr ⟨rfl, (by decide)⟩) rfl (lt90 hn (shK_lt (show shK 0 = _ from rfl))) rfl ?_
  have k9 : IM0 (sI h 0 9 (nI 0)) t := hm.row rfl rfl (fun j hj => rd1 (by omega)) (fun a ha => ⟨up2_row (by omega), rfl⟩)
  have q9 : hI (sI h 0 9 (nI 0)) 0 9 = 0 := rd2 ⟨rfl, rfl⟩
  have fw9 : Fw h (sI h 0 9 (nI 0)) := ⟨rfl, fun a ha => ⟨up2_row (by omega), rfl, rfl⟩⟩
  have fv9 : Fvx h (sI h 0 9 (nI 0)) := fun a h1 h3 => ⟨up2_row (by omega), rfl⟩
  refine a_aload_n (pc := 5) (i := 0) dX4_remember_5 rfl rfl ?_
  refine a_getI (pc := 6) (ci := 4) (k := 5) dX4_remember_6 (lf_RX4_31 rfl) (by decide) rfl rfl (lt90 hn (shK_lt (show shK 0 = _ from rfl))) ?_
  refine a_top (show (.int (hI (sI h 0 9 (nI 0)) 0 5) : Value) = .int (nI (tN t)) from congrArg Value.int k9.2.2.2.2.2.1) ?_
  refine a_bipush (pc := 9) (v := nI 8) dX4_remember_9 (by decide) ?_
  refine n_icmp_lt (pc := 11) (tgt := 18) dX4_remember_11 (by decide) (by omega) (by omega) (fun c11 => ?_) (fun c11 => ?_)
  · skip
    exact TL t _ k9 (by omega) (if_neg (by omega)).symm fw9 q9 fv9
  · skip
    refine a_aload_n (pc := 14) (i := 0) dX4_remember_14 rfl rfl ?_
    refine a_uV (pc := 15) (as := []) (b := 0) (ci := 4) dX4_remember_15 (lc_RX4_262 rfl) ceX4_makeOldestFinal rfl (lt90 hn (shK_lt (show shK 0 = _ from rfl))) (sp_makeOldest (d := d) k9 (by omega)) rfl rfl (Nat.le_of_ble_eq_true rfl) (fun h2 y => y.2.1.1) (fun H2 q2 => ?_)
    obtain ⟨y1, y2, y3, y4⟩ := q2
    exact TL (tShift t) H2 y1 (Nat.le_refl _) (if_pos (by omega)).symm (fw9.trans y2) (y3.trans q9) (fv9.trans y4)
