/-! the whole object; bestCuts -/
/-- ends with an int x, and R x -/
def Qx (R : Int32 → AH → Prop) : Res → AH → Prop := fun r h2 => ∃ n : Int32, r = .inl (some (.int n)) ∧ R n h2
theorem Qx_nt {R : Int32 → AH → Prop} : ∀ E h2, ¬ Qx R (.inr E) h2 := fun _ _ q => by obtain ⟨b, e, -⟩ := q; cases e
theorem kx_of {X : XT} {mt : MT} {d kc ks pc : Nat} {ls : List (Nat × Value)} {st : List Value} {Q : Res → AH → Prop} {R : Int32 → AH → Prop} (kk : ∀ b h2, R b h2 → AW X mt d kc ks pc ls (.int b :: st) h2 Q) : ∀ v2 h2, Qx R (.inl v2) h2 → AW X mt d kc ks pc ls (v2.toList ++ st) h2 Q := by
  intro v2 h2 q
  obtain ⟨b, e1, e2⟩ := q
  cases e1
  exact kk b h2 e2
theorem hokx_of {R : Int32 → AH → Prop} {h : AH} {P : Prop} (hR : ∀ b h2, R b h2 → hN h2 = hN h) : (∀ v2 h2, Qx R (.inl v2) h2 → hN h2 = hN h) ∨ P := Or.inl fun v2 h2 q => by obtain ⟨b, -, q2⟩ := q; exact hR b h2 q2
section RW35
variable {X : XT} {mt : MT} {d kc ks pc : Nat} {ls ls' : List (Nat × Value)} {st : List Value} {h : AH} {Q : Res → AH → Prop}
theorem a_xV {mt' : MT} {idx n b ci : Nat} {as stk : List Value} {R : Int32 → AH → Prop} (hd : decode (mB mt) pc = .ok (.invokevirtual idx, 3)) (hl : Cond.methodLink (mN mt).cls idx (mN mt') ∈ lw_tb2 ∧ Cond.instanceMethod (mN mt') ∈ lw_tb2 ∧ Cond.selects (cR ci) (mN mt') (mN mt') ∈ lw_tb2) (hce : CE mt' n) (hs : shK b = some (.inl ci)) (hb : b < hN h) (hc' : AC mt' d 0 0 (.ref b :: as) h (Qx R)) (hn : as.length = n) (hstk : stk = as.reverse ++ .ref b :: st) (hst : (st.map fun v => v.category).sum ≤ 8) (hR : ∀ b h2, R b h2 → hN h2 = hN h) (kk : ∀ b h2, R b h2 → AW X mt (d + 1) kc ks (pc + 3) ls (.int b :: st) h2 Q) : AW X mt (d + 1) kc ks pc ls stk h Q :=
  a_callV (mc := 0) (ms := 0) hd hl hce hs hb hc' hn hstk hst Qx_nt (hokx_of hR) (kx_of kk)
theorem a_xVN {mt' : MT} {host : String} {idx n b ci : Nat} {as stk : List Value} {R : Int32 → AH → Prop} (hd : decode (mB mt) pc = .ok (.invokevirtual idx, 3)) (hl : Cond.methodLinkNest (mN mt).cls idx (mN mt') host ∈ tables_1 ∧ Cond.instanceMethod (mN mt') ∈ lw_tb2 ∧ Cond.selects (cR ci) (mN mt') (mN mt') ∈ lw_tb2) (hce : CE mt' n) (hs : shK b = some (.inl ci)) (hb : b < hN h) (hc' : AC mt' d 0 0 (.ref b :: as) h (Qx R)) (hn : as.length = n) (hstk : stk = as.reverse ++ .ref b :: st) (hst : (st.map fun v => v.category).sum ≤ 8) (hR : ∀ b h2, R b h2 → hN h2 = hN h) (kk : ∀ b h2, R b h2 → AW X mt (d + 1) kc ks (pc + 3) ls (.int b :: st) h2 Q) : AW X mt (d + 1) kc ks pc ls stk h Q :=
  a_callVN (mc := 0) (ms := 0) hd hl hce hs hb hc' hn hstk hst Qx_nt (hokx_of hR) (kx_of kk)
end RW35
/-- the plan that stands -/
def PLc (h : AH) (s : SH) : Prop := (∃ l, BP s noA l ∧ PH h s l) ∨ ((∀ l, ¬ plV s 0 noA l) ∧ hI h 16 8 = -1)
noncomputable def bestL (s : SH) : List (Nat × Nat) := @dite _ (∃ l, BP s noA l) (Classical.propDecidable _) (fun h => Classical.choose h) (fun _ => [])
theorem bestL_eq {s : SH} {l : List (Nat × Nat)} (h : BP s noA l) : bestL s = l := by
  have hx : ∃ l, BP s noA l := ⟨l, h⟩
  unfold bestL
  rw [dif_pos hx]
  exact BP_eq (Classical.choose_spec hx) h
noncomputable def bestN (s : SH) : Int32 := cif (∃ l, BP s noA l) (nI (bestL s).length) (-1)
noncomputable def bestR (s : SH) : Int32 := cif (8 < sLen s) (-2) (bestN s)
theorem PLc_n {h : AH} {s : SH} (p : PLc h s) : hI h 16 8 = bestN s := by
  rcases p with ⟨l, h1, h2⟩ | ⟨h1, h2⟩
  · rw [show bestN s = _ from cif_t ⟨l, h1⟩, bestL_eq h1]; exact h2.1
  · rw [show bestN s = _ from cif_f (fun ⟨l, c, _, y, _⟩ => h1 l (GP_plV y).1)]; exact h2
theorem PLc.row {h h2 : AH} {s : SH} (p : PLc h s) (e : ∀ a, 16 ≤ a → a ≤ 33 → hI h2 a = hI h a ∧ hL h2 a = hL h a) : PLc h2 s := by
  have e16 := e 16 (by omega) (by omega)
  have e32 := (e 32 (by omega) (by omega)).1
  have e33 := (e 33 (by omega) (by omega)).1
  unfold PLc PH at p ⊢
  rw [e16.1, e16.2, e32, e33]
  exact p
theorem PRf.row {h h2 : AH} {s : SH} {f : Nat → Nat} (p : PRf h s f) (e : ∀ a, 16 ≤ a → a ≤ 33 → hI h2 a = hI h a ∧ hL h2 a = hL h a) : PRf h2 s f := by
  obtain ⟨⟨r1, r9⟩, r2, r3, r4, r5, r6⟩ := p
  refine ⟨⟨by rw [(e 16 (by omega) (by omega)).1]; exact r1, r9⟩, fun q hq => ?_, fun k hk => ?_, fun k q hk hq => ?_, fun k hk => ?_, r6⟩
  · rw [(e 21 (by omega) (by omega)).2]; exact r2 q hq
  · rw [(e 20 (by omega) (by omega)).2]; exact r3 k hk
  · rw [(e (23 + k) (by omega) (by omega)).1]; exact r4 k q hk hq
  · rw [(e 31 (by omega) (by omega)).1]; exact r5 k hk
/-- the plan that stands, and the planner ready for more -/
def PLk (h : AH) (s : SH) : Prop := PLc h s ∧ ∃ f, PRf h s f ∧ f 0 < 800
theorem PLk.row {h h2 : AH} {s : SH} (p : PLk h s) (e : ∀ a, 16 ≤ a → a ≤ 33 → hI h2 a = hI h a ∧ hL h2 a = hL h a) : PLk h2 s := by
  obtain ⟨p1, f, p2, p3⟩ := p
  exact ⟨p1.row e, f, p2.row e, p3⟩
/-- the state of an object: the sheet; the bytes held; the latest offset; the sheets of before -/
abbrev ST : Type := SH × (Nat × (Nat → Int32)) × Int32 × (Nat × (Nat → SH))
def tC (t : ST) : SH := t.1
def tB (t : ST) : Nat := t.2.1.1
def tY (t : ST) : Nat → Int32 := t.2.1.2
def tE (t : ST) : Int32 := t.2.2.1
def tN (t : ST) : Nat := t.2.2.2.1
def tP (t : ST) : Nat → SH := t.2.2.2.2
def GT (t : ST) : Prop := GS (tC t) ∧ tB t ≤ 400 ∧ (∀ j, ∃ b : Int8, tY t j = b.toInt32) ∧ tN t ≤ 8 ∧ ∀ i, GS (tP t i)
def PPm (h : AH) (w : Nat → Nat) : Prop := (∀ i, i < 8 → w i < 8 ∧ hR h 6 i = some (34 + 4 * w i)) ∧ ∀ i j, i < 8 → j < 8 → w i = w j → i = j
def IM0 (h : AH) (t : ST) : Prop := CB h ∧ GT t ∧ CR h 2 (tC t) ∧ (hI h 0 1 = nI (tB t) ∧ ∀ j, j < tB t → hI h 1 j = tY t j) ∧ hI h 0 2 = tE t ∧ hI h 0 5 = nI (tN t) ∧ ∃ w, PPm h w ∧ ∀ i, i < tN t → CR h (34 + 4 * w i) (tP t i)
def IM (h : AH) (t : ST) : Prop := IM0 h t ∧ (hI h 0 9 = 0 ∨ (hI h 0 9 = 1 ∧ sLen (tC t) ≤ 8 ∧ PLk h (tC t)))
theorem IM0.row {h h2 : AH} {t : ST} (m : IM0 h t) (hn : hN h2 = hN h) (hr : hR h2 = hR h) (h0 : ∀ j, j ≠ 9 → hI h2 0 j = hI h 0 j) (e : ∀ a, (1 ≤ a ∧ a ≤ 5) ∨ (34 ≤ a ∧ a < 66) → hI h2 a = hI h a ∧ hL h2 a = hL h a) : IM0 h2 t := by
  obtain ⟨c, g, r, ⟨b1, b2⟩, e2, e5, w, w1, w2⟩ := m
  refine ⟨⟨by rw [hn]; exact c.1, by rw [hr]; exact c.2⟩, g, r.row (fun a h1 h3 => e a (by omega)), ⟨(h0 1 (by omega)).trans b1, fun j hj => by rw [(e 1 (by omega)).1]; exact b2 j hj⟩, (h0 2 (by omega)).trans e2, (h0 5 (by omega)).trans e5, w, ⟨fun i hi => by rw [hr]; exact w1.1 i hi, w1.2⟩, fun i hi => (w2 i hi).row (fun a h1 h3 => e a ?_)⟩
  have := (w1.1 i (by have := g.2.2.2.1; omega)).1
  omega
theorem ch_x {s : SH} {h : AH} {r : Res} {h3 : AH} (y : Fr [16, 17, 18, 19, 32, 33] h h3 ∧ hI h3 16 5 = hI h 16 5 ∧ PLo s noA h3 r) : Qx (fun _ h3 => Fr [16, 17, 18, 19, 32, 33] h h3 ∧ hI h3 16 5 = hI h 16 5 ∧ PLc h3 s) r h3 := by
  obtain ⟨y1, y2, y3⟩ := y
  rcases y3 with ⟨l, a1, a2, a3⟩ | ⟨a1, a2, a3, -⟩
  · exact ⟨_, a2, y1, y2, Or.inl ⟨l, a1, a3⟩⟩
  · exact ⟨_, a2, y1, y2, Or.inr ⟨a1, a3⟩⟩
set_option maxHeartbeats 1500000 in
set_option maxRecDepth 100000 in
theorem sp_bestCuts {d : Nat} {h : AH} {t : ST} (m : IM h t) : AC mX4_bestCuts (d + 90) 0 0 [.ref 0] h (Qf [0, 16, 17, 18, 19, 20, 21, 23, 24, 25, 26, 27, 28, 29, 30, 31, 32, 33] (some (.int (bestR (tC t)))) h (fun h2 => IM h2 t ∧ (sLen (tC t) ≤ 8 → PLk h2 (tC t)))) := by
  obtain ⟨m0, hk⟩ := m
  have c := m0.1
  have g := m0.2.1.1
  have r := m0.2.2.1
  obtain ⟨s, hs⟩ : ∃ s, s = tC t := ⟨_, rfl⟩
  rw [← hs] at hk g r ⊢
  have hn := c.1
  have gl := g.2.2.2.2.2.1
  refine AC.of (by decide) rfl (Nat.le_of_ble_eq_true rfl) (fun X => ?_)
  show AW X mX4_bestCuts (d + 90) 0 0 0 [(0, .ref 0)] [] h (Qf [0, 16, 17, 18, 19, 20, 21, 23, 24, 25, 26, 27, 28, 29, 30, 31, 32, 33] (some (.int (bestR (s)))) h (fun h2 => IM h2 t ∧ (sLen (s) ≤ 8 → PLk h2 (s))))
  refine a_aload_n (pc := 0) (i := 0) dX4_bestCuts_0 rfl rfl ?_
  refine a_getR (pc := 1) (ci := 4) (k := 3) (b := 2) dX4_bestCuts_1 (lf_RX4_23 rfl) (by decide) rfl rfl (lt90 hn (shK_lt (show shK 0 = _ from rfl))) c.2.1.2.1 ?_
  refine a_getI (pc := 4) (ci := 3) (k := 7) dX4_bestCuts_4 (lf_RX4_99 rfl) (by decide) rfl rfl (lt90 hn (shK_lt (show shK 2 = _ from rfl))) ?_
  refine a_top (show (.int (hI h 2 7) : Value) = .int (nI (sLen s)) from congrArg Value.int r.1.2.2.2.2.1) ?_
  refine a_bipush (pc := 7) (v := nI 8) dX4_bestCuts_7 (by decide) ?_
  refine n_icmp_le (pc := 9) (tgt := 15) dX4_bestCuts_9 (by decide) (by omega) (by omega) (fun c9 => ?_) (fun c9 => ?_)
  · have hbr : bestR s = bestN s := cif_f (by omega)
    rcases hk with hk | ⟨hk, hL8, hpl⟩
    · skip
      refine a_aload_n (pc := 15) (i := 0) dX4_bestCuts_15 rfl rfl ?_
      refine a_getI (pc := 16) (ci := 4) (k := 9) dX4_bestCuts_16 (lf_RX4_55 rfl) (by decide) rfl rfl (lt90 hn (shK_lt (show shK 0 = _ from rfl))) ?_
      refine a_top (show (.int (hI h 0 9) : Value) = .int (nI 0) from congrArg Value.int hk) ?_
      refine n_if_ne (pc := 19) (tgt := 47) dX4_bestCuts_19 (by decide) (by omega) (fun c19 => ?_) (fun c19 => ?_)
      · exact absurd c19 (by omega)
      · skip
        refine a_aload_n (pc := 22) (i := 0) dX4_bestCuts_22 rfl rfl ?_
        refine a_getR (pc := 23) (ci := 4) (k := 8) (b := 16) dX4_bestCuts_23 (lf_RX4_51 rfl) (by decide) rfl rfl (lt90 hn (shK_lt (show shK 0 = _ from rfl))) c.2.1.2.2.2.2.2 ?_
        refine a_aload_n (pc := 26) (i := 0) dX4_bestCuts_26 rfl rfl ?_
        refine a_getR (pc := 27) (ci := 4) (k := 3) (b := 2) dX4_bestCuts_27 (lf_RX4_23 rfl) (by decide) rfl rfl (lt90 hn (shK_lt (show shK 0 = _ from rfl))) c.2.1.2.1 ?_
        refine a_wVN0 (pc := 30) (as := [.ref 2]) (b := 16) (ci := 1) dX4_bestCuts_30 (lc_RX4_265 rfl) ceX1_prepare rfl (lt90 hn (shK_lt (show shK 16 = _ from rfl))) (sp_prepare c g r c9) rfl rfl (Nat.le_of_ble_eq_true rfl) (fun H1 f1 r1 => ?_)
        obtain ⟨f, hp, hf0⟩ := r1
        have c1 := c.fr f1
        have hn1 := c1.1
        refine a_aload_n (pc := 33) (i := 0) dX4_bestCuts_33 rfl rfl ?_
        refine a_getR (pc := 34) (ci := 4) (k := 8) (b := 16) dX4_bestCuts_34 (lf_RX4_51 rfl) (by decide) rfl rfl (lt90 hn1 (shK_lt (show shK 0 = _ from rfl))) c1.2.1.2.2.2.2.2 ?_
        refine a_lconst (pc := 37) (v := 0) dX4_bestCuts_37 (by decide) ?_
        refine a_top (show (.long 0 : Value) = .long (mkL noA) from congrArg Value.long mkL_0.symm) ?_
        refine a_xVN (pc := 38) (as := [.long (mkL noA)]) (b := 16) (ci := 1) dX4_bestCuts_38 (lc_RX4_200 rfl) ceX1_choose rfl (lt90 hn1 (shK_lt (show shK 16 = _ from rfl))) ((sp_choose (d := d + 10) c1 g hp hf0).post (fun q h3 y => ch_x y)) rfl rfl (Nat.le_of_ble_eq_true rfl) (fun b h3 y => y.1.1) (fun x2 H2 q2 => ?_)
        obtain ⟨f2, e5, hpl⟩ := q2
        have c2 := c1.fr f2
        have hn2 := c2.1
        refine a_pop (pc := 41) dX4_bestCuts_41 rfl ?_
        refine a_aload_n (pc := 42) (i := 0) dX4_bestCuts_42 rfl rfl ?_
        refine a_iconst (pc := 43) (v := nI 1) dX4_bestCuts_43 (by decide) ?_
        refine a_putI (pc := 44) (ci := 4) (k := 9) dX4_bestCuts_44 (lf_RX4_55 rfl) (by decide) (Or.inr ⟨rfl, (by decide)⟩) rfl (lt90 hn2 (shK_lt (show shK 0 = _ from rfl))) rfl ?_
        obtain ⟨HF, hHF⟩ : ∃ Hx, Hx = sI H2 0 9 (nI 1) := ⟨_, rfl⟩
        have fF : Fr [0, 16, 17, 18, 19, 20, 21, 23, 24, 25, 26, 27, 28, 29, 30, 31, 32, 33] h HF := by rw [hHF]; exact ((f1.mono (by intro a ha; simp at ha ⊢; omega)).trans (f2.mono (by intro a ha; simp at ha ⊢; omega))).sI (by simp)
        have hPL : PLk HF s := PLk.row ⟨hpl, f, hp.fr f2 e5 (fun a h1 h2 => by simp; omega), hf0⟩ (fun a h1 h3 => by rw [hHF]; exact ⟨up2_row (by omega), rfl⟩)
        have r0 : ∀ j, j ≠ 9 → hI HF 0 j = hI h 0 j := fun j hj => by rw [hHF, rd1 (by omega), (f2.2.2 0 (by simp)).1, (f1.2.2 0 (by simp)).1]
        have k9 : hI HF 0 9 = 1 := by rw [hHF]; exact rd2 ⟨rfl, rfl⟩
        have m9 : IM HF t := ⟨m0.row fF.1 fF.2.1 r0 (fun a ha => fF.2.2 a (by simp; omega)), Or.inr ⟨k9, by rw [← hs]; exact c9, by rw [← hs]; exact hPL⟩⟩
        refine a_heap (h' := HF) hHF.symm ?_
        have c3 := c.fr fF
        have hn3 := c3.1
        refine a_aload_n (pc := 47) (i := 0) dX4_bestCuts_47 rfl rfl ?_
        refine a_getR (pc := 48) (ci := 4) (k := 8) (b := 16) dX4_bestCuts_48 (lf_RX4_51 rfl) (by decide) rfl rfl (lt90 hn3 (shK_lt (show shK 0 = _ from rfl))) c3.2.1.2.2.2.2.2 ?_
        refine a_getI (pc := 51) (ci := 1) (k := 8) dX4_bestCuts_51 (lf_RX4_268 rfl) (by decide) rfl rfl (lt90 hn3 (shK_lt (show shK 16 = _ from rfl))) ?_
        refine a_top (show (.int (hI HF 16 8) : Value) = .int (bestN s) from congrArg Value.int (PLc_n hPL.1)) ?_
        exact a_ireturn (pc := 54) dX4_bestCuts_54 rfl rfl (⟨by rw [hbr], fF, m9, fun _ => hPL⟩)
    · skip
      refine a_aload_n (pc := 15) (i := 0) dX4_bestCuts_15 rfl rfl ?_
      refine a_getI (pc := 16) (ci := 4) (k := 9) dX4_bestCuts_16 (lf_RX4_55 rfl) (by decide) rfl rfl (lt90 hn (shK_lt (show shK 0 = _ from rfl))) ?_
      refine a_top (show (.int (hI h 0 9) : Value) = .int (nI 1) from congrArg Value.int hk) ?_
      refine n_if_ne (pc := 19) (tgt := 47) dX4_bestCuts_19 (by decide) (by omega) (fun c19 => ?_) (fun c19 => ?_)
      · skip
        refine a_aload_n (pc := 47) (i := 0) dX4_bestCuts_47 rfl rfl ?_
        refine a_getR (pc := 48) (ci := 4) (k := 8) (b := 16) dX4_bestCuts_48 (lf_RX4_51 rfl) (by decide) rfl rfl (lt90 hn (shK_lt (show shK 0 = _ from rfl))) c.2.1.2.2.2.2.2 ?_
        refine a_getI (pc := 51) (ci := 1) (k := 8) dX4_bestCuts_51 (lf_RX4_268 rfl) (by decide) rfl rfl (lt90 hn (shK_lt (show shK 16 = _ from rfl))) ?_
        refine a_top (show (.int (hI h 16 8) : Value) = .int (bestN s) from congrArg Value.int (PLc_n hpl.1)) ?_
        exact a_ireturn (pc := 54) dX4_bestCuts_54 rfl rfl (⟨by rw [hbr], Fr.refl, ⟨m0, Or.inr ⟨hk, by rw [← hs]; exact hL8, by rw [← hs]; exact hpl⟩⟩, fun _ => hpl⟩)
      · exact absurd c19 (by decide)
  · skip
    refine a_bipush (pc := 12) (v := (-2)) dX4_bestCuts_12 (by decide) ?_
    exact a_ireturn (pc := 14) dX4_bestCuts_14 rfl rfl (⟨by rw [show bestR s = -2 from cif_t c9], Fr.refl, ⟨m0, by rw [← hs]; exact hk⟩, fun z => absurd z (by omega)⟩)
