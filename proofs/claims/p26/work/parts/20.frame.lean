/-! frames; contracts whose heap is told by what it holds; calls of them -/
/-- the heaps agree outside the cells S -/
def Fr (S : List Nat) (h h2 : AH) : Prop := hN h2 = hN h ∧ hR h2 = hR h ∧ ∀ a, a ∉ S → hI h2 a = hI h a ∧ hL h2 a = hL h a
theorem Fr.refl {S : List Nat} {h : AH} : Fr S h h := ⟨rfl, rfl, fun _ _ => ⟨rfl, rfl⟩⟩
theorem Fr.trans {S : List Nat} {h h2 h3 : AH} (f : Fr S h h2) (f2 : Fr S h2 h3) : Fr S h h3 := ⟨f2.1.trans f.1, f2.2.1.trans f.2.1, fun a ha => ⟨(f2.2.2 a ha).1.trans (f.2.2 a ha).1, (f2.2.2 a ha).2.trans (f.2.2 a ha).2⟩⟩
theorem Fr.mono {S S2 : List Nat} {h h2 : AH} (f : Fr S h h2) (hs : ∀ a, a ∈ S → a ∈ S2) : Fr S2 h h2 := ⟨f.1, f.2.1, fun a ha => f.2.2 a (fun z => ha (hs a z))⟩
theorem Fr.sI {S : List Nat} {h h2 : AH} (f : Fr S h h2) {a j : Nat} {x : Int32} (ha : a ∈ S) : Fr S h (sI h2 a j x) := ⟨f.1, f.2.1, fun b hb => ⟨by
  show up2 (hI h2) a j x b = _
  rw [up2_row (fun z => hb (by rw [z]; exact ha))]; exact (f.2.2 b hb).1, (f.2.2 b hb).2⟩⟩
theorem Fr.sL {S : List Nat} {h h2 : AH} (f : Fr S h h2) {a j : Nat} {x : Int64} (ha : a ∈ S) : Fr S h (sL h2 a j x) := ⟨f.1, f.2.1, fun b hb => ⟨(f.2.2 b hb).1, by
  show up2 (hL h2) a j x b = _
  rw [up2_row (fun z => hb (by rw [z]; exact ha))]; exact (f.2.2 b hb).2⟩⟩
theorem Fr.rI {S : List Nat} {h h2 : AH} (f : Fr S h h2) {a : Nat} {g : Nat → Int32} (ha : a ∈ S) : Fr S h (rI h2 a g) := ⟨f.1, f.2.1, fun b hb => ⟨by
  show upr (hI h2) a g b = _
  rw [upr_row (fun z => hb (by rw [z]; exact ha))]; exact (f.2.2 b hb).1, (f.2.2 b hb).2⟩⟩
theorem CB.fr {S : List Nat} {h h2 : AH} (c : CB h) (f : Fr S h h2) : CB h2 := ⟨by rw [f.1]; exact c.1, by rw [f.2.1]; exact c.2⟩
theorem CR.row {h h2 : AH} {k : Nat} {s : SH} (r : CR h k s) (e : ∀ a, k ≤ a → a ≤ k + 3 → hI h2 a = hI h a ∧ hL h2 a = hL h a) : CR h2 k s := by
  have e0 := e k (Nat.le_refl _) (by omega)
  have e1 := (e (k + 1) (by omega) (by omega)).1
  have e2 := (e (k + 2) (by omega) (by omega)).1
  have e3 := (e (k + 3) (by omega) (by omega)).1
  unfold CR at r ⊢
  rw [e0.1, e0.2, e1, e2, e3]
  exact r
theorem CR.fr {S : List Nat} {h h2 : AH} {k : Nat} {s : SH} (r : CR h k s) (f : Fr S h h2) (hs : ∀ a, k ≤ a → a ≤ k + 3 → a ∉ S) : CR h2 k s := r.row fun a h1 h3 => f.2.2 a (hs a h1 h3)
theorem CR.sI {h : AH} {k a j : Nat} {x : Int32} {s : SH} (r : CR h k s) (ha : a < k ∨ k + 3 < a) : CR (sI h a j x) k s := r.row fun b h1 h3 => ⟨up2_row (by omega), rfl⟩
theorem CR.sL {h : AH} {k a j : Nat} {x : Int64} {s : SH} (r : CR h k s) (ha : a < k ∨ k + 3 < a) : CR (sL h a j x) k s := r.row fun b h1 h3 => ⟨rfl, up2_row (by omega)⟩
theorem CR.rI {h : AH} {k a : Nat} {g : Nat → Int32} {s : SH} (r : CR h k s) (ha : a < k ∨ k + 3 < a) : CR (rI h a g) k s := r.row fun b h1 h3 => ⟨upr_row (by omega), rfl⟩
/-- ends with v; only the cells S differ; and R -/
def Qf (S : List Nat) (v : Option Value) (h : AH) (R : AH → Prop) : Res → AH → Prop := fun r h2 => r = .inl v ∧ Fr S h h2 ∧ R h2
theorem Qf_nt {S : List Nat} {v : Option Value} {h : AH} {R : AH → Prop} : ∀ E h2, ¬ Qf S v h R (.inr E) h2 := fun _ _ q => by cases q.1
theorem kf_of {X : XT} {mt : MT} {d kc ks pc : Nat} {ls : List (Nat × Value)} {st : List Value} {Q : Res → AH → Prop} {S : List Nat} {v : Option Value} {h : AH} {R : AH → Prop} (kk : ∀ h2, Fr S h h2 → R h2 → AW X mt d kc ks pc ls (v.toList ++ st) h2 Q) : ∀ v2 h2, Qf S v h R (.inl v2) h2 → AW X mt d kc ks pc ls (v2.toList ++ st) h2 Q := by
  intro v2 h2 q
  obtain ⟨e1, e2, e3⟩ := q
  cases e1
  exact kk h2 e2 e3
theorem hokf_of {S : List Nat} {v : Option Value} {h : AH} {R : AH → Prop} {P : Prop} : (∀ v2 h2, Qf S v h R (.inl v2) h2 → hN h2 = hN h) ∨ P := Or.inl fun v2 h2 q => q.2.1.1
theorem Qe_f {S : List Nat} {v : Option Value} {h h1 h2 : AH} {R : AH → Prop} {r : Res} (q : Qe v h1 r h2) (f : Fr S h h1) (hr : R h1) : Qf S v h R r h2 := by
  obtain ⟨e1, e2⟩ := q
  subst e2
  exact ⟨e1, f, hr⟩
section RW20
variable {X : XT} {mt : MT} {d kc ks pc : Nat} {ls ls' : List (Nat × Value)} {st : List Value} {h : AH} {Q : Res → AH → Prop}
theorem a_wS1 {mt' : MT} {idx n : Nat} {as stk : List Value} {v : Value} {S : List Nat} {R : AH → Prop} (hd : decode (mB mt) pc = .ok (.invokestatic idx, 3)) (hl : Cond.methodLink (mN mt).cls idx (mN mt') ∈ lw_tb2 ∧ Cond.static (mN mt') ∈ lw_tb2) (hce : CE mt' n) (hc' : AC mt' d 0 0 as h (Qf S (some v) h R)) (hn : as.length = n) (hstk : stk = as.reverse ++ st) (hst : (st.map fun v => v.category).sum ≤ 8) (kk : ∀ h2, Fr S h h2 → R h2 → AW X mt (d + 1) kc ks (pc + 3) ls (v :: st) h2 Q) : AW X mt (d + 1) kc ks pc ls stk h Q :=
  a_callS (mc := 0) (ms := 0) hd hl hce hc' hn hstk hst Qf_nt hokf_of (kf_of kk)
theorem a_wS0 {mt' : MT} {idx n : Nat} {as stk : List Value} {S : List Nat} {R : AH → Prop} (hd : decode (mB mt) pc = .ok (.invokestatic idx, 3)) (hl : Cond.methodLink (mN mt).cls idx (mN mt') ∈ lw_tb2 ∧ Cond.static (mN mt') ∈ lw_tb2) (hce : CE mt' n) (hc' : AC mt' d 0 0 as h (Qf S none h R)) (hn : as.length = n) (hstk : stk = as.reverse ++ st) (hst : (st.map fun v => v.category).sum ≤ 8) (kk : ∀ h2, Fr S h h2 → R h2 → AW X mt (d + 1) kc ks (pc + 3) ls st h2 Q) : AW X mt (d + 1) kc ks pc ls stk h Q :=
  a_callS (mc := 0) (ms := 0) hd hl hce hc' hn hstk hst Qf_nt hokf_of (kf_of kk)
theorem a_wSN1 {mt' : MT} {host : String} {idx n : Nat} {as stk : List Value} {v : Value} {S : List Nat} {R : AH → Prop} (hd : decode (mB mt) pc = .ok (.invokestatic idx, 3)) (hl : Cond.methodLinkNest (mN mt).cls idx (mN mt') host ∈ tables_1 ∧ Cond.static (mN mt') ∈ lw_tb2) (hce : CE mt' n) (hc' : AC mt' d 0 0 as h (Qf S (some v) h R)) (hn : as.length = n) (hstk : stk = as.reverse ++ st) (hst : (st.map fun v => v.category).sum ≤ 8) (kk : ∀ h2, Fr S h h2 → R h2 → AW X mt (d + 1) kc ks (pc + 3) ls (v :: st) h2 Q) : AW X mt (d + 1) kc ks pc ls stk h Q :=
  a_callSN (mc := 0) (ms := 0) hd hl hce hc' hn hstk hst Qf_nt hokf_of (kf_of kk)
theorem a_wV1 {mt' : MT} {idx n b ci : Nat} {as stk : List Value} {v : Value} {S : List Nat} {R : AH → Prop} (hd : decode (mB mt) pc = .ok (.invokevirtual idx, 3)) (hl : Cond.methodLink (mN mt).cls idx (mN mt') ∈ lw_tb2 ∧ Cond.instanceMethod (mN mt') ∈ lw_tb2 ∧ Cond.selects (cR ci) (mN mt') (mN mt') ∈ lw_tb2) (hce : CE mt' n) (hs : shK b = some (.inl ci)) (hb : b < hN h) (hc' : AC mt' d 0 0 (.ref b :: as) h (Qf S (some v) h R)) (hn : as.length = n) (hstk : stk = as.reverse ++ .ref b :: st) (hst : (st.map fun v => v.category).sum ≤ 8) (kk : ∀ h2, Fr S h h2 → R h2 → AW X mt (d + 1) kc ks (pc + 3) ls (v :: st) h2 Q) : AW X mt (d + 1) kc ks pc ls stk h Q :=
  a_callV (mc := 0) (ms := 0) hd hl hce hs hb hc' hn hstk hst Qf_nt hokf_of (kf_of kk)
theorem a_wV0 {mt' : MT} {idx n b ci : Nat} {as stk : List Value} {S : List Nat} {R : AH → Prop} (hd : decode (mB mt) pc = .ok (.invokevirtual idx, 3)) (hl : Cond.methodLink (mN mt).cls idx (mN mt') ∈ lw_tb2 ∧ Cond.instanceMethod (mN mt') ∈ lw_tb2 ∧ Cond.selects (cR ci) (mN mt') (mN mt') ∈ lw_tb2) (hce : CE mt' n) (hs : shK b = some (.inl ci)) (hb : b < hN h) (hc' : AC mt' d 0 0 (.ref b :: as) h (Qf S none h R)) (hn : as.length = n) (hstk : stk = as.reverse ++ .ref b :: st) (hst : (st.map fun v => v.category).sum ≤ 8) (kk : ∀ h2, Fr S h h2 → R h2 → AW X mt (d + 1) kc ks (pc + 3) ls st h2 Q) : AW X mt (d + 1) kc ks pc ls stk h Q :=
  a_callV (mc := 0) (ms := 0) hd hl hce hs hb hc' hn hstk hst Qf_nt hokf_of (kf_of kk)
theorem a_wVN1 {mt' : MT} {host : String} {idx n b ci : Nat} {as stk : List Value} {v : Value} {S : List Nat} {R : AH → Prop} (hd : decode (mB mt) pc = .ok (.invokevirtual idx, 3)) (hl : Cond.methodLinkNest (mN mt).cls idx (mN mt') host ∈ tables_1 ∧ Cond.instanceMethod (mN mt') ∈ lw_tb2 ∧ Cond.selects (cR ci) (mN mt') (mN mt') ∈ lw_tb2) (hce : CE mt' n) (hs : shK b = some (.inl ci)) (hb : b < hN h) (hc' : AC mt' d 0 0 (.ref b :: as) h (Qf S (some v) h R)) (hn : as.length = n) (hstk : stk = as.reverse ++ .ref b :: st) (hst : (st.map fun v => v.category).sum ≤ 8) (kk : ∀ h2, Fr S h h2 → R h2 → AW X mt (d + 1) kc ks (pc + 3) ls (v :: st) h2 Q) : AW X mt (d + 1) kc ks pc ls stk h Q :=
  a_callVN (mc := 0) (ms := 0) hd hl hce hs hb hc' hn hstk hst Qf_nt hokf_of (kf_of kk)
theorem a_wVN0 {mt' : MT} {host : String} {idx n b ci : Nat} {as stk : List Value} {S : List Nat} {R : AH → Prop} (hd : decode (mB mt) pc = .ok (.invokevirtual idx, 3)) (hl : Cond.methodLinkNest (mN mt).cls idx (mN mt') host ∈ tables_1 ∧ Cond.instanceMethod (mN mt') ∈ lw_tb2 ∧ Cond.selects (cR ci) (mN mt') (mN mt') ∈ lw_tb2) (hce : CE mt' n) (hs : shK b = some (.inl ci)) (hb : b < hN h) (hc' : AC mt' d 0 0 (.ref b :: as) h (Qf S none h R)) (hn : as.length = n) (hstk : stk = as.reverse ++ .ref b :: st) (hst : (st.map fun v => v.category).sum ≤ 8) (kk : ∀ h2, Fr S h h2 → R h2 → AW X mt (d + 1) kc ks (pc + 3) ls st h2 Q) : AW X mt (d + 1) kc ks pc ls stk h Q :=
  a_callVN (mc := 0) (ms := 0) hd hl hce hs hb hc' hn hstk hst Qf_nt hokf_of (kf_of kk)
end RW20
theorem la_RX2_38 {mt : MT} (h : (mN mt).cls = RX2) : Cond.methodLink (mN mt).cls 38 arraycopyName ∈ lw_tb2 := by rw [h]; exact tbi 539 (by decide +kernel)
theorem la_RX3_54 {mt : MT} (h : (mN mt).cls = RX3) : Cond.methodLink (mN mt).cls 54 arraycopyName ∈ lw_tb2 := by rw [h]; exact tbi 244 (by decide +kernel)
theorem la_RJ0_212 {mt : MT} (h : (mN mt).cls = RJ0) : Cond.methodLink (mN mt).cls 212 arraycopyName ∈ lw_tb2 := by rw [h]; exact tbi 1070 (by decide +kernel)
theorem la_RJ7_150 {mt : MT} (h : (mN mt).cls = RJ7) : Cond.methodLink (mN mt).cls 150 arraycopyName ∈ lw_tb2 := by rw [h]; exact tbi 1016 (by decide +kernel)
