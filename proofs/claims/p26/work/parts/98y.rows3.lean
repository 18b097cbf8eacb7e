/-! rows: calls that make cells, the making of a Sheet by the law, cells forgotten; what randomSheet keeps -/
section RW98y
variable {X : XT} {mt : MT} {d kc ks kc' ks' pc : Nat} {ls ls' : List (Nat × Value)} {st : List Value} {h : AH} {Q : Res → AH → Prop}
theorem e_SW {mt' : MT} {idx n mc ms : Nat} {as stk : List Value} {R : Res → AH → Prop} (hd : decode (mB mt) pc = .ok (.invokestatic idx, 3)) (hl : Cond.methodLink (mN mt).cls idx (mN mt') ∈ lw_tb2 ∧ Cond.static (mN mt') ∈ lw_tb2) (hce : CE mt' n) (hc' : AC mt' d mc ms as h R) (hn : as.length = n) (hstk : stk = as.reverse ++ st) (hst : (st.map fun v => v.category).sum ≤ 8) (hnt : ∀ E h2, ¬ R (.inr E) h2) (e1 : kc' = kc + mc) (e2 : ks' = ks + ms) (hok : (∀ v h2, R (.inl v) h2 → hN h2 = hN h) ∨ ((∀ q ∈ ls, okd (hN h) q.2) ∧ ∀ v ∈ st, okd (hN h) v)) (kk : ∀ v h2, R (.inl v) h2 → AW X mt (d + 1) kc ks (pc + 3) ls (v.toList ++ st) h2 Q) : AW X mt (d + 1) kc' ks' pc ls stk h Q := by
  subst e1 e2
  exact a_callS hd hl hce hc' hn hstk hst hnt hok kk
theorem e_IUN {mt' : MT} {host : String} {idx n mc ms b : Nat} {as stk : List Value} {R : AH → Prop} (hd : decode (mB mt) pc = .ok (.invokespecial idx, 3)) (hl : Cond.methodLinkNest (mN mt).cls idx (mN mt') host ∈ tables_1 ∧ Cond.instanceMethod (mN mt') ∈ lw_tb2) (hnm : (mN mt').name = "<init>") (hret : mR mt' = none) (hce : CE mt' n) (hc' : AC mt' d mc ms (.ref b :: as) h (Qu R)) (hn : as.length = n) (hstk : stk = as.reverse ++ .ref b :: st) (hst : (st.map fun v => v.category).sum ≤ 8) (e1 : kc' = kc + mc) (e2 : ks' = ks + ms) (hok : (∀ q ∈ ls, okd (hN h) q.2) ∧ ∀ v ∈ st, okd (hN h) v) (kk : ∀ h2, R h2 → AW X mt (d + 1) kc ks (pc + 3) ls st h2 Q) : AW X mt (d + 1) kc' ks' pc ls stk h Q := by
  subst e1 e2
  exact a_callIN hd hl hnm hret hce hc' hn hstk hst Qu_nt (Or.inr hok) (ku_of kk)
/-- the empty heap -/
def h00 : AH := (0, fun _ _ => 0, fun _ _ => 0, fun _ _ => none)
/-- where the end forgets the cells, the way may forget them too -/
theorem a_forget (hX : xF X = true) (kk : AW X mt d kc ks pc ls st h00 Q) : AW X mt d kc ks pc ls st h Q := by
  intro p l e R s m args below meth c A G cls Z H locs cells slots ad lsA C F D hc hs2 hA
  have nf : ¬ xF X = false := by rw [hX]; decide
  refine kk p l e R s m args below meth c A G cls Z H locs cells slots ad lsA C ⟨fun v h' hq ad' H' locs' cells' slots' lsA' pc' ins _ _ => F.1 v h' hq ad' H' locs' cells' slots' lsA' pc' ins (fun z => absurd z nf) (fun z => absurd z nf), fun E h' hq ad' H' locs' cells' slots' lsA' pc' st' _ _ => F.2 E h' hq ad' H' locs' cells' slots' lsA' pc' st' (fun z => absurd z nf) (fun z => absurd z nf)⟩ ?_ hc hs2 hA
  have e : wld cls ad h00 = [] := by
    unfold wld
    rw [hC_low (show hN h00 ≤ 68 from Nat.zero_le _)]
    rfl
  refine ⟨?_, ?_, D.2.2.1, ⟨?_, fun a j k ha _ => ?_⟩, D.2.2.2.2⟩
  · rw [e]; exact fun k q hq => (by cases hq)
  · rw [e]; exact ⟨fun i j p q hp => (by cases hp), fun k q hq => (by cases hq)⟩
  · rw [dyn_low (show hN h00 ≤ 68 from Nat.zero_le _)]; exact fun i a hi => (by cases hi)
  · exact absurd ((prN_low (show hN h00 ≤ 68 from Nat.zero_le _)).mp ha) (Nat.not_lt_zero _)
end RW98y
theorem TXb.dq {S : Nat → Prop} {c : Nat} {h h2 : AH} {t0 : ST} {T : List Nat} (x : TXb h t0 T) (d : Dq S c h h2) (hs : ∀ a, S a → 67 ≤ a) : TXb h2 t0 T := by
  obtain ⟨⟨t, m, ta⟩, x0, xw⟩ := x
  have e := d.2.2 66 (prN_st (Nat.lt_of_lt_of_le (by decide) m.1.1.1) (by decide)) (fun z => by have := hs 66 z; omega)
  exact ⟨⟨t, m.dq d (fun a z => by have := hs a z; omega), ta⟩, by rw [e.1]; exact x0, fun w hw => by rw [e.1]; exact xw w hw⟩
/-- what randomSheet keeps: the Sheet in making, the text written, and that else only cells below 68 changed -/
def RI (h0 h : AH) (t0 : ST) (k W E v m1 m2 : Nat) (Ln : Nat → List Nat) (f : Nat → Nat) (T : List Nat) : Prop := SHP h k W E v m1 m2 Ln f ∧ TXb h t0 T ∧ ∃ c, Dq S68 c h0 h
theorem RI.n68 {h0 h : AH} {t0 : ST} {k W E v m1 m2 : Nat} {Ln : Nat → List Nat} {f : Nat → Nat} {T : List Nat} (r : RI h0 h t0 k W E v m1 m2 Ln f T) : 68 ≤ hN h := prN_68 r.1.1.1
theorem RI.dq {S : Nat → Prop} {c : Nat} {h0 h h2 : AH} {t0 : ST} {k W E v m1 m2 : Nat} {Ln : Nat → List Nat} {f : Nat → Nat} {T : List Nat} (r : RI h0 h t0 k W E v m1 m2 Ln f T) (d : Dq S c h h2) (hs : ∀ a, S a → a = 67) : RI h0 h2 t0 k W E v m1 m2 Ln f T := by
  obtain ⟨r1, r2, c0, r3⟩ := r
  have h68 : ∀ a, S a → S68 a := fun a z => by show a < 68; rw [hs a z]; decide
  exact ⟨r1.dq d h68, r2.dq d (fun a z => by rw [hs a z]; decide), _, r3.trans (d.mono h68)⟩
theorem RI.bel {h0 h : AH} {t0 : ST} {k W E v m1 m2 : Nat} {Ln : Nat → List Nat} {f : Nat → Nat} {T : List Nat} {x : Int32} (r : RI h0 h t0 k W E v m1 m2 Ln f T) : RI h0 (sI h 67 0 x) t0 k W E v m1 m2 Ln f T := r.dq ((Dq.refl r.n68 : Dq S1 0 h h).sI (b := 67) (j := 0) (x := x) (Or.inl rfl)) (fun a z => z)
theorem RI.w {h0 h h2 : AH} {t0 : ST} {k W E v m1 m2 : Nat} {Ln : Nat → List Nat} {f : Nat → Nat} {T T2 : List Nat} (r : RI h0 h t0 k W E v m1 m2 Ln f T) (y : QTx t0 T2 h h2) : RI h0 h2 t0 k W E v m1 m2 Ln f T2 := by
  obtain ⟨r1, r2, c0, r3⟩ := r
  have y2 := y.2.1.mono (S2 := S68) (fun a z => S67_68 z)
  exact ⟨r1.dq y2 (fun a z => z), y.1, _, r3.trans y2⟩
/-- a change of a cell of its own -/
theorem RI.own {h0 h h2 : AH} {t0 : ST} {k k1 q1 W E v m1 m2 v2 n1 n2 : Nat} {Ln Ln2 : Nat → List Nat} {f f2 : Nat → Nat} {T : List Nat} (r : RI h0 h t0 k W E v m1 m2 Ln f T) (s : SHP h2 k W E v2 n1 n2 Ln2 f2) (d : Dq (fun a => a = nm k1 q1) 0 h h2) (hnew : ¬ prN (hN h0) (nm k1 q1)) : RI h0 h2 t0 k W E v2 n1 n2 Ln2 f2 T := by
  obtain ⟨r1, r2, c0, r3⟩ := r
  refine ⟨s, r2.dq d (fun a z => by rw [show a = nm k1 q1 from z]; have := nm_hi (k := k1) (q := q1); omega), c0 + 0, ⟨d.1.1, by rw [d.1.2, r3.1.2]; omega⟩, fun a ha => d.2.1 a (r3.2.1 a ha), fun a ha hs => ?_⟩
  obtain ⟨x1, x2, x3⟩ := r3.2.2 a ha hs
  obtain ⟨y1, y2, y3⟩ := d.2.2 a (r3.2.1 a ha) (fun z => hnew (by rw [← show a = nm k1 q1 from z]; exact ha))
  exact ⟨y1.trans x1, y2.trans x2, y3.trans x3⟩
def QRs (t0 : ST) (k : Nat) (h0 : AH) : Res → AH → Prop := fun r h2 => r = .inl (some (.ref (aN k))) ∧ ∃ t2, IM h2 t2 ∧ tB t2 = 0 ∧ BZ h2 ∧ LW h2 k 6 (tC t2) ∧ ∃ c, Dq S68 c h0 h2

set_option maxHeartbeats 1500000 in
set_option maxRecDepth 100000 in
theorem x_all0 {d k W E : Nat} {h : AH} (pa : prN (hN h) (aN k)) (f0 : hI h (aN k) 0 = nI W) (f1 : hI h (aN k) 1 = nI E) : AC mX6_all d 0 0 [.ref (aN k)] h (Qe (some (.int (nI (W * E)))) h) := by
  refine AC.of (by decide) rfl (Nat.le_of_ble_eq_true rfl) (fun X => ?_)
  show AW X mX6_all d 0 0 0 [(0, .ref (aN k))] [] h (Qe (some (.int (nI (W * E)))) h)
  refine a_aload_n (pc := 0) (i := 0) dX6_all_0 rfl rfl ?_
  refine g_getI (pc := 1) (ci := 6) (k := 0) dX6_all_1 (lf_RX6_7 rfl) (by decide) rfl kd_a pa ?_
  refine a_top (show (.int (hI h (aN k) 0) : Value) = .int (nI W) from congrArg Value.int f0) ?_
  refine a_aload_n (pc := 4) (i := 0) dX6_all_4 rfl rfl ?_
  refine g_getI (pc := 5) (ci := 6) (k := 1) dX6_all_5 (lf_RX6_13 rfl) (by decide) rfl kd_a pa ?_
  refine a_top (show (.int (hI h (aN k) 1) : Value) = .int (nI E) from congrArg Value.int f1) ?_
  refine n_imul (pc := 8) dX6_all_8 ?_
  refine a_top (show (.int (nI (W * E)) : Value) = .int (nI (W * E)) from rfl) ?_
  exact a_ireturn (pc := 9) dX6_all_9 rfl rfl (⟨rfl, rfl⟩)
