/-! the law's Sheet: tries -/
def TKs (s : SH) (pre : List (Nat × Nat)) : Nat → Prop := fun c => c < sCells s ∧ plC s pre (pq s 0 c)
def ownP (s : SH) (sd p n : Nat) : Nat → Prop := fun c => ∃ j, j < n ∧ c = clN s sd (p + j)
theorem own_step {s : SH} {sd p i : Nat} : mkL (ownP s sd p i) ||| mkL (fun c => c = clN s sd (p + i)) = mkL (ownP s sd p (i + 1)) := by
  rw [mkL_or]
  refine mkL_c fun c _ => ⟨?_, ?_⟩
  · rintro (⟨j, h1, h2⟩ | h2)
    · exact ⟨j, by omega, h2⟩
    · exact ⟨i, by omega, h2⟩
  · rintro ⟨j, h1, h2⟩
    rcases (by omega : j < i ∨ j = i) with z | z
    · exact Or.inl ⟨j, z, h2⟩
    · exact Or.inr (z ▸ h2)
theorem own_0 {s : SH} {sd p : Nat} : mkL (ownP s sd p 0) = 0 := mkL_eq0.mpr fun i _ ⟨j, h1, _⟩ => absurd h1 (Nat.not_lt_zero j)
theorem own_pcl {s : SH} (g : GS s) {sd p n : Nat} (hsd : sd < 2) (hp : p < sCells s) (hn : p % sW s + n ≤ sW s) {c : Nat} (hc : c < sCells s) : ownP s sd p n c ↔ pcl s (pq s sd p) n (pq s 0 c) := by
  constructor
  · rintro ⟨i, hi, rfl⟩
    obtain ⟨u1, u2⟩ := row_in (j := i) g hp (by omega)
    exact ⟨i, hi, by rw [← u2 sd, qcell_pq g hsd u1]⟩
  · rintro ⟨i, hi, e⟩
    obtain ⟨u1, u2⟩ := row_in (j := i) g hp (by omega)
    rw [← u2 sd, qcell_pq g hsd u1] at e
    exact ⟨i, hi, (pq_inj g (by omega) (by omega) hc (clN_ok (sd := sd) g u1).1 e).2⟩
theorem own_in {s : SH} (g : GS s) {sd p n c : Nat} (hp : p < sCells s) (hn : p % sW s + n ≤ sW s) (h : ownP s sd p n c) : c < sCells s := by
  obtain ⟨i, hi, rfl⟩ := h
  exact (clN_ok (sd := sd) g (row_in (j := i) g hp (by omega)).1).1
theorem pcl_in {s : SH} (g : GS s) {sd p n b : Nat} (hsd : sd < 2) (hp : p < sCells s) (hn : p % sW s + n ≤ sW s) (h : pcl s (pq s sd p) n b) : ∃ c, c < sCells s ∧ b = pq s 0 c := by
  obtain ⟨i, hi, rfl⟩ := h
  obtain ⟨u1, u2⟩ := row_in (j := i) g hp (by omega)
  exact ⟨clN s sd (p + i), (clN_ok (sd := sd) g u1).1, by rw [← u2 sd, qcell_pq g hsd u1]⟩
theorem own_dis {s : SH} (b : BS s) {sd p n : Nat} {pre : List (Nat × Nat)} (hsd : sd < 2) (hp : p < sCells s) (hn : p % sW s + n ≤ sW s) : (∀ c, c < 64 → ¬ (TKs s pre c ∧ ownP s sd p n c)) ↔ ∀ x, pcl s (pq s sd p) n x → ¬ plC s pre x := by
  have g := b.1
  have c12 := cells12 b
  constructor
  · intro h x hx hp2
    obtain ⟨c, hc, rfl⟩ := pcl_in g hsd hp hn hx
    exact h c (by omega) ⟨⟨hc, hp2⟩, (own_pcl g hsd hp hn hc).mpr hx⟩
  · rintro h c _ ⟨⟨hc, z1⟩, z2⟩
    exact h _ ((own_pcl g hsd hp hn hc).mp z2) z1
theorem tk_add {s : SH} (g : GS s) {sd p n : Nat} {pre : List (Nat × Nat)} (hsd : sd < 2) (hp : p < sCells s) (hn : p % sW s + n ≤ sW s) : mkL (TKs s pre) ||| mkL (ownP s sd p n) = mkL (TKs s (pre ++ [(n, pq s sd p)])) := by
  rw [mkL_or]
  refine mkL_c fun c _ => ?_
  unfold TKs
  rw [plC_app]
  constructor
  · rintro (⟨h1, h2⟩ | h)
    · exact ⟨h1, Or.inl h2⟩
    · have hc := own_in g hp hn h
      exact ⟨hc, Or.inr ((own_pcl g hsd hp hn hc).mp h)⟩
  · rintro ⟨h1, h2 | h2⟩
    · exact Or.inl ⟨h1, h2⟩
    · exact Or.inr ((own_pcl g hsd hp hn h1).mpr h2)
theorem tk_del {s : SH} (b : BS s) {sd p n : Nat} {pre : List (Nat × Nat)} (hsd : sd < 2) (hp : p < sCells s) (hn : p % sW s + n ≤ sW s) (hd : ∀ x, pcl s (pq s sd p) n x → ¬ plC s pre x) : mkL (TKs s (pre ++ [(n, pq s sd p)])) &&& (mkL (ownP s sd p n) ^^^ (-1)) = mkL (TKs s pre) := by
  have g := b.1
  rw [mkL_not, mkL_and]
  refine mkL_c fun c hc64 => ?_
  have hdis := (own_dis (pre := pre) b hsd hp hn).mpr hd c hc64
  unfold TKs
  rw [plC_app]
  constructor
  · rintro ⟨⟨h1, h2 | h2⟩, h3⟩
    · exact ⟨h1, h2⟩
    · exact absurd ((own_pcl g hsd hp hn h1).mpr h2) h3
  · intro h
    exact ⟨⟨h.1, Or.inl h.2⟩, fun z => hdis ⟨h, z⟩⟩
theorem stOK_says {s : SH} (g : GS s) {sd p n f : Nat} {X : Nat → Prop} (hsd : sd < 2) (hp : p < sCells s) : stOK s f (pq s sd p) n X ↔ 1 ≤ n ∧ saysP s sd p n f ∧ ∀ b, pcl s (pq s sd p) n b → ¬ X b := by
  obtain ⟨h1, h2, h3, h4, h5, h6⟩ := pq_ok g hsd hp
  constructor
  · rintro ⟨⟨a1, a2⟩, a3, a4, a5⟩
    obtain ⟨b1, b2⟩ := qrun_ok a4
    exact ⟨a1, ⟨a3, by rw [← h4]; exact b2 (by omega), b1⟩, a5⟩
  · rintro ⟨a1, ⟨a2, a3, a4⟩, a5⟩
    exact ⟨⟨a1, h1⟩, a2, qrun_ge a4 (by rw [h4]; exact a3), a5⟩
theorem says_le {s : SH} {sd p n n2 f : Nat} (h : saysP s sd p n f) (hn : n2 ≤ n) : saysP s sd p n2 f := ⟨by have := h.1; omega, by have := h.2.1; omega, fun j hj => h.2.2 j (by omega)⟩
/-- what the search for plans changes -/
def FrS (k : Nat) (h h2 : AH) : Prop := hN h2 = hN h ∧ hR h2 = hR h ∧ (∀ a, a ≠ aN k → a ≠ nowN k → a ≠ bstN k → hI h2 a = hI h a ∧ hL h2 a = hL h a) ∧ ∀ j, j ≠ 11 → hI h2 (aN k) j = hI h (aN k) j
theorem FrS.refl {k : Nat} {h : AH} : FrS k h h := ⟨rfl, rfl, fun _ _ _ _ => ⟨rfl, rfl⟩, fun _ _ => rfl⟩
theorem FrS.trans {k : Nat} {h h2 h3 : AH} (f : FrS k h h2) (g : FrS k h2 h3) : FrS k h h3 := ⟨g.1.trans f.1, g.2.1.trans f.2.1, fun a h1 h2 h3 => ⟨(g.2.2.1 a h1 h2 h3).1.trans (f.2.2.1 a h1 h2 h3).1, (g.2.2.1 a h1 h2 h3).2.trans (f.2.2.1 a h1 h2 h3).2⟩, fun j hj => (g.2.2.2 j hj).trans (f.2.2.2 j hj)⟩
theorem an_now {k : Nat} : aN k ≠ nowN k ∧ aN k ≠ bstN k ∧ nowN k ≠ bstN k := by unfold aN nowN bstN nm qA; omega
theorem FrS.fI {k : Nat} {h : AH} {x : Int32} : FrS k h (sI h (aN k) 11 x) := ⟨rfl, rfl, fun a h1 _ _ => ⟨up2_row h1, rfl⟩, fun j hj => by rw [hI_sI, if_neg (fun z => hj z.2)]⟩
theorem FrS.fL {k j : Nat} {h : AH} {x : Int64} : FrS k h (sL h (aN k) j x) := ⟨rfl, rfl, fun a h1 _ _ => ⟨rfl, up2_row h1⟩, fun _ _ => rfl⟩
theorem FrS.fn {k j : Nat} {h : AH} {x : Int32} : FrS k h (sI h (nowN k) j x) := ⟨rfl, rfl, fun a _ h2 _ => ⟨up2_row h2, rfl⟩, fun j hj => by rw [hI_sI, if_neg (fun z => an_now.1 z.1)]⟩
theorem FrS.fb {k : Nat} {h h2 : AH} (f : Fr [bstN k] h h2) : FrS k h h2 := ⟨f.1, f.2.1, fun a _ _ h3 => f.2.2 a (by simp; exact h3), fun j _ => by rw [(f.2.2 (aN k) (by simp; exact an_now.2.1)).1]⟩
def SN (k : Nat) : Nat → Prop := fun x => x = aN k ∨ x = nowN k ∨ x = bstN k
theorem okS_SN {k : Nat} : okS (SN k) := okS_k (by
  rintro x (rfl | rfl | rfl)
  · exact Or.inr (Or.inl kd_a)
  · exact Or.inr (Or.inr (Or.inr (Or.inl kd_now)))
  · exact Or.inr (Or.inr (Or.inr (Or.inl kd_bst))))
theorem FrS.dq {k : Nat} {h h2 : AH} (f : FrS k h h2) (hn : 68 ≤ hN h) : Dq (SN k) 0 h h2 := ⟨by rw [f.1]; exact ⟨hn, rfl⟩, fun a ha => by rw [f.1]; exact ha, fun a _ hs => ⟨(f.2.2.1 a (fun z => hs (Or.inl z)) (fun z => hs (Or.inr (Or.inl z))) (fun z => hs (Or.inr (Or.inr z)))).1, (f.2.2.1 a (fun z => hs (Or.inl z)) (fun z => hs (Or.inr (Or.inl z))) (fun z => hs (Or.inr (Or.inr z)))).2, by rw [f.2.1]⟩⟩
theorem LW.frs {k gg : Nat} {h h2 : AH} {s : SH} (l : LW h k gg s) (f : FrS k h h2) : LW h2 k gg s := by
  obtain ⟨⟨bs, pa, pn, pb, pg⟩, ⟨f0, f1, f4, f7, f8⟩, ⟨r9, r10, r5⟩, ⟨L, Z, z⟩, ⟨M, rM, sM⟩, gon⟩ := l
  have dq := f.dq (prN_68 pa)
  have hh := bs.2.2.1
  have eg : hI h2 (gonN k gg s) = hI h (gonN k gg s) := by
    have kg := kd_gon (k := k) (g := gg) bs
    refine (f.2.2.1 _ (fun e => ?_) (fun e => ?_) (fun e => ?_)).1
    · rw [e, kd_a] at kg; cases kg
    · rw [e, kd_now] at kg; cases kg
    · rw [e, kd_bst] at kg; cases kg
  refine ⟨⟨bs, dq.2.1 _ pa, dq.2.1 _ pn, dq.2.1 _ pb, dq.2.1 _ pg⟩, ⟨(f.2.2.2 0 (by omega)).trans f0, (f.2.2.2 1 (by omega)).trans f1, (f.2.2.2 4 (by omega)).trans f4, (f.2.2.2 7 (by omega)).trans f7, (f.2.2.2 8 (by omega)).trans f8⟩, by rw [f.2.1]; exact ⟨r9, r10, r5⟩, ⟨L, Z, z.dq dq okS_SN pa (by rw [f.2.1]; exact ⟨rfl, rfl⟩) (by omega)⟩, ⟨M, by rw [f.2.1]; exact rM, sM.dq dq okS_SN.str⟩, fun c hc => by rw [eg]; exact gon c hc⟩
/-- where the search stands: the cuts pre, the cells that they take, what is held -/
def TSt (h : AH) (k : Nat) (s : SH) (pre : List (Nat × Nat)) (b : Option (List (Nat × Nat))) : Prop :=
  hI h (aN k) 11 = nI (lenB b) ∧ hL h (aN k) 12 = mkL (TKs s pre) ∧ (∀ i, i < pre.length → hI h (nowN k) i = nI (cds s pre i) ∧ cds s pre i < 100000) ∧ ∀ m, b = some m → m.length ≤ 8 ∧ ∀ i, i < m.length → hI h (bstN k) i = nI (cds s m i) ∧ cds s m i < 100000
def bcs (s : SH) (b : Option (List (Nat × Nat))) : Nat → Nat := match b with
  | none => fun _ => 0
  | some m => cds s m
theorem ahd_iff {s : SH} {l : List (Nat × Nat)} {b : Option (List (Nat × Nat))} (h9 : l.length < 99) : ahd s l b ↔ aheadP l.length (lenB b) (cds s l) (bcs s b) := by
  cases b with
  | none => exact ⟨fun _ => Or.inl h9, fun _ => trivial⟩
  | some m => exact Iff.rfl
theorem TSt.lb {h : AH} {k : Nat} {s : SH} {pre : List (Nat × Nat)} {b : Option (List (Nat × Nat))} (t : TSt h k s pre b) : lenB b < 100 := by
  cases b with
  | none => show 99 < 100; omega
  | some m => have := (t.2.2.2 m rfl).1; show m.length < 100; omega
theorem TSt.bst {h : AH} {k c : Nat} {s : SH} {pre : List (Nat × Nat)} {b : Option (List (Nat × Nat))} (t : TSt h k s pre b) (hc : c < 24) (e : c = lenB b) : ∀ i, i < c → hI h (bstN k) i = nI (bcs s b i) ∧ bcs s b i < 100000 := by
  cases b with
  | none => exact absurd (show c = 99 from e) (by omega)
  | some m => exact fun i hi => (t.2.2.2 m rfl).2 i (by have e : c = m.length := e; omega)
theorem cds_app {s : SH} {pre : List (Nat × Nat)} {c : Nat × Nat} {i : Nat} : (i < pre.length → cds s (pre ++ [c]) i = cds s pre i) ∧ cds s (pre ++ [c]) pre.length = cdN c.1 (c.2 / 48) (qpl s c.2) := by
  unfold cds
  constructor
  · intro hi
    rw [show (pre ++ [c]).getD i (0, 0) = pre.getD i (0, 0) by simp only [List.getD_eq_getElem?_getD]; rw [List.getElem?_append_left hi]]
  · rw [show (pre ++ [c]).getD pre.length (0, 0) = c by simp only [List.getD_eq_getElem?_getD]; rw [List.getElem?_append_right (Nat.le_refl _), Nat.sub_self]; rfl]
section RW90
variable {X : XT} {mt : MT} {d kc ks pc : Nat} {ls ls' : List (Nat × Value)} {st : List Value} {h : AH} {Q : Res → AH → Prop}
theorem g_uV {mt' : MT} {idx n b ci : Nat} {as stk : List Value} {R : AH → Prop} (hd : decode (mB mt) pc = .ok (.invokevirtual idx, 3)) (hl : Cond.methodLink (mN mt).cls idx (mN mt') ∈ lw_tb2 ∧ Cond.instanceMethod (mN mt') ∈ lw_tb2 ∧ Cond.selects (cR ci) (mN mt') (mN mt') ∈ lw_tb2) (hce : CE mt' n) (hs : kdA b = some (.inl ci)) (hb : prN (hN h) b) (hc' : AC mt' d 0 0 (.ref b :: as) h (Qu R)) (hn : as.length = n) (hstk : stk = as.reverse ++ .ref b :: st) (hst : (st.map fun v => v.category).sum ≤ 8) (hR : ∀ h2, R h2 → hN h2 = hN h) (kk : ∀ h2, R h2 → AW X mt (d + 1) kc ks (pc + 3) ls st h2 Q) : AW X mt (d + 1) kc ks pc ls stk h Q :=
  g_callV (mc := 0) (ms := 0) hd hl hce hs hb hc' hn hstk hst Qu_nt (hoku_of hR) (ku_of kk)
end RW90
set_option maxHeartbeats 1200000 in
set_option maxRecDepth 100000 in
theorem x_tries {k gg : Nat} {s : SH} (h8 : sLen s ≤ 8) : ∀ (m : Nat) {d : Nat} {h : AH} {f : Nat} {pre : List (Nat × Nat)} {b : Option (List (Nat × Nat))}, m ≤ d → LW h k gg s → TSt h k s pre b → f ≤ sLen s → sLen s ≤ f + m → pre.length ≤ f → AC mX6_tries (d + 8) 0 0 [.ref (aN k), .int (nI f), .int (nI pre.length)] h (Qu (fun h2 => FrS k h h2 ∧ ∃ b2, TSt h2 k s pre b2 ∧ PT s pre f b b2)) := by
  intro m
  induction m with
  | zero =>
    intro d h f pre b hmd l t hf hm hpl
    obtain ⟨⟨bs, pa, pn, pb, pg⟩, ⟨f0, f1, f4, f7, f8⟩, ⟨r9, r10, r5⟩, ⟨L, Z, rL, rZ, ⟨kL, pL⟩, ⟨kZ, pZ⟩, lin, siz⟩, ⟨M, rM, sM⟩, gon⟩ := id l
    have g := bs.1
    have gw := g.1
    have gh := g.2.1
    have gs := g.2.2.1
    have bw := bs.2.1
    have bh := bs.2.2.1
    have bl := bs.2.2.2
    have c12 := cells12 bs
    refine AC.of (by decide) rfl (Nat.le_of_ble_eq_true rfl) (fun X => ?_)
    show AW X mX6_tries (d + 8) 0 0 0 [(0, .ref (aN k)), (1, .int (nI f)), (2, .int (nI pre.length))] [] h (Qu (fun h2 => FrS k h h2 ∧ ∃ b2, TSt h2 k s pre b2 ∧ PT s pre f b b2))
    have hlb := t.lb
    refine a_iload_n (pc := 0) (i := 2) dX6_tries_0 rfl rfl ?_
    refine a_aload_n (pc := 1) (i := 0) dX6_tries_1 rfl rfl ?_
    refine g_getI (pc := 2) (ci := 6) (k := 11) dX6_tries_2 (lf_RX6_108 rfl) (by decide) rfl kd_a pa ?_
    refine a_top (show (.int (hI h (aN k) 11) : Value) = .int (nI (lenB b)) from congrArg Value.int t.1) ?_
    refine n_icmp_le (pc := 5) (tgt := 9) dX6_tries_5 (by decide) (by omega) (by omega) (fun c5 => ?_) (fun c5 => ?_)
    · skip
      refine a_iload_n (pc := 9) (i := 1) dX6_tries_9 rfl rfl ?_
      refine a_aload_n (pc := 10) (i := 0) dX6_tries_10 rfl rfl ?_
      refine g_getR (pc := 11) (ci := 6) (k := 6) (b := M) dX6_tries_11 (lf_RX6_37 rfl) (by decide) rfl kd_a pa rM ?_
      refine g_vStr1 (pc := 14) (as := []) (b := M) (v := .int (nI ((msT s).length))) (h' := h) dX6_tries_14 (lc_RX6_78 rfl) ceJ0_length_8abf5 sM.ok (s_len (d := d + 6) sM) rfl rfl (Nat.le_of_ble_eq_true rfl) rfl ?_
      refine a_top (show (.int (nI ((msT s).length)) : Value) = .int (nI (sLen s)) from by rw [msT_len]) ?_
      refine n_icmp_ne (pc := 17) (tgt := 60) dX6_tries_17 (by decide) (by omega) (by omega) (fun c17 => ?_) (fun c17 => ?_)
      · skip
        exact absurd c17 (by omega)
      · skip
        have e17 : sLen s = f := by omega
        refine a_aload_n (pc := 20) (i := 0) dX6_tries_20 rfl rfl ?_
        refine a_iload_n (pc := 21) (i := 2) dX6_tries_21 rfl rfl ?_
        refine g_vV1 (pc := 22) (as := [.int (nI pre.length)]) (b := aN k) (ci := 6) (v := .int (bi (aheadP pre.length (lenB b) (cds s pre) (bcs s b)))) (h' := h) dX6_tries_22 (lc_RX6_111 rfl) ceX6_isAhead kd_a pa (x_isAhead l (c := pre.length) (B := lenB b) (nc := cds s pre) (bc := bcs s b) (by omega) hlb t.1 (fun i hi => (t.2.2.1 i hi).1) (fun e i hi => (t.bst (by omega) e i hi).1) (fun i hi => (t.2.2.1 i hi).2) (fun e i hi => (t.bst (by omega) e i hi).2)) rfl rfl (Nat.le_of_ble_eq_true rfl) rfl ?_
        refine b_if_ne (pc := 25) (tgt := 29) dX6_tries_25 (by decide) (fun c25 => ?_) (fun c25 => ?_)
        · have ha : ahd s pre b := (ahd_iff (by omega)).mpr c25
          refine a_aload_n (pc := 29) (i := 0) dX6_tries_29 rfl rfl ?_
          refine a_iload_n (pc := 30) (i := 2) dX6_tries_30 rfl rfl ?_
          refine g_putI (pc := 31) (ci := 6) (k := 11) dX6_tries_31 (lf_RX6_108 rfl) (by decide) (Or.inl rfl) kd_a pa rfl ?_
          refine a_iconst (pc := 34) (v := nI 0) dX6_tries_34 (by decide) ?_
          refine a_istore_n (pc := 35) (i := 3) (ls' := [(0, .ref (aN k)), (1, .int (nI f)), (2, .int (nI pre.length)), (3, .int (nI 0))]) dX6_tries_35 rfl (by decide) rfl ?_
          have LP : ∀ (fu : Nat) (i : Nat) (H : AH), i ≤ pre.length → Fr [bstN k] (sI h (aN k) 11 (nI pre.length)) H → (∀ j, j < i → hI H (bstN k) j = nI (cds s pre j)) → pre.length - i < fu → AW X mX6_tries (d + 8) 0 0 36 [(0, .ref (aN k)), (1, .int (nI f)), (2, .int (nI pre.length)), (3, .int (nI i))] [] H (Qu (fun h2 => FrS k h h2 ∧ ∃ b2, TSt h2 k s pre b2 ∧ PT s pre f b b2)) := by
            intro fu
            induction fu with
            | zero => intro i H hi hf hb hz; exact absurd hz (Nat.not_lt_zero _)
            | succ fu ih =>
              intro i H hi hf hb hz
              have fs : FrS k h H := FrS.fI.trans (FrS.fb hf)
              have pb2 : prN (hN H) (bstN k) := by rw [hf.1]; exact pb
              have pn2 : prN (hN H) (nowN k) := by rw [hf.1]; exact pn
              have pa2 : prN (hN H) (aN k) := by rw [hf.1]; exact pa
              have en : hI H (nowN k) = hI h (nowN k) := by rw [(hf.2.2 (nowN k) (by simp; exact an_now.2.2)).1]; exact up2_row (Ne.symm an_now.1)
              refine a_iload_n (pc := 36) (i := 3) dX6_tries_36 rfl rfl ?_
              refine a_iload_n (pc := 37) (i := 2) dX6_tries_37 rfl rfl ?_
              refine n_icmp_ge (pc := 38) (tgt := 59) dX6_tries_38 (by decide) (by omega) (by omega) (fun c38 => ?_) (fun c38 => ?_)
              · have ei : i = pre.length := by omega
                refine a_return (pc := 59) dX6_tries_59 rfl (⟨rfl, fs, some pre, ⟨?_, ?_, fun i hi => by rw [en]; exact t.2.2.1 i hi, fun m hm => by cases hm; exact ⟨by omega, fun i hi => ⟨hb i (by omega), (t.2.2.1 i hi).2⟩⟩⟩, (by rw [← e17]; exact PT_end.1 ha)⟩)
                · rw [(hf.2.2 (aN k) (by simp; exact an_now.2.1)).1, hI_sI, if_pos ⟨rfl, rfl⟩]; rfl
                · rw [(hf.2.2 (aN k) (by simp; exact an_now.2.1)).2]; exact t.2.1
              · skip
                refine a_aload_n (pc := 41) (i := 0) dX6_tries_41 rfl rfl ?_
                refine g_getR (pc := 42) (ci := 6) (k := 10) (b := bstN k) dX6_tries_42 (lf_RX6_44 rfl) (by decide) rfl kd_a pa2 (by rw [hf.2.1]; exact r10) ?_
                refine a_iload_n (pc := 45) (i := 3) dX6_tries_45 rfl rfl ?_
                refine a_aload_n (pc := 46) (i := 0) dX6_tries_46 rfl rfl ?_
                refine g_getR (pc := 47) (ci := 6) (k := 9) (b := nowN k) dX6_tries_47 (lf_RX6_41 rfl) (by decide) rfl kd_a pa2 (by rw [hf.2.1]; exact r9) ?_
                refine a_iload_n (pc := 50) (i := 3) dX6_tries_50 rfl rfl ?_
                refine g_iald (pc := 51) (j := i) dX6_tries_51 kd_now pn2 rfl (by omega) ?_
                refine a_top (show (.int (hI H (nowN k) i) : Value) = .int (nI (cds s pre i)) from congrArg Value.int (by rw [en]; exact (t.2.2.1 i c38).1)) ?_
                refine g_iast (pc := 52) (j := i) dX6_tries_52 kd_bst pb2 rfl (by omega) ?_
                refine n_iinc (pc := 53) (k := 1) (ls' := [(0, .ref (aN k)), (1, .int (nI f)), (2, .int (nI pre.length)), (3, .int (nI (i + 1)))]) dX6_tries_53 rfl (by decide) (by decide) rfl ?_
                refine a_goto (pc := 56) (tgt := 36) dX6_tries_56 (by decide) ?_
                exact ih (i + 1) _ (by omega) (hf.sI (List.mem_singleton.mpr rfl)) (fun j hj => by
          rw [hI_sI]
          by_cases e : j = i
          · rw [if_pos ⟨rfl, e⟩, e]
          · rw [if_neg (fun z => e z.2)]; exact hb j (by omega)) (by omega)
          exact LP (pre.length + 1) 0 _ (by omega) Fr.refl (fun j hj => absurd hj (Nat.not_lt_zero j)) (by omega)
        · have ha : ¬ ahd s pre b := fun z => c25 ((ahd_iff (by omega)).mp z)
          exact a_return (pc := 28) dX6_tries_28 rfl (⟨rfl, FrS.refl, b, t, (by rw [← e17]; exact PT_end.2 ha)⟩)
    · skip
      exact a_return (pc := 8) dX6_tries_8 rfl (⟨rfl, FrS.refl, b, t, PT_cut (by omega) (by omega)⟩)
  | succ m ihm =>
    intro d h f pre b hmd l t hf hm hpl
    obtain ⟨d, rfl⟩ : ∃ d', d = d' + 1 := ⟨d - 1, by omega⟩
    show AC mX6_tries (d + 9) 0 0 [.ref (aN k), .int (nI f), .int (nI pre.length)] h _
    obtain ⟨⟨bs, pa, pn, pb, pg⟩, ⟨f0, f1, f4, f7, f8⟩, ⟨r9, r10, r5⟩, ⟨L, Z, rL, rZ, ⟨kL, pL⟩, ⟨kZ, pZ⟩, lin, siz⟩, ⟨M, rM, sM⟩, gon⟩ := id l
    have g := bs.1
    have gw := g.1
    have gh := g.2.1
    have gs := g.2.2.1
    have bw := bs.2.1
    have bh := bs.2.2.1
    have bl := bs.2.2.2
    have c12 := cells12 bs
    refine AC.of (by decide) rfl (Nat.le_of_ble_eq_true rfl) (fun X => ?_)
    show AW X mX6_tries (d + 9) 0 0 0 [(0, .ref (aN k)), (1, .int (nI f)), (2, .int (nI pre.length))] [] h (Qu (fun h2 => FrS k h h2 ∧ ∃ b2, TSt h2 k s pre b2 ∧ PT s pre f b b2))
    have hlb := t.lb
    refine a_iload_n (pc := 0) (i := 2) dX6_tries_0 rfl rfl ?_
    refine a_aload_n (pc := 1) (i := 0) dX6_tries_1 rfl rfl ?_
    refine g_getI (pc := 2) (ci := 6) (k := 11) dX6_tries_2 (lf_RX6_108 rfl) (by decide) rfl kd_a pa ?_
    refine a_top (show (.int (hI h (aN k) 11) : Value) = .int (nI (lenB b)) from congrArg Value.int t.1) ?_
    refine n_icmp_le (pc := 5) (tgt := 9) dX6_tries_5 (by decide) (by omega) (by omega) (fun c5 => ?_) (fun c5 => ?_)
    · skip
      refine a_iload_n (pc := 9) (i := 1) dX6_tries_9 rfl rfl ?_
      refine a_aload_n (pc := 10) (i := 0) dX6_tries_10 rfl rfl ?_
      refine g_getR (pc := 11) (ci := 6) (k := 6) (b := M) dX6_tries_11 (lf_RX6_37 rfl) (by decide) rfl kd_a pa rM ?_
      refine g_vStr1 (pc := 14) (as := []) (b := M) (v := .int (nI ((msT s).length))) (h' := h) dX6_tries_14 (lc_RX6_78 rfl) ceJ0_length_8abf5 sM.ok (s_len (d := d + 7) sM) rfl rfl (Nat.le_of_ble_eq_true rfl) rfl ?_
      refine a_top (show (.int (nI ((msT s).length)) : Value) = .int (nI (sLen s)) from by rw [msT_len]) ?_
      refine n_icmp_ne (pc := 17) (tgt := 60) dX6_tries_17 (by decide) (by omega) (by omega) (fun c17 => ?_) (fun c17 => ?_)
      · skip
        have hf2 : f < sLen s := by omega
        have LP : ∀ (sd : Nat), sd < 2 → (∀ (H : AH) (bc : Option (List (Nat × Nat))), FrS k h H → TSt H k s pre bc → PU s pre f b bc (fun sd2 p2 n2 => sd ≤ sd2) → AW X mX6_tries (d + 9) 0 0 212 [(0, .ref (aN k)), (1, .int (nI f)), (2, .int (nI pre.length)), (3, .int (nI sd)), (4, .int (nI (sCells s)))] [] H (Qu (fun h2 => FrS k h h2 ∧ ∃ b2, TSt h2 k s pre b2 ∧ PT s pre f b b2))) → ∀ (fu p : Nat) (H : AH) (bc : Option (List (Nat × Nat))), p ≤ sCells s → FrS k h H → TSt H k s pre bc → PU s pre f b bc (fun sd2 p2 n2 => sd < sd2 ∨ (sd2 = sd ∧ p2 < p)) → sCells s - p < fu → AW X mX6_tries (d + 9) 0 0 69 [(0, .ref (aN k)), (1, .int (nI f)), (2, .int (nI pre.length)), (3, .int (nI sd)), (4, .int (nI p))] [] H (Qu (fun h2 => FrS k h h2 ∧ ∃ b2, TSt h2 k s pre b2 ∧ PT s pre f b b2)) := by
          intro sd hsd hK fu
          induction fu with
          | zero => intro p H bc hp hf ht hu hz; exact absurd hz (Nat.not_lt_zero _)
          | succ fu ihp =>
            intro p H bc hp hf ht hu hz
            have lH := l.frs hf
            have pa2 : prN (hN H) (aN k) := by rw [hf.1]; exact pa
            have pn2 : prN (hN H) (nowN k) := by rw [hf.1]; exact pn
            refine a_iload (pc := 69) (i := 4) dX6_tries_69 rfl ?_
            refine a_aload_n (pc := 71) (i := 0) dX6_tries_71 rfl rfl ?_
            refine g_vV1 (pc := 72) (as := []) (b := aN k) (ci := 6) (v := .int (nI (sCells s))) (h' := H) dX6_tries_72 (lc_RX6_82 rfl) ceX6_all kd_a pa2 (x_all lH) rfl rfl (Nat.le_of_ble_eq_true rfl) rfl ?_
            refine n_icmp_ge (pc := 75) (tgt := 212) dX6_tries_75 (by decide) (by omega) (by omega) (fun c75 => ?_) (fun c75 => ?_)
            · have ep : p = sCells s := by omega
              rw [ep]
              exact hK H bc hf ht (PU_mono hu (fun sd2 p2 n2 _ h2 h3 => Or.inl (by omega)))
            · skip
              have hW : 0 < sW s := by omega
              obtain ⟨p1, p2, p3⟩ := pl_ok g c75
              have LN : ∀ (fv i : Nat) (H : AH) (bc : Option (List (Nat × Nat))), i ≤ sW s → FrS k h H → TSt H k s pre bc → PU s pre f b bc (fun sd2 p2 n2 => (sd < sd2 ∨ (sd2 = sd ∧ p2 < p)) ∨ (sd2 = sd ∧ p2 = p ∧ n2 ≤ i)) → sW s - i < fv → AW X mX6_tries (d + 9) 0 0 84 [(0, .ref (aN k)), (1, .int (nI f)), (2, .int (nI pre.length)), (3, .int (nI sd)), (4, .int (nI p)), (5, .long (mkL (ownP s sd p i))), (7, .int (nI (i + 1)))] [] H (Qu (fun h2 => FrS k h h2 ∧ ∃ b2, TSt h2 k s pre b2 ∧ PT s pre f b b2)) := by
                intro fv
                induction fv with
                | zero => intro i H bc hi hf ht hu hz; exact absurd hz (Nat.not_lt_zero _)
                | succ fv ihn =>
                  intro i H bc hi hf ht hu hz
                  have lH := l.frs hf
                  have pa2 : prN (hN H) (aN k) := by rw [hf.1]; exact pa
                  have pn2 : prN (hN H) (nowN k) := by rw [hf.1]; exact pn
                  refine a_iload (pc := 84) (i := 7) dX6_tries_84 rfl ?_
                  refine a_aload_n (pc := 86) (i := 0) dX6_tries_86 rfl rfl ?_
                  refine g_getI (pc := 87) (ci := 6) (k := 0) dX6_tries_87 (lf_RX6_7 rfl) (by decide) rfl kd_a pa2 ?_
                  refine a_top (show (.int (hI H (aN k) 0) : Value) = .int (nI (sW s)) from congrArg Value.int ((hf.2.2.2 0 (by omega)).trans f0)) ?_
                  refine n_icmp_gt (pc := 90) (tgt := 206) dX6_tries_90 (by decide) (by omega) (by omega) (fun c90 => ?_) (fun c90 => ?_)
                  · skip
                    refine n_iinc (pc := 206) (k := 1) (ls' := [(0, .ref (aN k)), (1, .int (nI f)), (2, .int (nI pre.length)), (3, .int (nI sd)), (4, .int (nI (p + 1))), (5, .long (mkL (ownP s sd p i))), (7, .int (nI (i + 1)))]) dX6_tries_206 rfl (by decide) (by decide) rfl ?_
                    refine a_goto (pc := 209) (tgt := 69) dX6_tries_209 (by decide) ?_
                    refine a_drop (ls' := [(0, .ref (aN k)), (1, .int (nI f)), (2, .int (nI pre.length)), (3, .int (nI sd)), (4, .int (nI (p + 1)))]) (by simp) ?_
                    have hmono : ∀ sd2 p2 n2, sd2 < 2 → p2 < sCells s → (sd < sd2 ∨ (sd2 = sd ∧ p2 < p + 1)) → ((sd < sd2 ∨ (sd2 = sd ∧ p2 < p)) ∨ (sd2 = sd ∧ p2 = p ∧ n2 ≤ i)) ∨ ¬ stOK s f (pq s sd2 p2) n2 (plC s pre) := by
                      intro sd2 p2 n2 h1 h2 h3
                      rcases (by omega : (sd < sd2 ∨ (sd2 = sd ∧ p2 < p)) ∨ (sd2 = sd ∧ p2 = p ∧ n2 ≤ i) ∨ (sd2 = sd ∧ p2 = p ∧ i < n2)) with y | y | ⟨y1, y2, y3⟩
                      · exact Or.inl (Or.inl y)
                      · exact Or.inl (Or.inr y)
                      · refine Or.inr (fun z => ?_)
                        rw [y1, y2] at z
                        have z2 := ((stOK_says g hsd c75).mp z).2.1
                        have := z2.2.1; omega
                    exact ihp (p + 1) H bc (by omega) hf ht (PU_mono hu hmono) (by omega)
                  · skip
                    refine a_aload_n (pc := 93) (i := 0) dX6_tries_93 rfl rfl ?_
                    refine a_iload_n (pc := 94) (i := 3) dX6_tries_94 rfl rfl ?_
                    refine a_iload (pc := 95) (i := 4) dX6_tries_95 rfl ?_
                    refine a_iload (pc := 97) (i := 7) dX6_tries_97 rfl ?_
                    refine a_iload_n (pc := 99) (i := 1) dX6_tries_99 rfl rfl ?_
                    refine g_vV1 (pc := 100) (as := [.int (nI sd), .int (nI p), .int (nI (i + 1)), .int (nI f)]) (b := aN k) (ci := 6) (v := .int (bi (saysP s sd p (i + 1) f))) (h' := H) dX6_tries_100 (lc_RX6_104 rfl) ceX6_says kd_a pa2 (x_says (d := d + 1) lH hsd c75 (n := i + 1) (f := f) (by omega) (by omega)) rfl rfl (Nat.le_of_ble_eq_true rfl) rfl ?_
                    refine b_if_eq (pc := 103) (tgt := 206) dX6_tries_103 (by decide) (fun c103 => ?_) (fun c103 => ?_)
                    · skip
                      refine n_iinc (pc := 206) (k := 1) (ls' := [(0, .ref (aN k)), (1, .int (nI f)), (2, .int (nI pre.length)), (3, .int (nI sd)), (4, .int (nI (p + 1))), (5, .long (mkL (ownP s sd p i))), (7, .int (nI (i + 1)))]) dX6_tries_206 rfl (by decide) (by decide) rfl ?_
                      refine a_goto (pc := 209) (tgt := 69) dX6_tries_209 (by decide) ?_
                      refine a_drop (ls' := [(0, .ref (aN k)), (1, .int (nI f)), (2, .int (nI pre.length)), (3, .int (nI sd)), (4, .int (nI (p + 1)))]) (by simp) ?_
                      have hmono : ∀ sd2 p2 n2, sd2 < 2 → p2 < sCells s → (sd < sd2 ∨ (sd2 = sd ∧ p2 < p + 1)) → ((sd < sd2 ∨ (sd2 = sd ∧ p2 < p)) ∨ (sd2 = sd ∧ p2 = p ∧ n2 ≤ i)) ∨ ¬ stOK s f (pq s sd2 p2) n2 (plC s pre) := by
                        intro sd2 p2 n2 h1 h2 h3
                        rcases (by omega : (sd < sd2 ∨ (sd2 = sd ∧ p2 < p)) ∨ (sd2 = sd ∧ p2 = p ∧ n2 ≤ i) ∨ (sd2 = sd ∧ p2 = p ∧ i < n2)) with y | y | ⟨y1, y2, y3⟩
                        · exact Or.inl (Or.inl y)
                        · exact Or.inl (Or.inr y)
                        · refine Or.inr (fun z => ?_)
                          rw [y1, y2] at z
                          have z2 := ((stOK_says g hsd c75).mp z).2.1
                          exact c103 (says_le z2 (by omega))
                      exact ihp (p + 1) H bc (by omega) hf ht (PU_mono hu hmono) (by omega)
                    · skip
                      have hrow := c103.2.1
                      obtain ⟨u1, u2⟩ := row_in (j := i) g c75 (by omega)
                      have hcl := (clN_ok (sd := sd) g u1).1
                      refine a_lload (pc := 106) (i := 5) dX6_tries_106 rfl ?_
                      refine a_lconst (pc := 108) (v := 1) dX6_tries_108 (by decide) ?_
                      refine a_aload_n (pc := 109) (i := 0) dX6_tries_109 rfl rfl ?_
                      refine a_iload_n (pc := 110) (i := 3) dX6_tries_110 rfl rfl ?_
                      refine a_iload (pc := 111) (i := 4) dX6_tries_111 rfl ?_
                      refine a_iload (pc := 113) (i := 7) dX6_tries_113 rfl ?_
                      refine n_iadd (pc := 115) dX6_tries_115 ?_
                      refine a_iconst (pc := 116) (v := nI 1) dX6_tries_116 (by decide) ?_
                      refine n_isub (pc := 117) dX6_tries_117 (by omega) ?_
                      refine a_top (show (.int (nI ((p + (i + 1)) - 1)) : Value) = .int (nI (p + i)) from rfl) ?_
                      refine g_vV1 (pc := 118) (as := [.int (nI sd), .int (nI (p + i))]) (b := aN k) (ci := 6) (v := .int (nI (clN s sd (p + i)))) (h' := H) dX6_tries_118 (lc_RX6_67 rfl) ceX6_cell kd_a pa2 (x_cell (d := d + 8) lH hsd u1) rfl rfl (Nat.le_of_ble_eq_true rfl) rfl ?_
                      refine a_lshl (pc := 121) dX6_tries_121 ?_
                      refine a_top (show (.long (1 <<< ((nI (clN s sd (p + i))).toInt64 &&& 63)) : Value) = .long (mkL (fun c => c = clN s sd (p + i))) from congrArg Value.long (mkL_shl (by omega))) ?_
                      refine a_lor (pc := 122) dX6_tries_122 ?_
                      refine a_top (show (.long ((mkL (ownP s sd p i)) ||| (mkL (fun c => c = clN s sd (p + i)))) : Value) = .long (mkL (ownP s sd p (i + 1))) from congrArg Value.long own_step) ?_
                      refine a_lstore (pc := 123) (i := 5) (ls' := [(0, .ref (aN k)), (1, .int (nI f)), (2, .int (nI pre.length)), (3, .int (nI sd)), (4, .int (nI p)), (5, .long (mkL (ownP s sd p (i + 1)))), (7, .int (nI (i + 1)))]) dX6_tries_123 (by decide) rfl ?_
                      refine a_aload_n (pc := 125) (i := 0) dX6_tries_125 rfl rfl ?_
                      refine g_getL (pc := 126) (ci := 6) (k := 12) dX6_tries_126 (lf_RX6_115 rfl) (by decide) rfl kd_a pa2 ?_
                      refine a_top (show (.long (hL H (aN k) 12) : Value) = .long (mkL (TKs s pre)) from congrArg Value.long ht.2.1) ?_
                      refine a_lload (pc := 129) (i := 5) dX6_tries_129 rfl ?_
                      refine a_land (pc := 131) dX6_tries_131 ?_
                      refine a_top (show (.long ((mkL (TKs s pre)) &&& (mkL (ownP s sd p (i + 1)))) : Value) = .long (mkL (fun c => TKs s pre c ∧ ownP s sd p (i + 1) c)) from congrArg Value.long (mkL_and _ _)) ?_
                      refine a_lconst (pc := 132) (v := 0) dX6_tries_132 (by decide) ?_
                      refine a_lcmp (pc := 133) dX6_tries_133 ?_
                      have hdis := own_dis (pre := pre) bs hsd c75 (n := i + 1) hrow
                      have hst := stOK_says (f := f) (n := i + 1) (X := plC s pre) g hsd c75
                      refine a_if_eq (pc := 134) (tgt := 140) dX6_tries_134 (by decide) (fun c134 => ?_) (fun c134 => ?_)
                      · have hfree := hdis.mp (mkL_eq0.mp ((lg_cmp_eq _ _).mp c134))
                        have hS := hst.mpr ⟨by omega, c103, hfree⟩
                        refine a_aload_n (pc := 140) (i := 0) dX6_tries_140 rfl rfl ?_
                        refine g_getR (pc := 141) (ci := 6) (k := 9) (b := nowN k) dX6_tries_141 (lf_RX6_41 rfl) (by decide) rfl kd_a pa2 (by rw [hf.2.1]; exact r9) ?_
                        refine a_iload_n (pc := 144) (i := 2) dX6_tries_144 rfl rfl ?_
                        refine a_sipush (pc := 145) (v := nI 1000) dX6_tries_145 (by decide) ?_
                        refine a_bipush (pc := 148) (v := nI 9) dX6_tries_148 (by decide) ?_
                        refine a_iload (pc := 150) (i := 7) dX6_tries_150 rfl ?_
                        refine n_isub (pc := 152) dX6_tries_152 (by omega) ?_
                        refine n_imul (pc := 153) dX6_tries_153 ?_
                        refine a_bipush (pc := 154) (v := nI 100) dX6_tries_154 (by decide) ?_
                        refine a_iload_n (pc := 156) (i := 3) dX6_tries_156 rfl rfl ?_
                        refine n_imul (pc := 157) dX6_tries_157 ?_
                        refine n_iadd (pc := 158) dX6_tries_158 ?_
                        refine a_iload (pc := 159) (i := 4) dX6_tries_159 rfl ?_
                        refine n_iadd (pc := 161) dX6_tries_161 ?_
                        refine g_iast (pc := 162) (j := pre.length) dX6_tries_162 kd_now pn2 rfl (by omega) ?_
                        refine a_aload_n (pc := 163) (i := 0) dX6_tries_163 rfl rfl ?_
                        refine a_dup (pc := 164) dX6_tries_164 rfl ?_
                        refine g_getL (pc := 165) (ci := 6) (k := 12) dX6_tries_165 (lf_RX6_115 rfl) (by decide) rfl kd_a pa2 ?_
                        refine a_top (show (.long (hL (sI H (nowN k) pre.length (nI (((1000 * (9 - (i + 1))) + (100 * sd)) + p))) (aN k) 12) : Value) = .long (mkL (TKs s pre)) from congrArg Value.long ht.2.1) ?_
                        refine a_lload (pc := 168) (i := 5) dX6_tries_168 rfl ?_
                        refine a_lor (pc := 170) dX6_tries_170 ?_
                        refine g_putL (pc := 171) (ci := 6) (k := 12) dX6_tries_171 (lf_RX6_115 rfl) (by decide) rfl kd_a pa2 rfl ?_
                        have q9 := (pq_ok g hsd c75)
                        obtain ⟨H1, hH1⟩ : ∃ Hx, Hx = sL (sI H (nowN k) pre.length (nI (((1000 * (9 - (i + 1))) + (100 * sd)) + p))) (aN k) 12 ((mkL (TKs s pre)) ||| (mkL (ownP s sd p (i + 1)))) := ⟨_, rfl⟩
                        refine a_heap (h' := H1) hH1.symm ?_
                        have fs1 : FrS k H H1 := by rw [hH1]; exact FrS.fn.trans FrS.fL
                        have ecd : cds s (pre ++ [(i + 1, pq s sd p)]) pre.length = 1000 * (9 - (i + 1)) + 100 * sd + p := by rw [(cds_app (i := 0)).2]; show cdN (i + 1) (pq s sd p / 48) (qpl s (pq s sd p)) = _; rw [q9.2.1, q9.2.2.2.2.2]; rfl
                        have hlen2 : (pre ++ [(i + 1, pq s sd p)]).length = pre.length + 1 := by rw [List.length_append]; rfl
                        have t1 : TSt H1 k s (pre ++ [(i + 1, pq s sd p)]) bc := by
                          refine ⟨?_, ?_, fun j hj => ?_, fun m hm => ?_⟩
                          · rw [hH1]; show hI (sI H (nowN k) _ _) (aN k) 11 = _; rw [hI_sI, if_neg (fun z => an_now.1 z.1)]; exact ht.1
                          · rw [hH1, hL_sL, if_pos ⟨rfl, rfl⟩]; exact tk_add g hsd c75 hrow
                          · rw [hlen2] at hj
                            rw [hH1]
                            show hI (sI H (nowN k) _ _) (nowN k) j = _ ∧ _
                            rw [hI_sI]
                            by_cases e : j = pre.length
                            · subst e
                              rw [if_pos ⟨rfl, rfl⟩, ecd]
                              exact ⟨rfl, by omega⟩
                            · rw [if_neg (fun z => e z.2), cds_app.1 (by omega)]
                              exact ht.2.2.1 j (by omega)
                          · rw [hH1]
                            show _ ∧ ∀ i, i < m.length → hI (sI H (nowN k) _ _) (bstN k) i = _ ∧ _
                            rw [show hI (sI H (nowN k) _ _) (bstN k) = hI H (bstN k) from up2_row (Ne.symm an_now.2.2)]
                            exact ht.2.2.2 m hm
                        have l1 := lH.frs fs1
                        have pa3 : prN (hN H1) (aN k) := by rw [fs1.1]; exact pa2
                        refine a_aload_n (pc := 174) (i := 0) dX6_tries_174 rfl rfl ?_
                        refine a_iload_n (pc := 175) (i := 1) dX6_tries_175 rfl rfl ?_
                        refine a_iload (pc := 176) (i := 7) dX6_tries_176 rfl ?_
                        refine n_iadd (pc := 178) dX6_tries_178 ?_
                        refine a_iload_n (pc := 179) (i := 2) dX6_tries_179 rfl rfl ?_
                        refine a_iconst (pc := 180) (v := nI 1) dX6_tries_180 (by decide) ?_
                        refine n_iadd (pc := 181) dX6_tries_181 ?_
                        have hcall : AC mX6_tries (d + 8) 0 0 [.ref (aN k), .int (nI (f + (i + 1))), .int (nI (pre.length + 1))] H1 (Qu (fun h2 => FrS k H1 h2 ∧ ∃ b2, TSt h2 k s (pre ++ [(i + 1, pq s sd p)]) b2 ∧ PT s (pre ++ [(i + 1, pq s sd p)]) (f + (i + 1)) bc b2)) := by
                          have := ihm (h := H1) (f := f + (i + 1)) (pre := (pre ++ [(i + 1, pq s sd p)])) (b := bc) (d := d) (by omega) l1 t1 (by have := c103.1; omega) (by omega) (by rw [hlen2]; omega)
                          rw [hlen2] at this
                          exact this
                        refine g_uV (pc := 182) (as := [.int (nI (f + (i + 1))), .int (nI (pre.length + 1))]) (b := aN k) (ci := 6) dX6_tries_182 (lc_RX6_119 rfl) ceX6_tries kd_a pa3 hcall rfl rfl (Nat.le_of_ble_eq_true rfl) (fun h2 y => y.1.1) (fun H2 ⟨fs2, b3, t2, pt2⟩ => ?_)
                        have pa4 : prN (hN H2) (aN k) := by rw [fs2.1]; exact pa3
                        refine a_aload_n (pc := 185) (i := 0) dX6_tries_185 rfl rfl ?_
                        refine a_dup (pc := 186) dX6_tries_186 rfl ?_
                        refine g_getL (pc := 187) (ci := 6) (k := 12) dX6_tries_187 (lf_RX6_115 rfl) (by decide) rfl kd_a pa4 ?_
                        refine a_top (show (.long (hL H2 (aN k) 12) : Value) = .long (mkL (TKs s (pre ++ [(i + 1, pq s sd p)]))) from congrArg Value.long t2.2.1) ?_
                        refine a_lload (pc := 190) (i := 5) dX6_tries_190 rfl ?_
                        refine a_ldc2 (pc := 192) (v := (-1)) dX6_tries_192 (lj_RX6_123 rfl) ?_
                        refine a_lxor (pc := 195) dX6_tries_195 ?_
                        refine a_land (pc := 196) dX6_tries_196 ?_
                        refine a_top (show (.long ((mkL (TKs s (pre ++ [(i + 1, pq s sd p)]))) &&& ((mkL (ownP s sd p (i + 1))) ^^^ ((-1)))) : Value) = .long (mkL (TKs s pre)) from congrArg Value.long (tk_del bs hsd c75 hrow hfree)) ?_
                        refine g_putL (pc := 197) (ci := 6) (k := 12) dX6_tries_197 (lf_RX6_115 rfl) (by decide) rfl kd_a pa4 rfl ?_
                        refine n_iinc (pc := 200) (k := 1) (ls' := [(0, .ref (aN k)), (1, .int (nI f)), (2, .int (nI pre.length)), (3, .int (nI sd)), (4, .int (nI p)), (5, .long (mkL (ownP s sd p (i + 1)))), (7, .int (nI ((i + 1) + 1)))]) dX6_tries_200 rfl (by decide) (by decide) rfl ?_
                        refine a_goto (pc := 203) (tgt := 84) dX6_tries_203 (by decide) ?_
                        obtain ⟨H3, hH3⟩ : ∃ Hx, Hx = sL H2 (aN k) 12 (mkL (TKs s pre)) := ⟨_, rfl⟩
                        refine a_heap (h' := H3) hH3.symm ?_
                        have fs3 : FrS k h H3 := hf.trans (fs1.trans (fs2.trans (by rw [hH3]; exact FrS.fL)))
                        have t3 : TSt H3 k s pre b3 := by
                          rw [hH3]
                          refine ⟨t2.1, by rw [hL_sL, if_pos ⟨rfl, rfl⟩], fun j hj => ?_, t2.2.2.2⟩
                          have := t2.2.2.1 j (by rw [hlen2]; omega)
                          rw [cds_app.1 hj] at this
                          exact this
                        exact ihn (i + 1) H3 b3 (by omega) fs3 t3 (PU_step hu hS pt2 (fun sd2 p2 n2 h1 h2 h3 => by omega)) (by omega)
                      · have hbad : ¬ stOK s f (pq s sd p) (i + 1) (plC s pre) := fun z => c134 ((lg_cmp_eq _ _).mpr (mkL_eq0.mpr (hdis.mpr (hst.mp z).2.2)))
                        refine a_goto (pc := 137) (tgt := 200) dX6_tries_137 (by decide) ?_
                        refine n_iinc (pc := 200) (k := 1) (ls' := [(0, .ref (aN k)), (1, .int (nI f)), (2, .int (nI pre.length)), (3, .int (nI sd)), (4, .int (nI p)), (5, .long (mkL (ownP s sd p (i + 1)))), (7, .int (nI ((i + 1) + 1)))]) dX6_tries_200 rfl (by decide) (by decide) rfl ?_
                        refine a_goto (pc := 203) (tgt := 84) dX6_tries_203 (by decide) ?_
                        have hmono : ∀ sd2 p2 n2, sd2 < 2 → p2 < sCells s → ((sd < sd2 ∨ (sd2 = sd ∧ p2 < p)) ∨ (sd2 = sd ∧ p2 = p ∧ n2 ≤ i + 1)) → ((sd < sd2 ∨ (sd2 = sd ∧ p2 < p)) ∨ (sd2 = sd ∧ p2 = p ∧ n2 ≤ i)) ∨ ¬ stOK s f (pq s sd2 p2) n2 (plC s pre) := by
                          intro sd2 p2 n2 h1 h2 h3
                          rcases (by omega : ((sd < sd2 ∨ (sd2 = sd ∧ p2 < p)) ∨ (sd2 = sd ∧ p2 = p ∧ n2 ≤ i)) ∨ (sd2 = sd ∧ p2 = p ∧ n2 = i + 1)) with y | ⟨y1, y2, y3⟩
                          · exact Or.inl y
                          · rw [y1, y2, y3]; exact Or.inr hbad
                        exact ihn (i + 1) H bc (by omega) hf ht (PU_mono hu hmono) (by omega)
              refine a_lconst (pc := 78) (v := 0) dX6_tries_78 (by decide) ?_
              refine a_lstore (pc := 79) (i := 5) (ls' := [(0, .ref (aN k)), (1, .int (nI f)), (2, .int (nI pre.length)), (3, .int (nI sd)), (4, .int (nI p)), (5, .long 0)]) dX6_tries_79 (by decide) rfl ?_
              refine a_iconst (pc := 81) (v := nI 1) dX6_tries_81 (by decide) ?_
              refine a_istore (pc := 82) (i := 7) (ls' := [(0, .ref (aN k)), (1, .int (nI f)), (2, .int (nI pre.length)), (3, .int (nI sd)), (4, .int (nI p)), (5, .long 0), (7, .int (nI 1))]) dX6_tries_82 (by decide) rfl ?_
              refine a_locs (ls' := [(0, .ref (aN k)), (1, .int (nI f)), (2, .int (nI pre.length)), (3, .int (nI sd)), (4, .int (nI p)), (5, .long (mkL (ownP s sd p 0))), (7, .int (nI (0 + 1)))]) (by rw [own_0]) ?_
              exact LN (sW s + 1) 0 H bc (by omega) hf ht (PU_mono hu (fun sd2 p2 n2 h1 h2 h3 => (by omega : ((sd < sd2 ∨ (sd2 = sd ∧ p2 < p)) ∨ n2 = 0)).elim Or.inl (fun z => Or.inr (fun y => by have := y.1.1; omega)))) (by omega)
        have K0 : ∀ (H : AH) (bc : Option (List (Nat × Nat))), FrS k h H → TSt H k s pre bc → PU s pre f b bc (fun sd2 p2 n2 => 0 ≤ sd2) → AW X mX6_tries (d + 9) 0 0 212 [(0, .ref (aN k)), (1, .int (nI f)), (2, .int (nI pre.length)), (3, .int (nI 0)), (4, .int (nI (sCells s)))] [] H (Qu (fun h2 => FrS k h h2 ∧ ∃ b2, TSt h2 k s pre b2 ∧ PT s pre f b b2)) := by
          intro H bc hf ht hu
          refine a_iinc (pc := 212) (v := -1) (ls' := [(0, .ref (aN k)), (1, .int (nI f)), (2, .int (nI pre.length)), (3, .int ((-1))), (4, .int (nI (sCells s)))]) dX6_tries_212 rfl (by decide) (by decide) rfl ?_
          refine a_goto (pc := 215) (tgt := 62) dX6_tries_215 (by decide) ?_
          refine a_iload_n (pc := 62) (i := 3) dX6_tries_62 rfl rfl ?_
          refine a_if_lt (pc := 63) (tgt := 218) dX6_tries_63 (by decide) (fun c63 => ?_) (fun c63 => ?_)
          · skip
            exact a_return (pc := 218) dX6_tries_218 rfl (⟨rfl, hf, bc, ht, PU_end g hf2 (PU_mono hu (fun sd2 p2 n2 _ _ _ => Or.inl (Nat.zero_le _)))⟩)
          · exact absurd (by decide) c63
        have K1 : ∀ (H : AH) (bc : Option (List (Nat × Nat))), FrS k h H → TSt H k s pre bc → PU s pre f b bc (fun sd2 p2 n2 => 1 ≤ sd2) → AW X mX6_tries (d + 9) 0 0 212 [(0, .ref (aN k)), (1, .int (nI f)), (2, .int (nI pre.length)), (3, .int (nI 1)), (4, .int (nI (sCells s)))] [] H (Qu (fun h2 => FrS k h h2 ∧ ∃ b2, TSt h2 k s pre b2 ∧ PT s pre f b b2)) := by
          intro H bc hf ht hu
          refine n_idec (pc := 212) (ls' := [(0, .ref (aN k)), (1, .int (nI f)), (2, .int (nI pre.length)), (3, .int (nI (1 - 1))), (4, .int (nI (sCells s)))]) dX6_tries_212 rfl (by omega) (by decide) rfl ?_
          refine a_goto (pc := 215) (tgt := 62) dX6_tries_215 (by decide) ?_
          refine a_iload_n (pc := 62) (i := 3) dX6_tries_62 rfl rfl ?_
          refine n_if_lt (pc := 63) (tgt := 218) dX6_tries_63 (by decide) (by omega) ?_
          refine a_iconst (pc := 66) (v := nI 0) dX6_tries_66 (by decide) ?_
          refine a_istore (pc := 67) (i := 4) (ls' := [(0, .ref (aN k)), (1, .int (nI f)), (2, .int (nI pre.length)), (3, .int (nI (1 - 1))), (4, .int (nI 0))]) dX6_tries_67 (by decide) rfl ?_
          refine a_locs (ls' := [(0, .ref (aN k)), (1, .int (nI f)), (2, .int (nI pre.length)), (3, .int (nI 0)), (4, .int (nI 0))]) rfl ?_
          exact LP 0 (by omega) K0 (sCells s + 1) 0 H bc (by omega) hf ht (PU_mono hu (fun sd2 p2 n2 _ _ h3 => Or.inl (by omega))) (by omega)
        refine a_iconst (pc := 60) (v := nI 1) dX6_tries_60 (by decide) ?_
        refine a_istore_n (pc := 61) (i := 3) (ls' := [(0, .ref (aN k)), (1, .int (nI f)), (2, .int (nI pre.length)), (3, .int (nI 1))]) dX6_tries_61 rfl (by decide) rfl ?_
        refine a_iload_n (pc := 62) (i := 3) dX6_tries_62 rfl rfl ?_
        refine n_if_lt (pc := 63) (tgt := 218) dX6_tries_63 (by decide) (by omega) ?_
        refine a_iconst (pc := 66) (v := nI 0) dX6_tries_66 (by decide) ?_
        refine a_istore (pc := 67) (i := 4) (ls' := [(0, .ref (aN k)), (1, .int (nI f)), (2, .int (nI pre.length)), (3, .int (nI 1)), (4, .int (nI 0))]) dX6_tries_67 (by decide) rfl ?_
        exact LP 1 (by omega) K1 (sCells s + 1) 0 h b (by omega) FrS.refl t (PU_0 (fun sd2 p2 n2 h1 h2 h3 => by omega)) (by omega)
      · skip
        have e17 : sLen s = f := by omega
        refine a_aload_n (pc := 20) (i := 0) dX6_tries_20 rfl rfl ?_
        refine a_iload_n (pc := 21) (i := 2) dX6_tries_21 rfl rfl ?_
        refine g_vV1 (pc := 22) (as := [.int (nI pre.length)]) (b := aN k) (ci := 6) (v := .int (bi (aheadP pre.length (lenB b) (cds s pre) (bcs s b)))) (h' := h) dX6_tries_22 (lc_RX6_111 rfl) ceX6_isAhead kd_a pa (x_isAhead l (c := pre.length) (B := lenB b) (nc := cds s pre) (bc := bcs s b) (by omega) hlb t.1 (fun i hi => (t.2.2.1 i hi).1) (fun e i hi => (t.bst (by omega) e i hi).1) (fun i hi => (t.2.2.1 i hi).2) (fun e i hi => (t.bst (by omega) e i hi).2)) rfl rfl (Nat.le_of_ble_eq_true rfl) rfl ?_
        refine b_if_ne (pc := 25) (tgt := 29) dX6_tries_25 (by decide) (fun c25 => ?_) (fun c25 => ?_)
        · have ha : ahd s pre b := (ahd_iff (by omega)).mpr c25
          refine a_aload_n (pc := 29) (i := 0) dX6_tries_29 rfl rfl ?_
          refine a_iload_n (pc := 30) (i := 2) dX6_tries_30 rfl rfl ?_
          refine g_putI (pc := 31) (ci := 6) (k := 11) dX6_tries_31 (lf_RX6_108 rfl) (by decide) (Or.inl rfl) kd_a pa rfl ?_
          refine a_iconst (pc := 34) (v := nI 0) dX6_tries_34 (by decide) ?_
          refine a_istore_n (pc := 35) (i := 3) (ls' := [(0, .ref (aN k)), (1, .int (nI f)), (2, .int (nI pre.length)), (3, .int (nI 0))]) dX6_tries_35 rfl (by decide) rfl ?_
          have LP : ∀ (fu : Nat) (i : Nat) (H : AH), i ≤ pre.length → Fr [bstN k] (sI h (aN k) 11 (nI pre.length)) H → (∀ j, j < i → hI H (bstN k) j = nI (cds s pre j)) → pre.length - i < fu → AW X mX6_tries (d + 9) 0 0 36 [(0, .ref (aN k)), (1, .int (nI f)), (2, .int (nI pre.length)), (3, .int (nI i))] [] H (Qu (fun h2 => FrS k h h2 ∧ ∃ b2, TSt h2 k s pre b2 ∧ PT s pre f b b2)) := by
            intro fu
            induction fu with
            | zero => intro i H hi hf hb hz; exact absurd hz (Nat.not_lt_zero _)
            | succ fu ih =>
              intro i H hi hf hb hz
              have fs : FrS k h H := FrS.fI.trans (FrS.fb hf)
              have pb2 : prN (hN H) (bstN k) := by rw [hf.1]; exact pb
              have pn2 : prN (hN H) (nowN k) := by rw [hf.1]; exact pn
              have pa2 : prN (hN H) (aN k) := by rw [hf.1]; exact pa
              have en : hI H (nowN k) = hI h (nowN k) := by rw [(hf.2.2 (nowN k) (by simp; exact an_now.2.2)).1]; exact up2_row (Ne.symm an_now.1)
              refine a_iload_n (pc := 36) (i := 3) dX6_tries_36 rfl rfl ?_
              refine a_iload_n (pc := 37) (i := 2) dX6_tries_37 rfl rfl ?_
              refine n_icmp_ge (pc := 38) (tgt := 59) dX6_tries_38 (by decide) (by omega) (by omega) (fun c38 => ?_) (fun c38 => ?_)
              · have ei : i = pre.length := by omega
                refine a_return (pc := 59) dX6_tries_59 rfl (⟨rfl, fs, some pre, ⟨?_, ?_, fun i hi => by rw [en]; exact t.2.2.1 i hi, fun m hm => by cases hm; exact ⟨by omega, fun i hi => ⟨hb i (by omega), (t.2.2.1 i hi).2⟩⟩⟩, (by rw [← e17]; exact PT_end.1 ha)⟩)
                · rw [(hf.2.2 (aN k) (by simp; exact an_now.2.1)).1, hI_sI, if_pos ⟨rfl, rfl⟩]; rfl
                · rw [(hf.2.2 (aN k) (by simp; exact an_now.2.1)).2]; exact t.2.1
              · skip
                refine a_aload_n (pc := 41) (i := 0) dX6_tries_41 rfl rfl ?_
                refine g_getR (pc := 42) (ci := 6) (k := 10) (b := bstN k) dX6_tries_42 (lf_RX6_44 rfl) (by decide) rfl kd_a pa2 (by rw [hf.2.1]; exact r10) ?_
                refine a_iload_n (pc := 45) (i := 3) dX6_tries_45 rfl rfl ?_
                refine a_aload_n (pc := 46) (i := 0) dX6_tries_46 rfl rfl ?_
                refine g_getR (pc := 47) (ci := 6) (k := 9) (b := nowN k) dX6_tries_47 (lf_RX6_41 rfl) (by decide) rfl kd_a pa2 (by rw [hf.2.1]; exact r9) ?_
                refine a_iload_n (pc := 50) (i := 3) dX6_tries_50 rfl rfl ?_
                refine g_iald (pc := 51) (j := i) dX6_tries_51 kd_now pn2 rfl (by omega) ?_
                refine a_top (show (.int (hI H (nowN k) i) : Value) = .int (nI (cds s pre i)) from congrArg Value.int (by rw [en]; exact (t.2.2.1 i c38).1)) ?_
                refine g_iast (pc := 52) (j := i) dX6_tries_52 kd_bst pb2 rfl (by omega) ?_
                refine n_iinc (pc := 53) (k := 1) (ls' := [(0, .ref (aN k)), (1, .int (nI f)), (2, .int (nI pre.length)), (3, .int (nI (i + 1)))]) dX6_tries_53 rfl (by decide) (by decide) rfl ?_
                refine a_goto (pc := 56) (tgt := 36) dX6_tries_56 (by decide) ?_
                exact ih (i + 1) _ (by omega) (hf.sI (List.mem_singleton.mpr rfl)) (fun j hj => by
          rw [hI_sI]
          by_cases e : j = i
          · rw [if_pos ⟨rfl, e⟩, e]
          · rw [if_neg (fun z => e z.2)]; exact hb j (by omega)) (by omega)
          exact LP (pre.length + 1) 0 _ (by omega) Fr.refl (fun j hj => absurd hj (Nat.not_lt_zero j)) (by omega)
        · have ha : ¬ ahd s pre b := fun z => c25 ((ahd_iff (by omega)).mp z)
          exact a_return (pc := 28) dX6_tries_28 rfl (⟨rfl, FrS.refl, b, t, (by rw [← e17]; exact PT_end.2 ha)⟩)
    · skip
      exact a_return (pc := 8) dX6_tries_8 rfl (⟨rfl, FrS.refl, b, t, PT_cut (by omega) (by omega)⟩)
