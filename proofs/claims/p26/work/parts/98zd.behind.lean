/-! the law: behind a change -/
section RW98zd
variable {X : XT} {mt : MT} {d kc ks kc' ks' pc : Nat} {ls ls' : List (Nat × Value)} {st : List Value} {h : AH} {Q : Res → AH → Prop}
theorem e_VW {mt' : MT} {idx n mc ms b ci : Nat} {as stk : List Value} {R : Res → AH → Prop} (hd : decode (mB mt) pc = .ok (.invokevirtual idx, 3)) (hl : Cond.methodLink (mN mt).cls idx (mN mt') ∈ lw_tb2 ∧ Cond.instanceMethod (mN mt') ∈ lw_tb2 ∧ Cond.selects (cR ci) (mN mt') (mN mt') ∈ lw_tb2) (hce : CE mt' n) (hs : kdA b = some (.inl ci)) (hb : prN (hN h) b) (hc' : AC mt' d mc ms (.ref b :: as) h R) (hn : as.length = n) (hstk : stk = as.reverse ++ .ref b :: st) (hst : (st.map fun v => v.category).sum ≤ 8) (hnt : ∀ E h2, ¬ R (.inr E) h2) (e1 : kc' = kc + mc) (e2 : ks' = ks + ms) (hok : (∀ v h2, R (.inl v) h2 → hN h2 = hN h) ∨ ((∀ q ∈ ls, okd (hN h) q.2) ∧ ∀ v ∈ st, okd (hN h) v)) (kk : ∀ v h2, R (.inl v) h2 → AW X mt (d + 1) kc ks (pc + 3) ls (v.toList ++ st) h2 Q) : AW X mt (d + 1) kc' ks' pc ls stk h Q := by
  subst e1 e2
  exact g_callV hd hl hce hs hb hc' hn hstk hst hnt hok kk
theorem AW.mono (k : AW X mt d kc ks pc ls st h Q) (h1 : kc ≤ kc') (h2 : ks ≤ ks') : AW X mt d kc' ks' pc ls st h Q := a_room h1 h2 k
end RW98zd
theorem S66k_SK {k a : Nat} (z : S66k k a) : SK k a := z.elim (fun y => Or.inl (Nat.lt_of_lt_of_le y (by decide))) (fun y => Or.inr (Or.inl y))
theorem S66k_66 {k : Nat} : ¬ S66k k 66 := fun z => z.elim (fun y => absurd y (Nat.lt_irrefl 66)) (fun y => by have := SN_hi y; omega)
set_option maxHeartbeats 1500000 in
set_option maxRecDepth 100000 in
theorem lw_ag {X : XT} {nm : String} {hh : List (Nat × Nat × Nat × Nat)} {d i n k kb dn kc ks : Nat} (hi : i < 2) (hn18 : n < 18) (hdn : dn ≤ n) (hK : ∀ (H : AH) (t2 : ST) (dn2 : Nat) (K2 : Nat → Nat), dn2 ≤ n + 1 → LI H t2 k kb dn2 K2 → AW X (mLaw nm hh) (d + 105) kc ks 233 [(0, .ref 1000), (1, .int (nI 1)), (2, .int (nI i)), (3, .ref 0), (4, .ref 66), (5, .ref 67), (6, .ref (aN k)), (7, .ref (bfN kb)), (8, .int (nI dn2)), (9, .int (nI (n + 1)))] [] H QL) {H : AH} {t2 : ST} {dn2 : Nat} {K2 : Nat → Nat} (hd2 : dn2 ≤ n + 1) (li : LI H t2 k kb dn2 K2) : AW X (mLaw nm hh) (d + 105) (kc + 12) (ks + 72) 770 [(0, .ref 1000), (1, .int (nI 1)), (2, .int (nI i)), (3, .ref 0), (4, .ref 66), (5, .ref 67), (6, .ref (aN k)), (7, .ref (bfN kb)), (8, .int (nI dn2)), (9, .int (nI n))] [] H QL := by
  obtain ⟨m, hb, bz, l, b⟩ := li
  have hn := m.1.1.1
  refine a_iload_n (pc := 770) (i := 1) dL_law_770 rfl rfl ?_
  refine n_if_eq (pc := 771) (tgt := 787) dL_law_771 (by decide) (by omega) (fun c771 => ?_) (fun c771 => ?_)
  · skip
    exact absurd c771 (by decide)
  · skip
    refine a_aload_n (pc := 774) (i := 3) dL_law_774 rfl rfl ?_
    refine a_aload (pc := 775) (i := 6) dL_law_775 rfl ?_
    refine e_SW (pc := 777) (mc := 12) (ms := 72) (kc := kc) (ks := ks) (as := [.ref 0, .ref (aN k)]) dL_law_777 (lc_RL_186 rfl) ceL_agrees (w_agrees (d := d + 2) m l) rfl rfl (Nat.le_of_ble_eq_true rfl) (fun E h2 y => by cases y.1) rfl rfl (Or.inl (fun v h2 y => y.2.2.2.2)) (fun v2 H1 y => ?_)
    obtain ⟨ev, m2, l2, d2, e2⟩ := y
    cases ev
    refine n_if_eq (pc := 780) (tgt := 787) dL_law_780 (by decide) (by omega) (fun c780 => ?_) (fun c780 => ?_)
    · skip
      exact absurd c780 (by decide)
    · skip
      refine a_iconst (pc := 783) (v := nI 1) dL_law_783 (by decide) ?_
      refine a_goto (pc := 784) (tgt := 788) dL_law_784 (by decide) ?_
      refine a_istore_n (pc := 788) (i := 1) (ls' := [(0, .ref 1000), (1, .int (nI 1)), (2, .int (nI i)), (3, .ref 0), (4, .ref 66), (5, .ref 67), (6, .ref (aN k)), (7, .ref (bfN kb)), (8, .int (nI dn2)), (9, .int (nI n))]) dL_law_788 rfl (Nat.le_of_ble_eq_true rfl) rfl ?_
      refine n_iinc (pc := 789) (k := 1) (ls' := [(0, .ref 1000), (1, .int (nI 1)), (2, .int (nI i)), (3, .ref 0), (4, .ref 66), (5, .ref 67), (6, .ref (aN k)), (7, .ref (bfN kb)), (8, .int (nI dn2)), (9, .int (nI (n + 1)))]) dL_law_789 rfl (by first | decide | exact Nat.le_of_ble_eq_true rfl) (by first | decide | exact Nat.le_of_ble_eq_true rfl) rfl ?_
      refine a_goto (pc := 792) (tgt := 233) dL_law_792 (by decide) ?_
      exact hK H1 t2 dn2 K2 hd2 ⟨m2, hb, bz.dq hn d2 S66k_66, l2, b.dq d2 (fun a z => S66k_SK z)⟩
set_option maxHeartbeats 1500000 in
set_option maxRecDepth 100000 in
theorem lw_no {X : XT} {nm : String} {hh : List (Nat × Nat × Nat × Nat)} {d i n k kb dn kp kc ks : Nat} {K : Nat → Nat} (hi : i < 2) (hn18 : n < 18) (hdn : dn ≤ n) (hK : ∀ (H : AH) (t2 : ST) (dn2 : Nat) (K2 : Nat → Nat), dn2 ≤ n + 1 → LI H t2 k kb dn2 K2 → AW X (mLaw nm hh) (d + 105) kc ks 233 [(0, .ref 1000), (1, .int (nI 1)), (2, .int (nI i)), (3, .ref 0), (4, .ref 66), (5, .ref 67), (6, .ref (aN k)), (7, .ref (bfN kb)), (8, .int (nI dn2)), (9, .int (nI (n + 1)))] [] H QL) {H : AH} {t t2 : ST} (m : MJ H t t2 k kp kb dn K) (e : t2.2.2 = t.2.2) : AW X (mLaw nm hh) (d + 105) (kc + 12) (ks + 72) 729 [(0, .ref 1000), (1, .int (nI 1)), (2, .int (nI i)), (3, .ref 0), (4, .ref 66), (5, .ref 67), (6, .ref (aN k)), (7, .ref (bfN kb)), (8, .int (nI dn)), (9, .int (nI n)), (10, .ref (aN kp)), (11, .int (nI 0))] [] H QL := by
  refine a_iload (pc := 729) (i := 11) dL_law_729 rfl ?_
  refine n_if_eq (pc := 731) (tgt := 770) dL_law_731 (by decide) (by omega) (fun c731 => ?_) (fun c731 => ?_)
  · skip
    refine a_drop (ls' := [(0, .ref 1000), (1, .int (nI 1)), (2, .int (nI i)), (3, .ref 0), (4, .ref 66), (5, .ref 67), (6, .ref (aN k)), (7, .ref (bfN kb)), (8, .int (nI dn)), (9, .int (nI n))]) (by simp) ?_
    exact lw_ag hi hn18 hdn hK (by omega) ⟨m.1, m.2.1, m.2.2.1, m.2.2.2.1, m.2.2.2.2.1.st e⟩
  · skip
    first | exact absurd c731 (by decide) | exact absurd rfl c731
set_option maxHeartbeats 1500000 in
set_option maxRecDepth 100000 in
theorem lw_yes {X : XT} {nm : String} {hh : List (Nat × Nat × Nat × Nat)} {d i n k kb dn kp kc ks : Nat} {K : Nat → Nat} (hi : i < 2) (hn18 : n < 18) (hdn : dn ≤ n) (hK : ∀ (H : AH) (t2 : ST) (dn2 : Nat) (K2 : Nat → Nat), dn2 ≤ n + 1 → LI H t2 k kb dn2 K2 → AW X (mLaw nm hh) (d + 105) kc ks 233 [(0, .ref 1000), (1, .int (nI 1)), (2, .int (nI i)), (3, .ref 0), (4, .ref 66), (5, .ref 67), (6, .ref (aN k)), (7, .ref (bfN kb)), (8, .int (nI dn2)), (9, .int (nI (n + 1)))] [] H QL) {H : AH} {t t2 : ST} (mj : MJ H t t2 k kp kb dn K) (h8 : tN t ≤ 8) (e : t2.2.2 = (tRem t).2.2) : AW X (mLaw nm hh) (d + 105) (kc + 12) (ks + 72) 729 [(0, .ref 1000), (1, .int (nI 1)), (2, .int (nI i)), (3, .ref 0), (4, .ref 66), (5, .ref 67), (6, .ref (aN k)), (7, .ref (bfN kb)), (8, .int (nI dn)), (9, .int (nI n)), (10, .ref (aN kp)), (11, .int (nI 1))] [] H QL := by
  obtain ⟨im, hb, bz, l, o⟩ := id mj
  have hn := im.1.1.1
  have h8 : tN t ≤ 8 := h8
  have LQ : ∀ (fu m : Nat) (G : AH), m ≤ 8 → shf H kb m G → m < fu → AW X (mLaw nm hh) (d + 105) (kc + 12) (ks + 72) 738 [(0, .ref 1000), (1, .int (nI 1)), (2, .int (nI i)), (3, .ref 0), (4, .ref 66), (5, .ref 67), (6, .ref (aN k)), (7, .ref (bfN kb)), (8, .int (nI dn)), (9, .int (nI n)), (10, .ref (aN kp)), (11, .int (nI 1)), (12, .int (nI m))] [] G QL := by
    intro fu
    induction fu with
    | zero => intro m G hm s hz; exact absurd hz (Nat.not_lt_zero _)
    | succ fu ih =>
      intro m G hm s hz
      have hnG : 68 ≤ hN G := s.1.1.1
      refine a_iload (pc := 738) (i := 12) dL_law_738 rfl ?_
      refine n_if_le (pc := 740) (tgt := 761) dL_law_740 (by decide) (by omega) (fun c740 => ?_) (fun c740 => ?_)
      · skip
        obtain rfl : m = 0 := by omega
        refine a_aload (pc := 761) (i := 7) dL_law_761 rfl ?_
        refine a_iconst (pc := 763) (v := nI 0) dL_law_763 (by decide) ?_
        refine a_aload (pc := 764) (i := 10) dL_law_764 rfl ?_
        refine g_aasto (pc := 766) (t := 7) (n := 9) (j := 0) (b := aN kp) (ci := 6) dL_law_766 kd_bf (Or.inr (Or.inr ⟨rfl, rfl⟩)) (s.1.2.1 _ o.1.1) rfl (by omega) kd_a (s.1.2.1 _ o.2.1.1.1.2.1) ?_
        refine n_iinc (pc := 767) (k := 1) (ls' := [(0, .ref 1000), (1, .int (nI 1)), (2, .int (nI i)), (3, .ref 0), (4, .ref 66), (5, .ref 67), (6, .ref (aN k)), (7, .ref (bfN kb)), (8, .int (nI (dn + 1))), (9, .int (nI n)), (10, .ref (aN kp)), (11, .int (nI 1)), (12, .int (nI 0))]) dL_law_767 rfl (by first | decide | exact Nat.le_of_ble_eq_true rfl) (by first | decide | exact Nat.le_of_ble_eq_true rfl) rfl ?_
        refine a_drop (ls' := [(0, .ref 1000), (1, .int (nI 1)), (2, .int (nI i)), (3, .ref 0), (4, .ref 66), (5, .ref 67), (6, .ref (aN k)), (7, .ref (bfN kb)), (8, .int (nI (dn + 1))), (9, .int (nI n))]) (by simp) ?_
        have d9 : Dq (fun a => a = bfN kb) 0 H (sR G (bfN kb) 0 (some (aN kp))) := s.1.sR (Or.inl rfl)
        have b9 := BFs.push o h8 e d9 (fun j hj => by rw [hR_sR]; by_cases z : j = 0; rw [if_pos ⟨rfl, z⟩, if_pos z]; rw [if_neg (fun y => z y.2), if_neg z, s.2.2 j hj, if_pos (by omega)])
        exact lw_ag hi hn18 hdn hK (by omega) (LI.of im hb bz l d9 b9)
      · skip
        obtain ⟨m, rfl⟩ : ∃ m2, m = m2 + 1 := ⟨m - 1, by omega⟩
        refine a_aload (pc := 743) (i := 7) dL_law_743 rfl ?_
        refine a_iload (pc := 745) (i := 12) dL_law_745 rfl ?_
        refine a_aload (pc := 747) (i := 7) dL_law_747 rfl ?_
        refine a_iload (pc := 749) (i := 12) dL_law_749 rfl ?_
        refine a_iconst (pc := 751) (v := nI 1) dL_law_751 (by decide) ?_
        refine n_isub (pc := 752) dL_law_752 (by omega) ?_
        refine a_top (show (.int (nI ((m + 1) - 1)) : Value) = .int (nI m) from rfl) ?_
        have em : hR G (bfN kb) m = hR H (bfN kb) m := by rw [s.2.2 m (by omega), if_neg (by omega)]
        rcases o.1.2.1 m (by omega) with z | ⟨q, z, pq⟩
        · skip
          refine g_aald0 (pc := 753) (t := 7) (n := 9) (j := m) dL_law_753 kd_bf (Or.inr (Or.inr rfl)) (s.1.2.1 _ o.1.1) rfl (by omega) (em.trans z) ?_
          refine g_aast0 (pc := 754) (t := 7) (n := 9) (j := m + 1) dL_law_754 kd_bf (Or.inr (Or.inr rfl)) (s.1.2.1 _ o.1.1) rfl (by omega) ?_
          refine n_idec (pc := 755) (ls' := [(0, .ref 1000), (1, .int (nI 1)), (2, .int (nI i)), (3, .ref 0), (4, .ref 66), (5, .ref 67), (6, .ref (aN k)), (7, .ref (bfN kb)), (8, .int (nI dn)), (9, .int (nI n)), (10, .ref (aN kp)), (11, .int (nI 1)), (12, .int (nI ((m + 1) - 1)))]) dL_law_755 rfl (by omega) (Nat.le_of_ble_eq_true rfl) rfl ?_
          refine a_goto (pc := 758) (tgt := 738) dL_law_758 (by decide) ?_
          exact ih m _ (by omega) (shf_s s (by omega) ((em.trans z).symm)) (by omega)
        · skip
          refine g_aaldo (pc := 753) (t := 7) (n := 9) (j := m) (b := aN q) dL_law_753 kd_bf (Or.inr (Or.inr rfl)) (s.1.2.1 _ o.1.1) rfl (by omega) (em.trans z) ?_
          refine g_aasto (pc := 754) (t := 7) (n := 9) (j := m + 1) (b := aN q) (ci := 6) dL_law_754 kd_bf (Or.inr (Or.inr ⟨rfl, rfl⟩)) (s.1.2.1 _ o.1.1) rfl (by omega) kd_a (s.1.2.1 _ pq) ?_
          refine n_idec (pc := 755) (ls' := [(0, .ref 1000), (1, .int (nI 1)), (2, .int (nI i)), (3, .ref 0), (4, .ref 66), (5, .ref 67), (6, .ref (aN k)), (7, .ref (bfN kb)), (8, .int (nI dn)), (9, .int (nI n)), (10, .ref (aN kp)), (11, .int (nI 1)), (12, .int (nI ((m + 1) - 1)))]) dL_law_755 rfl (by omega) (Nat.le_of_ble_eq_true rfl) rfl ?_
          refine a_goto (pc := 758) (tgt := 738) dL_law_758 (by decide) ?_
          exact ih m _ (by omega) (shf_s s (by omega) ((em.trans z).symm)) (by omega)
  refine a_iload (pc := 729) (i := 11) dL_law_729 rfl ?_
  refine n_if_eq (pc := 731) (tgt := 770) dL_law_731 (by decide) (by omega) (fun c731 => ?_) (fun c731 => ?_)
  · skip
    exact absurd c731 (by decide)
  · skip
    refine a_bipush (pc := 734) (v := nI 8) dL_law_734 (by decide) ?_
    refine a_istore (pc := 736) (i := 12) (ls' := [(0, .ref 1000), (1, .int (nI 1)), (2, .int (nI i)), (3, .ref 0), (4, .ref 66), (5, .ref 67), (6, .ref (aN k)), (7, .ref (bfN kb)), (8, .int (nI dn)), (9, .int (nI n)), (10, .ref (aN kp)), (11, .int (nI 1)), (12, .int (nI 8))]) dL_law_736 (Nat.le_of_ble_eq_true rfl) rfl ?_
    exact LQ 9 8 H (Nat.le_refl _) (shf_0 hn) (by omega)
