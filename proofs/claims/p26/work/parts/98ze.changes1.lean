/-! the law: the changes -/
theorem MJ.ch {S : Nat → Prop} {c k kp kb dn : Nat} {H H1 H2 : AH} {t t3 : ST} {K : Nat → Nat} (m : MJ H t t k kp kb dn K) (dA : Dq S c H H1) (hs : ∀ a, S a → SK k a ∧ 68 ≤ a) (m3 : IM H2 t3) (f : Fw H1 H2) (hb : tB t3 = 0) (l1 : LW H1 k 6 (tC t3)) : MJ H2 t t3 k kp kb dn K := by
  have hn1 := dA.1.1
  have d := f.dq hn1
  have h68 : ∀ a : Nat, a < 66 → S68 a := fun a z => by show a < 68; omega
  exact ⟨m3, hb, (m.2.2.1.dq m.n68 dA (fun z => absurd (hs 66 z).2 (by omega))).dq hn1 d (by omega), l1.dq d okS_66 (fun z => nm_68 (h68 _ z)) (fun z => nm_68 (h68 _ z)), (m.2.2.2.2.dq dA (fun a z => (hs a z).1)).dq d (fun a z => Or.inl (h68 a z))⟩
theorem MJ.im {S : Nat → Prop} {c k kp kb dn : Nat} {H H1 : AH} {t : ST} {K : Nat → Nat} (m : MJ H t t k kp kb dn K) (dA : Dq S c H H1) (hs : ∀ a, S a → SK k a ∧ 68 ≤ a) : IM H1 t := m.1.dq dA (fun a z => by have := (hs a z).2; omega)
theorem SK_own {k a : Nat} (z : a = aN k) : SK k a ∧ 68 ≤ a := by
  subst z
  exact ⟨Or.inr (Or.inl (Or.inl rfl)), nm_hi⟩
theorem SK_gon {k a : Nat} {s : SH} (hc : sCells s ≤ 12) (z : a = gonN k 6 s) : SK k a ∧ 68 ≤ a := by
  subst z
  exact ⟨Or.inr (Or.inr ⟨sCells s, hc, rfl⟩), nm_hi⟩
theorem SK_SG {k a : Nat} {s : SH} (hc : sCells s ≤ 12) (z : SG k 6 s a) : SK k a ∧ 68 ≤ a := z.elim SK_own (SK_gon hc)
theorem SK_SN {k a : Nat} (z : SN k a) : SK k a ∧ 68 ≤ a := ⟨Or.inr (Or.inl z), SN_hi z⟩
set_option maxHeartbeats 1500000 in
set_option maxRecDepth 100000 in
theorem lw_c0 {X : XT} {nm : String} {hh : List (Nat × Nat × Nat × Nat)} {d i n k kp kb dn kc ks : Nat} {K : Nat → Nat} {t : ST} (hY : ∀ (H : AH) (t2 : ST), MJ H t t2 k kp kb dn K → t2.2.2 = (tRem t).2.2 → AW X (mLaw nm hh) (d + 105) kc ks 729 [(0, .ref 1000), (1, .int (nI 1)), (2, .int (nI i)), (3, .ref 0), (4, .ref 66), (5, .ref 67), (6, .ref (aN k)), (7, .ref (bfN kb)), (8, .int (nI dn)), (9, .int (nI n)), (10, .ref (aN kp)), (11, .int (nI 1))] [] H QL) {H : AH} (m : MJ H t t k kp kb dn K) : AW X (mLaw nm hh) (d + 105) (kc + 37) (ks + 366) 296 [(0, .ref 1000), (1, .int (nI 1)), (2, .int (nI i)), (3, .ref 0), (4, .ref 66), (5, .ref 67), (6, .ref (aN k)), (7, .ref (bfN kb)), (8, .int (nI dn)), (9, .int (nI n)), (10, .ref (aN kp)), (11, .int (nI 1))] [] H QL := by
  refine a_aload (pc := 296) (i := 6) dL_law_296 rfl ?_
  refine a_aload (pc := 298) (i := 5) dL_law_298 rfl ?_
  refine e_SW (pc := 300) (mc := 36) (ms := 360) (kc := kc + 1) (ks := ks + 6) (as := [.ref 67]) dL_law_300 (lc_RL_214 rfl) ceL_randomWord (w_randomWord (d := d + 98) m.n68) rfl rfl (Nat.le_of_ble_eq_true rfl) (fun E h2 y => by obtain ⟨b, U, y, -⟩ := y; cases y) (by omega) (by omega) (Or.inr ⟨(okc (okd_x (by unfold ext; omega)) (okc okd_i (okc okd_i (okc (okd_r (prN_st (Nat.lt_of_lt_of_le (by decide) m.n68) (by decide))) (okc (okd_r (prN_st (Nat.lt_of_lt_of_le (by decide) m.n68) (by decide))) (okc (okd_r (prN_st (Nat.lt_of_lt_of_le (by decide) m.n68) (by decide))) (okc (okd_r m.2.2.2.1.1.2.1) (okc (okd_r m.2.2.2.2.1.1) (okc okd_i (okc okd_i (okc (okd_r m.2.2.2.2.2.1.1.1.2.1) (okc okd_i okz)))))))))))), (okc (okd_r m.2.2.2.1.1.2.1) okz)⟩) (fun v2 H1 y => ?_)
  obtain ⟨b, U, ev, sta, hl, hU, c, dq⟩ := y
  cases ev
  have m1 := m.dq dq (fun a z => z)
  obtain ⟨v, sw⟩ := sta.2.resolve_right (fun z => by rw [z] at hl; exact absurd hl.1 (by decide))
  refine g_putR (pc := 303) (ci := 6) (k := 6) (b := b) dL_law_303 (lf_RL_174 rfl) (by decide) rfl kd_a m1.2.2.2.1.1.2.1 (Or.inl sw.1.2) (Or.inl rfl) ?_
  obtain ⟨H2, hH2⟩ : ∃ Hx, Hx = sR H1 (aN k) 6 (some b) := ⟨_, rfl⟩
  refine a_heap (h' := H2) hH2.symm ?_
  have dA : Dq (fun a => a = aN k) 0 H1 H2 := by rw [hH2]; exact (Dq.refl m1.n68 : Dq (fun a => a = aN k) 0 H1 H1).sR (Or.inl rfl)
  have im2 := m1.im dA (fun a z => SK_own z)
  have bz2 := m1.2.2.1.dq m1.n68 dA (fun z => absurd (SK_own z).2 (by omega))
  have sr2 : STR H2 b U := sta.1.dq dA okS_a.str
  have r6 : hR H2 (aN k) 6 = some b := by rw [hH2, hR_sR, if_pos ⟨rfl, rfl⟩]
  refine a_aload_n (pc := 306) (i := 3) dL_law_306 rfl rfl ?_
  refine a_aload (pc := 307) (i := 4) dL_law_307 rfl ?_
  refine a_aload (pc := 309) (i := 6) dL_law_309 rfl ?_
  refine g_getR (pc := 311) (ci := 6) (k := 6) (b := b) dL_law_311 (lf_RL_174 rfl) (by decide) rfl kd_a (dA.2.1 _ m1.2.2.2.1.1.2.1) r6 ?_
  refine e_SW (pc := 314) (mc := 1) (ms := 6) (kc := kc) (ks := ks) (as := [.ref 0, .ref 66, .ref b]) dL_law_314 (lc_RL_218 rfl) ceL_tellText (w_tellText (d := d) im2 m1.2.1 bz2 sr2 hl hU) rfl rfl (Nat.le_of_ble_eq_true rfl) (fun E h2 y => by obtain ⟨t2, y, -⟩ := y; cases y) (by omega) (by omega) (Or.inl (fun v h2 y => by obtain ⟨t2, -, -, -, -, -, -, -, y⟩ := y; exact y)) (fun v2 H3 y => ?_)
  obtain ⟨t2, ev2, im3, hb3, bz3, ⟨Y, eY, hY2⟩, ep, dq3, eN3⟩ := y
  cases ev2
  have l2 : LW H2 k 6 (msOf (tC t) U.length Y) := by rw [hH2]; exact LW_msg m1.2.2.2.1 sta.1 hl.2 hU hY2
  have l3 : LW H3 k 6 (tC t2) := by rw [eY]; exact l2.dq dq3 okS_67 (fun z => nm_68 (S67_68 z)) (fun z => nm_68 (S67_68 z))
  have o3 := (m1.2.2.2.2.dq dA (fun a z => (SK_own z).1)).dq dq3 (fun a z => Or.inl (S67_68 z))
  have m3 : MJ H3 t t2 k kp kb dn K := ⟨im3, hb3, bz3, l3, o3⟩
  refine a_aload (pc := 317) (i := 6) dL_law_317 rfl ?_
  refine g_vV1 (pc := 319) (as := []) (b := aN k) (ci := 6) (v := .int (nI (nMiss (tC t2)))) (h' := H3) dL_law_319 (lc_RL_222 rfl) ceX6_missing kd_a m3.2.2.2.1.1.2.1 (x_missing (d := d + 97) l3 l3.1.1.2.2.2) rfl rfl (Nat.le_of_ble_eq_true rfl) rfl ?_
  refine a_icmp_ne (pc := 322) (tgt := 329) dL_law_322 (by decide) (fun c322 => ?_) (fun c322 => ?_)
  · skip
    exact absurd rfl c322
  · skip
    refine a_iconst (pc := 325) (v := nI 1) dL_law_325 (by decide) ?_
    refine a_goto (pc := 326) (tgt := 330) dL_law_326 (by decide) ?_
    refine a_istore_n (pc := 330) (i := 1) (ls' := [(0, .ref 1000), (1, .int (nI 1)), (2, .int (nI i)), (3, .ref 0), (4, .ref 66), (5, .ref 67), (6, .ref (aN k)), (7, .ref (bfN kb)), (8, .int (nI dn)), (9, .int (nI n)), (10, .ref (aN kp)), (11, .int (nI 1))]) dL_law_330 rfl (Nat.le_of_ble_eq_true rfl) rfl ?_
    refine a_goto (pc := 331) (tgt := 729) dL_law_331 (by decide) ?_
    exact hY _ t2 m3 ep
set_option maxHeartbeats 1500000 in
set_option maxRecDepth 100000 in
theorem lw_c4 {X : XT} {nm : String} {hh : List (Nat × Nat × Nat × Nat)} {d i n k kp kb dn kc ks : Nat} {K : Nat → Nat} {t : ST} (hY : ∀ (H : AH) (t2 : ST), MJ H t t2 k kp kb dn K → t2.2.2 = (tRem t).2.2 → AW X (mLaw nm hh) (d + 105) kc ks 729 [(0, .ref 1000), (1, .int (nI 1)), (2, .int (nI i)), (3, .ref 0), (4, .ref 66), (5, .ref 67), (6, .ref (aN k)), (7, .ref (bfN kb)), (8, .int (nI dn)), (9, .int (nI n)), (10, .ref (aN kp)), (11, .int (nI 1))] [] H QL) (hZ : ∀ (H : AH) (t2 : ST), MJ H t t2 k kp kb dn K → t2.2.2 = t.2.2 → AW X (mLaw nm hh) (d + 105) kc ks 729 [(0, .ref 1000), (1, .int (nI 1)), (2, .int (nI i)), (3, .ref 0), (4, .ref 66), (5, .ref 67), (6, .ref (aN k)), (7, .ref (bfN kb)), (8, .int (nI dn)), (9, .int (nI n)), (10, .ref (aN kp)), (11, .int (nI 0))] [] H QL) {H : AH} (m : MJ H t t k kp kb dn K) : AW X (mLaw nm hh) (d + 105) (kc + 1) (ks + 6) 559 [(0, .ref 1000), (1, .int (nI 1)), (2, .int (nI i)), (3, .ref 0), (4, .ref 66), (5, .ref 67), (6, .ref (aN k)), (7, .ref (bfN kb)), (8, .int (nI dn)), (9, .int (nI n)), (10, .ref (aN kp)), (11, .int (nI 1))] [] H QL := by
  refine a_aload (pc := 559) (i := 5) dL_law_559 rfl ?_
  refine a_iconst (pc := 561) (v := nI 5) dL_law_561 (by decide) ?_
  refine g_wV (pc := 562) (as := [.int (nI 5)]) (b := 67) (ci := 5) dL_law_562 (lc_RL_98 rfl) ceX5_below k67 (prN_st (Nat.lt_of_lt_of_le (by decide) m.n68) (by decide)) (x_below (d := d + 104) m.n68 (by omega)) rfl rfl (Nat.le_of_ble_eq_true rfl) (fun E h2 y => by obtain ⟨n, x, -, y, -⟩ := y; cases y) (fun v2 h2 y => by obtain ⟨n, x, -, -, y⟩ := y; rw [y]; rfl) (fun v2 hx y => ?_)
  obtain ⟨q0, x0, hq0, evq0, rfl⟩ := y
  cases evq0
  have m1 := m.bel (x := x0)
  obtain ⟨H1, hH1⟩ : ∃ Hx, Hx = sI H 67 0 x0 := ⟨_, rfl⟩
  refine a_heap (h' := H1) hH1.symm ?_
  rw [← hH1] at m1
  have l := m1.2.2.2.1
  refine a_istore (pc := 565) (i := 17) (ls' := [(0, .ref 1000), (1, .int (nI 1)), (2, .int (nI i)), (3, .ref 0), (4, .ref 66), (5, .ref 67), (6, .ref (aN k)), (7, .ref (bfN kb)), (8, .int (nI dn)), (9, .int (nI n)), (10, .ref (aN kp)), (11, .int (nI 1)), (17, .int (nI q0))]) dL_law_565 (Nat.le_of_ble_eq_true rfl) rfl ?_
  refine a_iload (pc := 567) (i := 17) dL_law_567 rfl ?_
  refine n_if_le (pc := 569) (tgt := 576) dL_law_569 (by decide) (by omega) (fun c569 => ?_) (fun c569 => ?_)
  · skip
    refine a_iconst (pc := 576) (v := nI 0) dL_law_576 (by decide) ?_
    refine a_istore (pc := 577) (i := 11) (ls' := [(0, .ref 1000), (1, .int (nI 1)), (2, .int (nI i)), (3, .ref 0), (4, .ref 66), (5, .ref 67), (6, .ref (aN k)), (7, .ref (bfN kb)), (8, .int (nI dn)), (9, .int (nI n)), (10, .ref (aN kp)), (11, .int (nI 0)), (17, .int (nI q0))]) dL_law_577 (Nat.le_of_ble_eq_true rfl) rfl ?_
    refine a_aload (pc := 579) (i := 6) dL_law_579 rfl ?_
    refine g_getI (pc := 581) (ci := 6) (k := 4) dL_law_581 (lf_RL_154 rfl) (by decide) rfl kd_a m1.2.2.2.1.1.2.1 ?_
    refine a_top (show (.int (hI H1 (aN k) 4) : Value) = .int (nI (sS (tC t))) from congrArg Value.int l.2.1.2.2.1) ?_
    refine a_istore (pc := 584) (i := 18) (ls' := [(0, .ref 1000), (1, .int (nI 1)), (2, .int (nI i)), (3, .ref 0), (4, .ref 66), (5, .ref 67), (6, .ref (aN k)), (7, .ref (bfN kb)), (8, .int (nI dn)), (9, .int (nI n)), (10, .ref (aN kp)), (11, .int (nI 0)), (17, .int (nI q0)), (18, .int (nI (sS (tC t))))]) dL_law_584 (Nat.le_of_ble_eq_true rfl) rfl ?_
    refine a_iload (pc := 586) (i := 11) dL_law_586 rfl ?_
    refine n_if_eq (pc := 588) (tgt := 598) dL_law_588 (by decide) (by omega) (fun c588 => ?_) (fun c588 => ?_)
    · skip
      refine a_aload_n (pc := 598) (i := 3) dL_law_598 rfl rfl ?_
      refine a_iload (pc := 599) (i := 17) dL_law_599 rfl ?_
      refine g_pX (pc := 601) (kc := kc) (ks := ks) (as := [.ref 0, .int (nI q0)]) dL_law_601 (lc_RL_202 rfl) ceL_least (sL_least (d := d + 3) m1.1) rfl rfl (Nat.le_of_ble_eq_true rfl) (by omega) (by omega) (fun H3 im3 f3 => ?_)
      have eo := ol_no (t := t) (n := q0) (Or.inl (by omega))
      rw [eo] at im3 ⊢
      have m3 := m1.fw im3 f3 m1.2.1 l
      refine a_top (show (.int (wn (.inr eIA)) : Value) = .int ((-2000000098)) from congrArg Value.int wn_E.2.1) ?_
      refine a_iload (pc := 604) (i := 11) dL_law_604 rfl ?_
      refine n_if_eq (pc := 606) (tgt := 614) dL_law_606 (by decide) (by omega) (fun c606 => ?_) (fun c606 => ?_)
      · skip
        refine a_ldc (pc := 614) (v := (-2000000098)) dL_law_614 (li_RL_42 rfl) ?_
        refine a_icmp_ne (pc := 616) (tgt := 623) dL_law_616 (by decide) (fun c616 => ?_) (fun c616 => ?_)
        · skip
          exact absurd rfl c616
        · skip
          refine a_iconst (pc := 619) (v := nI 1) dL_law_619 (by decide) ?_
          refine a_goto (pc := 620) (tgt := 624) dL_law_620 (by decide) ?_
          refine a_istore_n (pc := 624) (i := 1) (ls' := [(0, .ref 1000), (1, .int (nI 1)), (2, .int (nI i)), (3, .ref 0), (4, .ref 66), (5, .ref 67), (6, .ref (aN k)), (7, .ref (bfN kb)), (8, .int (nI dn)), (9, .int (nI n)), (10, .ref (aN kp)), (11, .int (nI 0)), (17, .int (nI q0)), (18, .int (nI (sS (tC t))))]) dL_law_624 rfl (Nat.le_of_ble_eq_true rfl) rfl ?_
          refine a_goto (pc := 625) (tgt := 729) dL_law_625 (by decide) ?_
          refine a_drop (ls' := [(0, .ref 1000), (1, .int (nI 1)), (2, .int (nI i)), (3, .ref 0), (4, .ref 66), (5, .ref 67), (6, .ref (aN k)), (7, .ref (bfN kb)), (8, .int (nI dn)), (9, .int (nI n)), (10, .ref (aN kp)), (11, .int (nI 0))]) (by simp) ?_
          exact hZ _ _ m3 rfl
      · skip
        first | exact absurd c606 (by decide) | exact absurd rfl c606
    · skip
      first | exact absurd c588 (by decide) | exact absurd rfl c588
  · skip
    refine a_iconst (pc := 572) (v := nI 1) dL_law_572 (by decide) ?_
    refine a_goto (pc := 573) (tgt := 577) dL_law_573 (by decide) ?_
    refine a_istore (pc := 577) (i := 11) (ls' := [(0, .ref 1000), (1, .int (nI 1)), (2, .int (nI i)), (3, .ref 0), (4, .ref 66), (5, .ref 67), (6, .ref (aN k)), (7, .ref (bfN kb)), (8, .int (nI dn)), (9, .int (nI n)), (10, .ref (aN kp)), (11, .int (nI 1)), (17, .int (nI q0))]) dL_law_577 (Nat.le_of_ble_eq_true rfl) rfl ?_
    refine a_aload (pc := 579) (i := 6) dL_law_579 rfl ?_
    refine g_getI (pc := 581) (ci := 6) (k := 4) dL_law_581 (lf_RL_154 rfl) (by decide) rfl kd_a m1.2.2.2.1.1.2.1 ?_
    refine a_top (show (.int (hI H1 (aN k) 4) : Value) = .int (nI (sS (tC t))) from congrArg Value.int l.2.1.2.2.1) ?_
    refine a_istore (pc := 584) (i := 18) (ls' := [(0, .ref 1000), (1, .int (nI 1)), (2, .int (nI i)), (3, .ref 0), (4, .ref 66), (5, .ref 67), (6, .ref (aN k)), (7, .ref (bfN kb)), (8, .int (nI dn)), (9, .int (nI n)), (10, .ref (aN kp)), (11, .int (nI 1)), (17, .int (nI q0)), (18, .int (nI (sS (tC t))))]) dL_law_584 (Nat.le_of_ble_eq_true rfl) rfl ?_
    refine a_iload (pc := 586) (i := 11) dL_law_586 rfl ?_
    refine n_if_eq (pc := 588) (tgt := 598) dL_law_588 (by decide) (by omega) (fun c588 => ?_) (fun c588 => ?_)
    · skip
      exact absurd c588 (by decide)
    · skip
      refine a_aload (pc := 591) (i := 6) dL_law_591 rfl ?_
      refine a_iload (pc := 593) (i := 17) dL_law_593 rfl ?_
      refine g_putI (pc := 595) (ci := 6) (k := 4) dL_law_595 (lf_RL_154 rfl) (by decide) (Or.inl rfl) kd_a m1.2.2.2.1.1.2.1 rfl ?_
      obtain ⟨H2, hH2⟩ : ∃ Hx, Hx = sI H1 (aN k) 4 (nI q0) := ⟨_, rfl⟩
      refine a_heap (h' := H2) hH2.symm ?_
      have dA : Dq (fun a => a = aN k) 0 H1 H2 := by rw [hH2]; exact (Dq.refl m1.n68 : Dq (fun a => a = aN k) 0 H1 H1).sI (Or.inl rfl)
      have im2 := m1.im dA (fun a z => SK_own z)
      have l2 : LW H2 k 6 (withS (tC t) q0) := by rw [hH2]; exact LW_least l ⟨by omega, by omega⟩
      refine a_aload_n (pc := 598) (i := 3) dL_law_598 rfl rfl ?_
      refine a_iload (pc := 599) (i := 17) dL_law_599 rfl ?_
      refine g_pX (pc := 601) (kc := kc) (ks := ks) (as := [.ref 0, .int (nI q0)]) dL_law_601 (lc_RL_202 rfl) ceL_least (sL_least (d := d + 3) im2) rfl rfl (Nat.le_of_ble_eq_true rfl) (by omega) (by omega) (fun H3 im3 f3 => ?_)
      have eo := ol_yes (t := t) (n := q0) ⟨by omega, by omega⟩
      rw [eo] at im3 ⊢
      have m3 := m1.ch dA (fun a z => SK_own z) im3 f3 ((tRem_b t).1.trans m1.2.1) l2
      refine a_iload (pc := 604) (i := 11) dL_law_604 rfl ?_
      refine n_if_eq (pc := 606) (tgt := 614) dL_law_606 (by decide) (by omega) (fun c606 => ?_) (fun c606 => ?_)
      · skip
        exact absurd c606 (by decide)
      · skip
        refine a_iload (pc := 609) (i := 18) dL_law_609 rfl ?_
        refine a_goto (pc := 611) (tgt := 616) dL_law_611 (by decide) ?_
        refine a_icmp_ne (pc := 616) (tgt := 623) dL_law_616 (by decide) (fun c616 => ?_) (fun c616 => ?_)
        · skip
          exact absurd rfl c616
        · skip
          refine a_iconst (pc := 619) (v := nI 1) dL_law_619 (by decide) ?_
          refine a_goto (pc := 620) (tgt := 624) dL_law_620 (by decide) ?_
          refine a_istore_n (pc := 624) (i := 1) (ls' := [(0, .ref 1000), (1, .int (nI 1)), (2, .int (nI i)), (3, .ref 0), (4, .ref 66), (5, .ref 67), (6, .ref (aN k)), (7, .ref (bfN kb)), (8, .int (nI dn)), (9, .int (nI n)), (10, .ref (aN kp)), (11, .int (nI 1)), (17, .int (nI q0)), (18, .int (nI (sS (tC t))))]) dL_law_624 rfl (Nat.le_of_ble_eq_true rfl) rfl ?_
          refine a_goto (pc := 625) (tgt := 729) dL_law_625 (by decide) ?_
          refine a_drop (ls' := [(0, .ref 1000), (1, .int (nI 1)), (2, .int (nI i)), (3, .ref 0), (4, .ref 66), (5, .ref 67), (6, .ref (aN k)), (7, .ref (bfN kb)), (8, .int (nI dn)), (9, .int (nI n)), (10, .ref (aN kp)), (11, .int (nI 1))]) (by simp) ?_
          exact hY _ _ m3 rfl
