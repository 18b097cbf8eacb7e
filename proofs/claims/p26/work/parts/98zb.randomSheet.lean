/-! randomSheet -/
theorem Dq.sub {S S2 : Nat → Prop} {c : Nat} {h h2 : AH} (f : Dq S c h h2) (hs : ∀ a, S a → S2 a ∨ ¬ prN (hN h) a) : Dq S2 c h h2 := ⟨f.1, f.2.1, fun a ha hn => f.2.2 a ha (fun z => (hs a z).elim hn (fun y => y ha))⟩
set_option maxHeartbeats 1500000 in
set_option maxRecDepth 100000 in
theorem w_randomSheet {d k : Nat} {h : AH} {t0 : ST} (m : IM h t0) (hb : tB t0 = 0) (bz : BZ h) (hk : dl (hN h) = k) : AC mL_randomSheet (d + 104) 110 1100 [.ref 0, .ref 66, .ref 67] h (QRs t0 k h) := by
  have hn := m.1.1.1
  refine AC.of (by decide) rfl (Nat.le_of_ble_eq_true rfl) (fun X => ?_)
  show AW X mL_randomSheet (d + 104) 110 1100 0 [(0, .ref 0), (1, .ref 66), (2, .ref 67)] [] h (QRs t0 k h)
  refine a_wf (fun hw => ?_)
  have nA : newC (hN h) (aN k) k 6 := newC_0 hn hk (by decide)
  have noA := (nA.no hw.1).1
  have nw0 : ∀ i q, q < 1024 → ¬ prN (hN h) (nm (k + i) q) := fun i q hq => nm_new2 hw.1 (by omega) hq
  refine a_room (kc' := 109 + 1) (ks' := 1087 + 13) (by omega) (by omega) ?_
  refine d_new (pc := 0) (ci := 6) (kc := 109) (ks := 1087) dL_randomSheet_0 (by decide) nA (tbi 262 (by decide +kernel)) (tbi 263 (by decide +kernel)) (tbi 8 (by decide +kernel)) (okc (okd_r (prN_st (Nat.lt_of_lt_of_le (by decide) hn) (by decide))) (okc (okd_r (prN_st (Nat.lt_of_lt_of_le (by decide) hn) (by decide))) (okc (okd_r (prN_st (Nat.lt_of_lt_of_le (by decide) hn) (by decide))) okz))) okz ?_
  refine a_dup (pc := 3) dL_randomSheet_3 rfl ?_
  refine e_IUN (pc := 4) (mc := 5) (ms := 53) (kc := 104) (ks := 1034) (as := []) (b := aN k) dL_randomSheet_4 (lc_RL_118 rfl) rfl rfl ceX6_init (x_init (d := d + 102) adn_ge (by show dl (adn _ _) = _; rw [dl_adn, hk]) ((prN_adn nA.1).mpr (Or.inr rfl)) (by rw [nwD_row.1]) (by rw [nwD_row.1])) rfl rfl (Nat.le_of_ble_eq_true rfl) (by omega) (by omega) ⟨(okc (okd_r ((prN_adn nA.1).mpr (Or.inl (prN_st (Nat.lt_of_lt_of_le (by decide) hn) (by decide))))) (okc (okd_r ((prN_adn nA.1).mpr (Or.inl (prN_st (Nat.lt_of_lt_of_le (by decide) hn) (by decide))))) (okc (okd_r ((prN_adn nA.1).mpr (Or.inl (prN_st (Nat.lt_of_lt_of_le (by decide) hn) (by decide))))) okz))), (okc (okd_r ((prN_adn nA.1).mpr (Or.inr rfl))) okz)⟩ (fun H1 y => ?_)
  obtain ⟨lN, d2⟩ := y
  obtain ⟨S, hS⟩ : ∃ S : Nat → Prop, S = fun a => a = 67 ∨ a = aN k := ⟨_, rfl⟩
  have s67 : S 67 := by rw [hS]; exact Or.inl rfl
  have sA : S (aN k) := by rw [hS]; exact Or.inr rfl
  have d3 : Dq S 6 h H1 := ((((Dq.refl hn : Dq noS 0 h h).nwD nA noA).mono (fun a z => z.elim) : Dq S 1 h (nwD h (aN k)))).trans (d2.mono (fun a z => by rw [show a = aN k from z]; exact sA))
  have hn1 : 68 ≤ hN H1 := d3.1.1
  obtain ⟨⟨-, qA1, qN1, qB1, -⟩, ⟨u0, u1, u4, u7, u8⟩, ⟨v9, v10, -⟩, -, ⟨M, rM, sM⟩, -⟩ := lN
  refine a_astore_n (pc := 7) (i := 3) (ls' := [(0, .ref 0), (1, .ref 66), (2, .ref 67), (3, .ref (aN k))]) dL_randomSheet_7 rfl (by decide) rfl ?_
  refine a_aload_n (pc := 8) (i := 3) dL_randomSheet_8 rfl rfl ?_
  refine a_iconst (pc := 9) (v := nI 1) dL_randomSheet_9 (by decide) ?_
  refine a_aload_n (pc := 10) (i := 2) dL_randomSheet_10 rfl rfl ?_
  refine a_iconst (pc := 11) (v := nI 4) dL_randomSheet_11 (by decide) ?_
  refine g_wV (pc := 12) (as := [.int (nI 4)]) (b := 67) (ci := 5) dL_randomSheet_12 (lc_RL_98 rfl) ceX5_below k67 (prN_st (Nat.lt_of_lt_of_le (by decide) hn1) (by decide)) (x_below (d := d + 103) hn1 (by omega)) rfl rfl (Nat.le_of_ble_eq_true rfl) (fun E h2 y => by obtain ⟨n, x, -, y, -⟩ := y; cases y) (fun v2 h2 y => by obtain ⟨n, x, -, -, y⟩ := y; rw [y]; rfl) (fun v2 hx y => ?_)
  obtain ⟨q0, x0, hq0, evq0, rfl⟩ := y
  cases evq0
  have hn1 : 68 ≤ hN (sI H1 67 0 x0) := hn1
  obtain ⟨W, eW⟩ : ∃ W, W = 1 + q0 := ⟨_, rfl⟩
  refine n_iadd (pc := 15) dL_randomSheet_15 ?_
  refine a_top (show (.int (nI (1 + q0)) : Value) = .int (nI W) from by rw [eW]) ?_
  refine g_putI (pc := 16) (ci := 6) (k := 0) dL_randomSheet_16 (lf_RL_119 rfl) (by decide) (Or.inl rfl) kd_a qA1 rfl ?_
  refine a_aload_n (pc := 19) (i := 3) dL_randomSheet_19 rfl rfl ?_
  refine a_iconst (pc := 20) (v := nI 1) dL_randomSheet_20 (by decide) ?_
  refine a_aload_n (pc := 21) (i := 2) dL_randomSheet_21 rfl rfl ?_
  refine a_iconst (pc := 22) (v := nI 3) dL_randomSheet_22 (by decide) ?_
  refine g_wV (pc := 23) (as := [.int (nI 3)]) (b := 67) (ci := 5) dL_randomSheet_23 (lc_RL_98 rfl) ceX5_below k67 (prN_st (Nat.lt_of_lt_of_le (by decide) hn1) (by decide)) (x_below (d := d + 103) hn1 (by omega)) rfl rfl (Nat.le_of_ble_eq_true rfl) (fun E h2 y => by obtain ⟨n, x, -, y, -⟩ := y; cases y) (fun v2 h2 y => by obtain ⟨n, x, -, -, y⟩ := y; rw [y]; rfl) (fun v2 hx y => ?_)
  obtain ⟨q1, x1, hq1, evq1, rfl⟩ := y
  cases evq1
  obtain ⟨E, eE⟩ : ∃ E, E = 1 + q1 := ⟨_, rfl⟩
  refine n_iadd (pc := 26) dL_randomSheet_26 ?_
  refine a_top (show (.int (nI (1 + q1)) : Value) = .int (nI E) from by rw [eE]) ?_
  refine g_putI (pc := 27) (ci := 6) (k := 1) dL_randomSheet_27 (lf_RL_123 rfl) (by decide) (Or.inl rfl) kd_a qA1 rfl ?_
  have hW : 1 ≤ W ∧ W ≤ 4 := by omega
  have hE : 1 ≤ E ∧ E ≤ 3 := by omega
  have hWE : W * E ≤ 12 := Nat.mul_le_mul hW.2 hE.2
  obtain ⟨H2, hH2⟩ : ∃ Hx, Hx = sI (sI (sI (sI H1 67 0 x0) (aN k) 0 (nI W)) 67 0 x1) (aN k) 1 (nI E) := ⟨_, rfl⟩
  refine a_heap (h' := H2) hH2.symm ?_
  have d4 : Dq S 6 h H2 := by rw [hH2]; exact (((d3.sI (Or.inl s67)).sI (Or.inl sA)).sI (Or.inl s67)).sI (Or.inl sA)
  have d5 : Dq S 0 H1 H2 := by rw [hH2]; exact ((((Dq.refl hn1 : Dq S 0 H1 H1).sI (Or.inl s67)).sI (Or.inl sA)).sI (Or.inl s67)).sI (Or.inl sA)
  have eN2 : hN H2 = hN H1 := by rw [hH2]; rfl
  have ne67 : ¬ aN k = 67 := fun e => by have := nm_hi (k := k) (q := 6); have e : nm k 6 = 67 := e; omega
  have f0 : hI H2 (aN k) 0 = nI W := by rw [hH2, hI_sI, if_neg (show ¬ (aN k = aN k ∧ 0 = 1) from fun z => absurd z.2 (by omega)), hI_sI, if_neg (show ¬ (aN k = 67 ∧ 0 = 0) from fun z => ne67 z.1), hI_sI, if_pos ⟨rfl, rfl⟩]
  have f1 : hI H2 (aN k) 1 = nI E := by rw [hH2, hI_sI, if_pos ⟨rfl, rfl⟩]
  have f4 : hI H2 (aN k) 4 = nI 1 := by rw [hH2, hI_sI, if_neg (show ¬ (aN k = aN k ∧ 4 = 1) from fun z => absurd z.2 (by omega)), hI_sI, if_neg (show ¬ (aN k = 67 ∧ 4 = 0) from fun z => ne67 z.1), hI_sI, if_neg (show ¬ (aN k = aN k ∧ 4 = 0) from fun z => absurd z.2 (by omega)), hI_sI, if_neg (show ¬ (aN k = 67 ∧ 4 = 0) from fun z => ne67 z.1)]; exact u4
  have f7 : hI H2 (aN k) 7 = nI 0 := by rw [hH2, hI_sI, if_neg (show ¬ (aN k = aN k ∧ 7 = 1) from fun z => absurd z.2 (by omega)), hI_sI, if_neg (show ¬ (aN k = 67 ∧ 7 = 0) from fun z => ne67 z.1), hI_sI, if_neg (show ¬ (aN k = aN k ∧ 7 = 0) from fun z => absurd z.2 (by omega)), hI_sI, if_neg (show ¬ (aN k = 67 ∧ 7 = 0) from fun z => ne67 z.1)]; exact u7
  have f8 : hI H2 (aN k) 8 = nI 0 := by rw [hH2, hI_sI, if_neg (show ¬ (aN k = aN k ∧ 8 = 1) from fun z => absurd z.2 (by omega)), hI_sI, if_neg (show ¬ (aN k = 67 ∧ 8 = 0) from fun z => ne67 z.1), hI_sI, if_neg (show ¬ (aN k = aN k ∧ 8 = 0) from fun z => absurd z.2 (by omega)), hI_sI, if_neg (show ¬ (aN k = 67 ∧ 8 = 0) from fun z => ne67 z.1)]; exact u8
  have g9 : hR H2 (aN k) 9 = some (nowN k) := by rw [hH2, hR_sI, hR_sI, hR_sI, hR_sI]; exact v9
  have g10 : hR H2 (aN k) 10 = some (bstN k) := by rw [hH2, hR_sI, hR_sI, hR_sI, hR_sI]; exact v10
  have g6 : hR H2 (aN k) 6 = some M := by rw [hH2, hR_sI, hR_sI, hR_sI, hR_sI]; exact rM
  have hn2 : 68 ≤ hN H2 := d4.1.1
  refine a_aload_n (pc := 30) (i := 3) dL_randomSheet_30 rfl rfl ?_
  refine a_aload_n (pc := 31) (i := 3) dL_randomSheet_31 rfl rfl ?_
  refine g_vV1 (pc := 32) (as := []) (b := aN k) (ci := 6) (v := .int (nI (W * E))) (h' := H2) dL_randomSheet_32 (lc_RL_126 rfl) ceX6_all kd_a (d5.2.1 _ qA1) (x_all0 (d := d + 103) (d5.2.1 _ qA1) f0 f1) rfl rfl (Nat.le_of_ble_eq_true rfl) rfl ?_
  refine a_wf (fun hwG => ?_)
  have nG : newC (hN H2) (goN k W E) (k + 6) (qA 2 (W * E)) := newC_0 hn2 (by rw [d4.1.2, hk]) (by unfold qA; omega)
  have noG : ¬ prN (hN H2) (goN k W E) := (nG.no hwG.1).1
  refine a_room (kc' := 103 + 1) (ks' := 1000 + W * E) (by omega) (by omega) ?_
  refine d_newarr (pc := 35) (t := 2) (n := (W * E)) (kc := 103) (ks := 1000) dL_randomSheet_35 (by omega) nG rfl (by decide) aC_in.2.2.1 rfl (okc (okd_r (prN_st (Nat.lt_of_lt_of_le (by decide) hn2) (by decide))) (okc (okd_r (prN_st (Nat.lt_of_lt_of_le (by decide) hn2) (by decide))) (okc (okd_r (prN_st (Nat.lt_of_lt_of_le (by decide) hn2) (by decide))) (okc (okd_r (d5.2.1 _ qA1)) okz)))) (okc (okd_r (d5.2.1 _ qA1)) okz) ?_
  have x1 : ¬ aN k = goN k W E := fun e => noG (e ▸ d5.2.1 _ qA1)
  refine g_putR (pc := 37) (ci := 6) (k := 5) (b := goN k W E) dL_randomSheet_37 (lf_RL_129 rfl) (by decide) rfl kd_a ((prN_adn nG.1).mpr (Or.inl (d5.2.1 _ qA1))) (Or.inl ((prN_adn nG.1).mpr (Or.inr rfl))) (Or.inl rfl) ?_
  obtain ⟨H3, hH3⟩ : ∃ Hx, Hx = sR (nwD H2 (goN k W E)) (aN k) 5 (some (goN k W E)) := ⟨_, rfl⟩
  refine a_heap (h' := H3) hH3.symm ?_
  have eN3 : hN H3 = adn (hN H2) (goN k W E) := by rw [hH3]; rfl
  have d6 : Dq S 7 h H3 := by rw [hH3]; exact (d4.nwD nG noG).sR (Or.inl sA)
  have d7 : Dq S 1 H1 H3 := by rw [hH3]; exact (d5.nwD nG noG).sR (Or.inl sA)
  have hp3 : ∀ a, prN (hN H3) a ↔ prN (hN H2) a ∨ a = goN k W E := fun a => by rw [eN3]; exact prN_adn hn2
  have hn3 : 68 ≤ hN H3 := d6.1.1
  have f1c : hI H3 (aN k) 1 = nI E := by rw [hH3, hI_sR, (nwD_old x1).1]; exact f1
  refine a_aload_n (pc := 40) (i := 3) dL_randomSheet_40 rfl rfl ?_
  refine a_iconst (pc := 41) (v := nI 2) dL_randomSheet_41 (by decide) ?_
  refine a_aload_n (pc := 42) (i := 3) dL_randomSheet_42 rfl rfl ?_
  refine g_getI (pc := 43) (ci := 6) (k := 1) dL_randomSheet_43 (lf_RL_123 rfl) (by decide) rfl kd_a ((hp3 _).mpr (Or.inl (d5.2.1 _ qA1))) ?_
  refine a_top (show (.int (hI H3 (aN k) 1) : Value) = .int (nI E) from congrArg Value.int f1c) ?_
  refine n_imul (pc := 46) dL_randomSheet_46 ?_
  refine a_wf (fun hwL => ?_)
  have nL : newC (hN H3) (lnN k E) (k + 7) (qA 6 (2 * E)) := newC_0 hn3 (by rw [d6.1.2, hk]) (by unfold qA; omega)
  have noL : ¬ prN (hN H3) (lnN k E) := (nL.no hwL.1).1
  refine a_room (kc' := 102 + 1) (ks' := 990 + 2 * E) (by omega) (by omega) ?_
  refine d_newref (pc := 47) (t := 6) (n := (2 * E)) (kc := 102) (ks := 990) dL_randomSheet_47 (by omega) nL (Or.inl ⟨rfl, rfl⟩) (tbi 1188 (by decide +kernel)) rfl (okc (okd_r (prN_st (Nat.lt_of_lt_of_le (by decide) hn3) (by decide))) (okc (okd_r (prN_st (Nat.lt_of_lt_of_le (by decide) hn3) (by decide))) (okc (okd_r (prN_st (Nat.lt_of_lt_of_le (by decide) hn3) (by decide))) (okc (okd_r ((hp3 _).mpr (Or.inl (d5.2.1 _ qA1)))) okz)))) (okc (okd_r ((hp3 _).mpr (Or.inl (d5.2.1 _ qA1)))) okz) ?_
  have x2 : ¬ aN k = lnN k E := fun e => noL (e ▸ d7.2.1 _ qA1)
  have x3 : ¬ goN k W E = lnN k E := fun e => noL (e ▸ (hp3 _).mpr (Or.inr rfl))
  have x4 : ¬ goN k W E = aN k := fun e => x1 e.symm
  refine g_putR (pc := 50) (ci := 6) (k := 2) (b := lnN k E) dL_randomSheet_50 (lf_RL_133 rfl) (by decide) rfl kd_a ((prN_adn nL.1).mpr (Or.inl ((hp3 _).mpr (Or.inl (d5.2.1 _ qA1))))) (Or.inl ((prN_adn nL.1).mpr (Or.inr rfl))) (Or.inl rfl) ?_
  obtain ⟨H4, hH4⟩ : ∃ Hx, Hx = sR (nwD H3 (lnN k E)) (aN k) 2 (some (lnN k E)) := ⟨_, rfl⟩
  refine a_heap (h' := H4) hH4.symm ?_
  have eN4 : hN H4 = adn (hN H3) (lnN k E) := by rw [hH4]; rfl
  have d8 : Dq S 8 h H4 := by rw [hH4]; exact (d6.nwD nL noL).sR (Or.inl sA)
  have d9 : Dq S 2 H1 H4 := by rw [hH4]; exact (d7.nwD nL noL).sR (Or.inl sA)
  have hp4 : ∀ a, prN (hN H4) a ↔ prN (hN H3) a ∨ a = lnN k E := fun a => by rw [eN4]; exact prN_adn hn3
  have hn4 : 68 ≤ hN H4 := d8.1.1
  have f1d : hI H4 (aN k) 1 = nI E := by rw [hH4, hI_sR, (nwD_old x2).1]; exact f1c
  refine a_aload_n (pc := 53) (i := 3) dL_randomSheet_53 rfl rfl ?_
  refine a_iconst (pc := 54) (v := nI 2) dL_randomSheet_54 (by decide) ?_
  refine a_aload_n (pc := 55) (i := 3) dL_randomSheet_55 rfl rfl ?_
  refine g_getI (pc := 56) (ci := 6) (k := 1) dL_randomSheet_56 (lf_RL_123 rfl) (by decide) rfl kd_a (d9.2.1 _ qA1) ?_
  refine a_top (show (.int (hI H4 (aN k) 1) : Value) = .int (nI E) from congrArg Value.int f1d) ?_
  refine n_imul (pc := 59) dL_randomSheet_59 ?_
  refine a_wf (fun hwZ => ?_)
  have nZ : newC (hN H4) (szN k E) (k + 8) (qA 0 (2 * E)) := newC_0 hn4 (by rw [d8.1.2, hk]) (by unfold qA; omega)
  have noZ : ¬ prN (hN H4) (szN k E) := (nZ.no hwZ.1).1
  refine a_room (kc' := 101 + 1) (ks' := 980 + 2 * E) (by omega) (by omega) ?_
  refine d_newarr (pc := 60) (t := 0) (n := (2 * E)) (kc := 101) (ks := 980) dL_randomSheet_60 (by omega) nZ rfl (by decide) aC_in.1 rfl (okc (okd_r (prN_st (Nat.lt_of_lt_of_le (by decide) hn4) (by decide))) (okc (okd_r (prN_st (Nat.lt_of_lt_of_le (by decide) hn4) (by decide))) (okc (okd_r (prN_st (Nat.lt_of_lt_of_le (by decide) hn4) (by decide))) (okc (okd_r (d9.2.1 _ qA1)) okz)))) (okc (okd_r (d9.2.1 _ qA1)) okz) ?_
  have x5 : ¬ aN k = szN k E := fun e => noZ (e ▸ d9.2.1 _ qA1)
  have x6 : ¬ goN k W E = szN k E := fun e => noZ (e ▸ (hp4 _).mpr (Or.inl ((hp3 _).mpr (Or.inr rfl))))
  refine g_putR (pc := 62) (ci := 6) (k := 3) (b := szN k E) dL_randomSheet_62 (lf_RL_137 rfl) (by decide) rfl kd_a ((prN_adn nZ.1).mpr (Or.inl (d9.2.1 _ qA1))) (Or.inl ((prN_adn nZ.1).mpr (Or.inr rfl))) (Or.inl rfl) ?_
  obtain ⟨H5, hH5⟩ : ∃ Hx, Hx = sR (nwD H4 (szN k E)) (aN k) 3 (some (szN k E)) := ⟨_, rfl⟩
  refine a_heap (h' := H5) hH5.symm ?_
  have eN5 : hN H5 = adn (hN H4) (szN k E) := by rw [hH5]; rfl
  have dA : Dq S 9 h H5 := by rw [hH5]; exact (d8.nwD nZ noZ).sR (Or.inl sA)
  have dB : Dq S 3 H1 H5 := by rw [hH5]; exact (d9.nwD nZ noZ).sR (Or.inl sA)
  have hp5 : ∀ a, prN (hN H5) a ↔ prN (hN H4) a ∨ a = szN k E := fun a => by rw [eN5]; exact prN_adn hn4
  have oS : okS S := by rw [hS]; exact okS_k (by rintro x (rfl | rfl); exact Or.inl k67; exact Or.inr (Or.inl kd_a))
  have sh : SHP H5 k W E 1 0 0 (fun _ => []) (fun _ => 1) := by
    refine ⟨⟨dB.2.1 _ qA1, dB.2.1 _ qN1, dB.2.1 _ qB1, (hp5 _).mpr (Or.inl ((hp4 _).mpr (Or.inl ((hp3 _).mpr (Or.inr rfl))))), (hp5 _).mpr (Or.inl ((hp4 _).mpr (Or.inr rfl))), (hp5 _).mpr (Or.inr rfl)⟩, ⟨(by rw [hH5, hI_sR, (nwD_old x5).1, hH4, hI_sR, (nwD_old x2).1, hH3, hI_sR, (nwD_old x1).1]; exact f0), (by rw [hH5, hI_sR, (nwD_old x5).1, hH4, hI_sR, (nwD_old x2).1, hH3, hI_sR, (nwD_old x1).1]; exact f1), (by rw [hH5, hI_sR, (nwD_old x5).1, hH4, hI_sR, (nwD_old x2).1, hH3, hI_sR, (nwD_old x1).1]; exact f4), (by rw [hH5, hI_sR, (nwD_old x5).1, hH4, hI_sR, (nwD_old x2).1, hH3, hI_sR, (nwD_old x1).1]; exact f7), (by rw [hH5, hI_sR, (nwD_old x5).1, hH4, hI_sR, (nwD_old x2).1, hH3, hI_sR, (nwD_old x1).1]; exact f8)⟩, ⟨(by rw [hH5, hR_sR, if_neg (show ¬ (aN k = aN k ∧ 9 = 3) from fun z => absurd z.2 (by omega)), (nwD_old x5).2.2, hH4, hR_sR, if_neg (show ¬ (aN k = aN k ∧ 9 = 2) from fun z => absurd z.2 (by omega)), (nwD_old x2).2.2, hH3, hR_sR, if_neg (show ¬ (aN k = aN k ∧ 9 = 5) from fun z => absurd z.2 (by omega)), (nwD_old x1).2.2]; exact g9), (by rw [hH5, hR_sR, if_neg (show ¬ (aN k = aN k ∧ 10 = 3) from fun z => absurd z.2 (by omega)), (nwD_old x5).2.2, hH4, hR_sR, if_neg (show ¬ (aN k = aN k ∧ 10 = 2) from fun z => absurd z.2 (by omega)), (nwD_old x2).2.2, hH3, hR_sR, if_neg (show ¬ (aN k = aN k ∧ 10 = 5) from fun z => absurd z.2 (by omega)), (nwD_old x1).2.2]; exact g10), (by rw [hH5, hR_sR, if_neg (show ¬ (aN k = aN k ∧ 5 = 3) from fun z => absurd z.2 (by omega)), (nwD_old x5).2.2, hH4, hR_sR, if_neg (show ¬ (aN k = aN k ∧ 5 = 2) from fun z => absurd z.2 (by omega)), (nwD_old x2).2.2, hH3, hR_sR, if_pos ⟨rfl, rfl⟩]), (by rw [hH5, hR_sR, if_neg (show ¬ (aN k = aN k ∧ 2 = 3) from fun z => absurd z.2 (by omega)), (nwD_old x5).2.2, hH4, hR_sR, if_pos ⟨rfl, rfl⟩]), (by rw [hH5, hR_sR, if_pos ⟨rfl, rfl⟩])⟩, ⟨M, (by rw [hH5, hR_sR, if_neg (show ¬ (aN k = aN k ∧ 6 = 3) from fun z => absurd z.2 (by omega)), (nwD_old x5).2.2, hH4, hR_sR, if_neg (show ¬ (aN k = aN k ∧ 6 = 2) from fun z => absurd z.2 (by omega)), (nwD_old x2).2.2, hH3, hR_sR, if_neg (show ¬ (aN k = aN k ∧ 6 = 5) from fun z => absurd z.2 (by omega)), (nwD_old x1).2.2]; exact g6), sM.dq dB oS.str⟩, fun c hc => ?_, fun r hr => absurd hr (Nat.not_lt_zero r), fun r hr => absurd hr (Nat.not_lt_zero r)⟩
    rw [hH5, hI_sR, (nwD_old x6).1, hH4, hI_sR, (nwD_old x3).1, hH3, hI_sR, nwD_row.1]
  have tx : TXb H5 t0 [] := (TXb_0 m hb bz).dq dA (fun a z => by rw [hS] at z; rcases z with rfl | rfl; omega; have := nm_hi (k := k) (q := 6); show 67 ≤ nm k 6; omega)
  have r : RI h H5 t0 k W E 1 0 0 (fun _ => []) (fun _ => 1) [] := ⟨sh, tx, 9, dA.sub (fun a z => by rw [hS] at z; rcases z with rfl | rfl; exact Or.inl (by show 67 < 68; omega); exact Or.inr noA)⟩
  refine a_aload_n (pc := 65) (i := 0) dL_randomSheet_65 rfl rfl ?_
  refine a_aload_n (pc := 66) (i := 1) dL_randomSheet_66 rfl rfl ?_
  refine a_ldcS (pc := 67) (i := 7) (tx := "page ") dL_randomSheet_67 (by decide) (by decide) ?_
  refine g_uS (pc := 69) (as := [.ref 0, .ref 66, .ref (1001 + 7)]) dL_randomSheet_69 (lc_RL_90 rfl) ceL_write (w_write (d := d) r.2.1 (STR_c (i := 7) (by decide)) r.n68 (by rw [show (zT 7).length = 5 from rfl]; show 0 + 5 < 370; omega)) rfl rfl (Nat.le_of_ble_eq_true rfl) (fun h2 y => y.2.2) (fun H51 yH51 => ?_)
  have r_52 := r.w yH51
  refine a_aload_n (pc := 72) (i := 0) dL_randomSheet_72 rfl rfl ?_
  refine a_aload_n (pc := 73) (i := 1) dL_randomSheet_73 rfl rfl ?_
  refine a_aload_n (pc := 74) (i := 3) dL_randomSheet_74 rfl rfl ?_
  refine g_getI (pc := 75) (ci := 6) (k := 0) dL_randomSheet_75 (lf_RL_119 rfl) (by decide) rfl kd_a r_52.1.1.1 ?_
  refine a_top (show (.int (hI H51 (aN k) 0) : Value) = .int (nI W) from congrArg Value.int r_52.1.2.1.1) ?_
  refine g_uS (pc := 78) (as := [.ref 0, .ref 66, .int (nI W)]) dL_randomSheet_78 (lc_RL_143 rfl) ceL_writeNumber (w_writeNumber (d := d) r_52.2.1 (by omega) (by show 5 < 370; omega)) rfl rfl (Nat.le_of_ble_eq_true rfl) (fun h2 y => y.2.2) (fun H53 yH53 => ?_)
  have r_54 := r_52.w yH53
  refine a_aload_n (pc := 81) (i := 0) dL_randomSheet_81 rfl rfl ?_
  refine a_aload_n (pc := 82) (i := 1) dL_randomSheet_82 rfl rfl ?_
  refine a_ldcS (pc := 83) (i := 8) (tx := " ") dL_randomSheet_83 (by decide) (by decide) ?_
  refine g_uS (pc := 85) (as := [.ref 0, .ref 66, .ref (1001 + 8)]) dL_randomSheet_85 (lc_RL_90 rfl) ceL_write (w_write (d := d) r_54.2.1 (STR_c (i := 8) (by decide)) r_54.n68 (by show 6 + 1 < 370; omega)) rfl rfl (Nat.le_of_ble_eq_true rfl) (fun h2 y => y.2.2) (fun H55 yH55 => ?_)
  have r_56 := r_54.w yH55
  refine a_aload_n (pc := 88) (i := 0) dL_randomSheet_88 rfl rfl ?_
  refine a_aload_n (pc := 89) (i := 1) dL_randomSheet_89 rfl rfl ?_
  refine a_aload_n (pc := 90) (i := 3) dL_randomSheet_90 rfl rfl ?_
  refine g_getI (pc := 91) (ci := 6) (k := 1) dL_randomSheet_91 (lf_RL_123 rfl) (by decide) rfl kd_a r_56.1.1.1 ?_
  refine a_top (show (.int (hI H55 (aN k) 1) : Value) = .int (nI E) from congrArg Value.int r_56.1.2.1.2.1) ?_
  refine g_uS (pc := 94) (as := [.ref 0, .ref 66, .int (nI E)]) dL_randomSheet_94 (lc_RL_143 rfl) ceL_writeNumber (w_writeNumber (d := d) r_56.2.1 (by omega) (by show 7 < 370; omega)) rfl rfl (Nat.le_of_ble_eq_true rfl) (fun h2 y => y.2.2) (fun H57 yH57 => ?_)
  have r_58 := r_56.w yH57
  refine a_iconst (pc := 97) (v := nI 0) dL_randomSheet_97 (by decide) ?_
  refine a_istore (pc := 98) (i := 4) (ls' := [(0, .ref 0), (1, .ref 66), (2, .ref 67), (3, .ref (aN k)), (4, .int (nI 0))]) dL_randomSheet_98 (by decide) rfl ?_
  refine a_room (kc' := 16 * (2 * E - 0) + 1) (ks' := 160 * (2 * E - 0) + 6) (by omega) (by omega) ?_
  exact rs_1 hW hE nw0 (2 * E + 1) 0 _ (hdT W E) _ (Nat.zero_le _) r_58 LT_0 (fun r hr => absurd hr (Nat.not_lt_zero r)) (by omega)
