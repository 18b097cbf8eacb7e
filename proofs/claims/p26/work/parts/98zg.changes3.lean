/-! the law: a plan cut -/
theorem MJ.fs {k kp kb dn : Nat} {H H1 : AH} {t : ST} {K : Nat → Nat} (m : MJ H t t k kp kb dn K) (f : FrS k H H1) : MJ H1 t t k kp kb dn K := by
  have d := f.dq m.n68
  exact ⟨m.1.dq d (fun a z => by have := SN_hi z; omega), m.2.1, m.2.2.1.dq m.n68 d (fun z => by have := SN_hi z; omega), m.2.2.2.1.frs f, m.2.2.2.2.dq d (fun a z => (SK_SN z).1)⟩
theorem best_m2 {s : SH} (h : 8 < sLen s) : bestR s = -2 := cif_t h
theorem best_m1 {s : SH} (h : ¬ 8 < sLen s) (h2 : ¬ ∃ l, BP s noA l) : bestR s = -1 := (cif_f h).trans (cif_f h2)
theorem best_l {s : SH} {l : List (Nat × Nat)} (h : ¬ 8 < sLen s) (h2 : BP s noA l) : bestR s = nI l.length := by
  rw [← bestL_eq h2]
  exact (cif_f h).trans (cif_t ⟨l, h2⟩)
set_option maxHeartbeats 1500000 in
set_option maxRecDepth 100000 in
theorem lw_c2 {X : XT} {nm : String} {hh : List (Nat × Nat × Nat × Nat)} {d i n k kp kb dn kc ks : Nat} {K : Nat → Nat} {t : ST} (hY : ∀ (H : AH) (t2 : ST), MJ H t t2 k kp kb dn K → t2.2.2 = (tRem t).2.2 → AW X (mLaw nm hh) (d + 105) kc ks 729 [(0, .ref 1000), (1, .int (nI 1)), (2, .int (nI i)), (3, .ref 0), (4, .ref 66), (5, .ref 67), (6, .ref (aN k)), (7, .ref (bfN kb)), (8, .int (nI dn)), (9, .int (nI n)), (10, .ref (aN kp)), (11, .int (nI 1))] [] H QL) (hZ : ∀ (H : AH) (t2 : ST), MJ H t t2 k kp kb dn K → t2.2.2 = t.2.2 → AW X (mLaw nm hh) (d + 105) kc ks 729 [(0, .ref 1000), (1, .int (nI 1)), (2, .int (nI i)), (3, .ref 0), (4, .ref 66), (5, .ref 67), (6, .ref (aN k)), (7, .ref (bfN kb)), (8, .int (nI dn)), (9, .int (nI n)), (10, .ref (aN kp)), (11, .int (nI 0))] [] H QL) {H : AH} (m : MJ H t t k kp kb dn K) : AW X (mLaw nm hh) (d + 105) (kc + 1) (ks + 6) 334 [(0, .ref 1000), (1, .int (nI 1)), (2, .int (nI i)), (3, .ref 0), (4, .ref 66), (5, .ref 67), (6, .ref (aN k)), (7, .ref (bfN kb)), (8, .int (nI dn)), (9, .int (nI n)), (10, .ref (aN kp)), (11, .int (nI 1))] [] H QL := by
  have l0 := m.2.2.2.1
  have c12 := cells12 l0.1.1
  have l9 : sLen (tC t) ≤ 9 := l0.1.1.2.2.2
  obtain ⟨M, rM, sM⟩ := l0.2.2.2.2.1
  refine a_aload (pc := 334) (i := 6) dL_law_334 rfl ?_
  refine g_getR (pc := 336) (ci := 6) (k := 6) (b := M) dL_law_336 (lf_RL_174 rfl) (by decide) rfl kd_a m.2.2.2.1.1.2.1 rM ?_
  refine g_vStr1 (pc := 339) (as := []) (b := M) (v := .int (nI ((msT (tC t)).length))) (h' := H) dL_law_339 (lc_RL_23 rfl) ceJ0_length_8abf5 sM.ok (s_len (d := d + 103) sM) rfl rfl (Nat.le_of_ble_eq_true rfl) rfl ?_
  refine a_top (show (.int (nI ((msT (tC t)).length)) : Value) = .int (nI (sLen (tC t))) from by rw [msT_len]) ?_
  refine n_if_ne (pc := 342) (tgt := 349) dL_law_342 (by decide) (by omega) (fun c342 => ?_) (fun c342 => ?_)
  · skip
    refine a_aload (pc := 349) (i := 6) dL_law_349 rfl ?_
    refine e_VW (pc := 351) (mc := 0) (ms := 0) (kc := kc + 1) (ks := ks + 6) (as := []) (b := aN k) (ci := 6) dL_law_351 (lc_RL_225 rfl) ceX6_plan kd_a l0.1.2.1 (x_plan (d := d + 87) l0) rfl rfl (Nat.le_of_ble_eq_true rfl) (fun E h2 y => by cases y.1) (by omega) (by omega) (Or.inl (fun v h2 y => y.2.1.1)) (fun v2 H1 y => ?_)
    obtain ⟨ev, fs, pl⟩ := y
    cases ev
    have m1 := m.fs fs
    have h0 : sLen (tC t) ≠ 0 := fun z => by omega
    rcases Classical.em (8 < sLen (tC t)) with h8 | h8
    · skip
      refine a_top (show (.int (bestR (tC t)) : Value) = .int ((-2)) from by rw [best_m2 h8]) ?_
      refine a_istore (pc := 354) (i := 12) (ls' := [(0, .ref 1000), (1, .int (nI 1)), (2, .int (nI i)), (3, .ref 0), (4, .ref 66), (5, .ref 67), (6, .ref (aN k)), (7, .ref (bfN kb)), (8, .int (nI dn)), (9, .int (nI n)), (10, .ref (aN kp)), (11, .int (nI 1)), (12, .int ((-2)))]) dL_law_354 (Nat.le_of_ble_eq_true rfl) rfl ?_
      refine a_iload (pc := 356) (i := 12) dL_law_356 rfl ?_
      refine a_if_le (pc := 358) (tgt := 365) dL_law_358 (by decide) (fun c358 => ?_) (fun c358 => ?_)
      · skip
        refine a_iconst (pc := 365) (v := nI 0) dL_law_365 (by decide) ?_
        refine a_istore (pc := 366) (i := 11) (ls' := [(0, .ref 1000), (1, .int (nI 1)), (2, .int (nI i)), (3, .ref 0), (4, .ref 66), (5, .ref 67), (6, .ref (aN k)), (7, .ref (bfN kb)), (8, .int (nI dn)), (9, .int (nI n)), (10, .ref (aN kp)), (11, .int (nI 0)), (12, .int ((-2)))]) dL_law_366 (Nat.le_of_ble_eq_true rfl) rfl ?_
        refine a_iload (pc := 368) (i := 11) dL_law_368 rfl ?_
        refine n_if_eq (pc := 370) (tgt := 380) dL_law_370 (by decide) (by omega) (fun c370 => ?_) (fun c370 => ?_)
        · skip
          refine a_aload_n (pc := 380) (i := 3) dL_law_380 rfl rfl ?_
          refine g_pX (pc := 381) (kc := kc) (ks := ks) (as := [.ref 0]) dL_law_381 (lc_RL_196 rfl) ceL_cut (sL_cut (d := d + 3) m1.1) rfl rfl (Nat.le_of_ble_eq_true rfl) (by omega) (by omega) (fun H3 im3 f3 => ?_)
          have eo := oc_no (t := t) (Or.inl h8)
          rw [eo] at im3 ⊢
          have m3 := m1.fw im3 f3 m1.2.1 m1.2.2.2.1
          refine a_top (show (.int (wn (.inr eIS)) : Value) = .int ((-2000000099)) from congrArg Value.int wn_E.2.2.1) ?_
          refine a_iload (pc := 384) (i := 11) dL_law_384 rfl ?_
          refine n_if_eq (pc := 386) (tgt := 394) dL_law_386 (by decide) (by omega) (fun c386 => ?_) (fun c386 => ?_)
          · skip
            refine a_ldc (pc := 394) (v := (-2000000099)) dL_law_394 (li_RL_80 rfl) ?_
            refine a_icmp_ne (pc := 396) (tgt := 403) dL_law_396 (by decide) (fun c396 => ?_) (fun c396 => ?_)
            · skip
              exact absurd rfl c396
            · skip
              refine a_iconst (pc := 399) (v := nI 1) dL_law_399 (by decide) ?_
              refine a_goto (pc := 400) (tgt := 404) dL_law_400 (by decide) ?_
              refine a_istore_n (pc := 404) (i := 1) (ls' := [(0, .ref 1000), (1, .int (nI 1)), (2, .int (nI i)), (3, .ref 0), (4, .ref 66), (5, .ref 67), (6, .ref (aN k)), (7, .ref (bfN kb)), (8, .int (nI dn)), (9, .int (nI n)), (10, .ref (aN kp)), (11, .int (nI 0)), (12, .int ((-2)))]) dL_law_404 rfl (Nat.le_of_ble_eq_true rfl) rfl ?_
              refine a_goto (pc := 405) (tgt := 729) dL_law_405 (by decide) ?_
              refine a_drop (ls' := [(0, .ref 1000), (1, .int (nI 1)), (2, .int (nI i)), (3, .ref 0), (4, .ref 66), (5, .ref 67), (6, .ref (aN k)), (7, .ref (bfN kb)), (8, .int (nI dn)), (9, .int (nI n)), (10, .ref (aN kp)), (11, .int (nI 0))]) (by simp) ?_
              exact hZ _ _ m3 rfl
          · skip
            first | exact absurd c386 (by decide) | exact absurd rfl c386
        · skip
          first | exact absurd c370 (by decide) | exact absurd rfl c370
      · skip
        exact absurd c358 (by decide)
    · skip
      rcases Classical.em (∃ q, BP (tC t) noA q) with ⟨q, hb⟩ | hn
      · skip
        have hv := BP_V hb
        have hne : q ≠ [] := fun z => by rw [z] at hv; exact h0 (show 0 = sLen (tC t) from hv).symm
        have hq1 : 1 ≤ q.length := List.length_pos_iff.mpr hne
        have hq8 : q.length ≤ 8 := by have := plV_le hv; omega
        refine a_top (show (.int (bestR (tC t)) : Value) = .int (nI q.length) from by rw [best_l h8 hb]) ?_
        refine a_istore (pc := 354) (i := 12) (ls' := [(0, .ref 1000), (1, .int (nI 1)), (2, .int (nI i)), (3, .ref 0), (4, .ref 66), (5, .ref 67), (6, .ref (aN k)), (7, .ref (bfN kb)), (8, .int (nI dn)), (9, .int (nI n)), (10, .ref (aN kp)), (11, .int (nI 1)), (12, .int (nI q.length))]) dL_law_354 (Nat.le_of_ble_eq_true rfl) rfl ?_
        refine a_iload (pc := 356) (i := 12) dL_law_356 rfl ?_
        refine n_if_le (pc := 358) (tgt := 365) dL_law_358 (by decide) (by omega) (fun c358 => ?_) (fun c358 => ?_)
        · skip
          exact absurd c358 (by omega)
        · skip
          refine a_iconst (pc := 361) (v := nI 1) dL_law_361 (by decide) ?_
          refine a_goto (pc := 362) (tgt := 366) dL_law_362 (by decide) ?_
          refine a_istore (pc := 366) (i := 11) (ls' := [(0, .ref 1000), (1, .int (nI 1)), (2, .int (nI i)), (3, .ref 0), (4, .ref 66), (5, .ref 67), (6, .ref (aN k)), (7, .ref (bfN kb)), (8, .int (nI dn)), (9, .int (nI n)), (10, .ref (aN kp)), (11, .int (nI 1)), (12, .int (nI q.length))]) dL_law_366 (Nat.le_of_ble_eq_true rfl) rfl ?_
          refine a_iload (pc := 368) (i := 11) dL_law_368 rfl ?_
          refine n_if_eq (pc := 370) (tgt := 380) dL_law_370 (by decide) (by omega) (fun c370 => ?_) (fun c370 => ?_)
          · skip
            exact absurd c370 (by decide)
          · skip
            refine a_aload (pc := 373) (i := 6) dL_law_373 rfl ?_
            refine a_iload (pc := 375) (i := 12) dL_law_375 rfl ?_
            refine e_VW (pc := 377) (mc := 0) (ms := 0) (kc := kc + 1) (ks := ks + 6) (as := [.int (nI q.length)]) (b := aN k) (ci := 6) dL_law_377 (lc_RL_228 rfl) ceX6_cutsPlan kd_a m1.2.2.2.1.1.2.1 (x_cutsPlan (d := d + 102) m1.2.2.2.1 hv (pl (by omega) q hb) hq8) rfl rfl (Nat.le_of_ble_eq_true rfl) Qu_nt (by omega) (by omega) (Or.inl (fun v h2 y => y.2.2.2)) (fun v2 H4 y => ?_)
            obtain ⟨ev, l4, d4, e4⟩ := y
            cases ev
            have im4 := m1.im d4 (fun a z => SK_SG c12 z)
            refine a_aload_n (pc := 380) (i := 3) dL_law_380 rfl rfl ?_
            refine g_pX (pc := 381) (kc := kc) (ks := ks) (as := [.ref 0]) dL_law_381 (lc_RL_196 rfl) ceL_cut (sL_cut (d := d + 3) im4) rfl rfl (Nat.le_of_ble_eq_true rfl) (by omega) (by omega) (fun H5 im5 f5 => ?_)
            have eo := oc_yes (t := t) (by omega) hb hne
            rw [eo] at im5 ⊢
            have m5 := m1.ch d4 (fun a z => SK_SG c12 z) im5 f5 ((tRem_b t).1.trans m1.2.1) l4
            refine a_iload (pc := 384) (i := 11) dL_law_384 rfl ?_
            refine n_if_eq (pc := 386) (tgt := 394) dL_law_386 (by decide) (by omega) (fun c386 => ?_) (fun c386 => ?_)
            · skip
              exact absurd c386 (by decide)
            · skip
              refine a_iload (pc := 389) (i := 12) dL_law_389 rfl ?_
              refine a_goto (pc := 391) (tgt := 396) dL_law_391 (by decide) ?_
              refine a_icmp_ne (pc := 396) (tgt := 403) dL_law_396 (by decide) (fun c396 => ?_) (fun c396 => ?_)
              · skip
                exact absurd rfl c396
              · skip
                refine a_iconst (pc := 399) (v := nI 1) dL_law_399 (by decide) ?_
                refine a_goto (pc := 400) (tgt := 404) dL_law_400 (by decide) ?_
                refine a_istore_n (pc := 404) (i := 1) (ls' := [(0, .ref 1000), (1, .int (nI 1)), (2, .int (nI i)), (3, .ref 0), (4, .ref 66), (5, .ref 67), (6, .ref (aN k)), (7, .ref (bfN kb)), (8, .int (nI dn)), (9, .int (nI n)), (10, .ref (aN kp)), (11, .int (nI 1)), (12, .int (nI q.length))]) dL_law_404 rfl (Nat.le_of_ble_eq_true rfl) rfl ?_
                refine a_goto (pc := 405) (tgt := 729) dL_law_405 (by decide) ?_
                refine a_drop (ls' := [(0, .ref 1000), (1, .int (nI 1)), (2, .int (nI i)), (3, .ref 0), (4, .ref 66), (5, .ref 67), (6, .ref (aN k)), (7, .ref (bfN kb)), (8, .int (nI dn)), (9, .int (nI n)), (10, .ref (aN kp)), (11, .int (nI 1))]) (by simp) ?_
                exact hY _ _ m5 rfl
      · skip
        refine a_top (show (.int (bestR (tC t)) : Value) = .int ((-1)) from by rw [best_m1 h8 hn]) ?_
        refine a_istore (pc := 354) (i := 12) (ls' := [(0, .ref 1000), (1, .int (nI 1)), (2, .int (nI i)), (3, .ref 0), (4, .ref 66), (5, .ref 67), (6, .ref (aN k)), (7, .ref (bfN kb)), (8, .int (nI dn)), (9, .int (nI n)), (10, .ref (aN kp)), (11, .int (nI 1)), (12, .int ((-1)))]) dL_law_354 (Nat.le_of_ble_eq_true rfl) rfl ?_
        refine a_iload (pc := 356) (i := 12) dL_law_356 rfl ?_
        refine a_if_le (pc := 358) (tgt := 365) dL_law_358 (by decide) (fun c358 => ?_) (fun c358 => ?_)
        · skip
          refine a_iconst (pc := 365) (v := nI 0) dL_law_365 (by decide) ?_
          refine a_istore (pc := 366) (i := 11) (ls' := [(0, .ref 1000), (1, .int (nI 1)), (2, .int (nI i)), (3, .ref 0), (4, .ref 66), (5, .ref 67), (6, .ref (aN k)), (7, .ref (bfN kb)), (8, .int (nI dn)), (9, .int (nI n)), (10, .ref (aN kp)), (11, .int (nI 0)), (12, .int ((-1)))]) dL_law_366 (Nat.le_of_ble_eq_true rfl) rfl ?_
          refine a_iload (pc := 368) (i := 11) dL_law_368 rfl ?_
          refine n_if_eq (pc := 370) (tgt := 380) dL_law_370 (by decide) (by omega) (fun c370 => ?_) (fun c370 => ?_)
          · skip
            refine a_aload_n (pc := 380) (i := 3) dL_law_380 rfl rfl ?_
            refine g_pX (pc := 381) (kc := kc) (ks := ks) (as := [.ref 0]) dL_law_381 (lc_RL_196 rfl) ceL_cut (sL_cut (d := d + 3) m1.1) rfl rfl (Nat.le_of_ble_eq_true rfl) (by omega) (by omega) (fun H3 im3 f3 => ?_)
            have eo := oc_no (t := t) (Or.inr (fun ⟨q, hb, _⟩ => hn ⟨q, hb⟩))
            rw [eo] at im3 ⊢
            have m3 := m1.fw im3 f3 m1.2.1 m1.2.2.2.1
            refine a_top (show (.int (wn (.inr eIS)) : Value) = .int ((-2000000099)) from congrArg Value.int wn_E.2.2.1) ?_
            refine a_iload (pc := 384) (i := 11) dL_law_384 rfl ?_
            refine n_if_eq (pc := 386) (tgt := 394) dL_law_386 (by decide) (by omega) (fun c386 => ?_) (fun c386 => ?_)
            · skip
              refine a_ldc (pc := 394) (v := (-2000000099)) dL_law_394 (li_RL_80 rfl) ?_
              refine a_icmp_ne (pc := 396) (tgt := 403) dL_law_396 (by decide) (fun c396 => ?_) (fun c396 => ?_)
              · skip
                exact absurd rfl c396
              · skip
                refine a_iconst (pc := 399) (v := nI 1) dL_law_399 (by decide) ?_
                refine a_goto (pc := 400) (tgt := 404) dL_law_400 (by decide) ?_
                refine a_istore_n (pc := 404) (i := 1) (ls' := [(0, .ref 1000), (1, .int (nI 1)), (2, .int (nI i)), (3, .ref 0), (4, .ref 66), (5, .ref 67), (6, .ref (aN k)), (7, .ref (bfN kb)), (8, .int (nI dn)), (9, .int (nI n)), (10, .ref (aN kp)), (11, .int (nI 0)), (12, .int ((-1)))]) dL_law_404 rfl (Nat.le_of_ble_eq_true rfl) rfl ?_
                refine a_goto (pc := 405) (tgt := 729) dL_law_405 (by decide) ?_
                refine a_drop (ls' := [(0, .ref 1000), (1, .int (nI 1)), (2, .int (nI i)), (3, .ref 0), (4, .ref 66), (5, .ref 67), (6, .ref (aN k)), (7, .ref (bfN kb)), (8, .int (nI dn)), (9, .int (nI n)), (10, .ref (aN kp)), (11, .int (nI 0))]) (by simp) ?_
                exact hZ _ _ m3 rfl
            · skip
              first | exact absurd c386 (by decide) | exact absurd rfl c386
          · skip
            first | exact absurd c370 (by decide) | exact absurd rfl c370
        · skip
          exact absurd c358 (by decide)
  · skip
    refine a_iconst (pc := 345) (v := nI 0) dL_law_345 (by decide) ?_
    refine a_goto (pc := 346) (tgt := 354) dL_law_346 (by decide) ?_
    refine a_istore (pc := 354) (i := 12) (ls' := [(0, .ref 1000), (1, .int (nI 1)), (2, .int (nI i)), (3, .ref 0), (4, .ref 66), (5, .ref 67), (6, .ref (aN k)), (7, .ref (bfN kb)), (8, .int (nI dn)), (9, .int (nI n)), (10, .ref (aN kp)), (11, .int (nI 1)), (12, .int (nI 0))]) dL_law_354 (Nat.le_of_ble_eq_true rfl) rfl ?_
    refine a_iload (pc := 356) (i := 12) dL_law_356 rfl ?_
    refine n_if_le (pc := 358) (tgt := 365) dL_law_358 (by decide) (by omega) (fun c358 => ?_) (fun c358 => ?_)
    · skip
      refine a_iconst (pc := 365) (v := nI 0) dL_law_365 (by decide) ?_
      refine a_istore (pc := 366) (i := 11) (ls' := [(0, .ref 1000), (1, .int (nI 1)), (2, .int (nI i)), (3, .ref 0), (4, .ref 66), (5, .ref 67), (6, .ref (aN k)), (7, .ref (bfN kb)), (8, .int (nI dn)), (9, .int (nI n)), (10, .ref (aN kp)), (11, .int (nI 0)), (12, .int (nI 0))]) dL_law_366 (Nat.le_of_ble_eq_true rfl) rfl ?_
      refine a_iload (pc := 368) (i := 11) dL_law_368 rfl ?_
      refine n_if_eq (pc := 370) (tgt := 380) dL_law_370 (by decide) (by omega) (fun c370 => ?_) (fun c370 => ?_)
      · skip
        refine a_aload_n (pc := 380) (i := 3) dL_law_380 rfl rfl ?_
        refine g_pX (pc := 381) (kc := kc) (ks := ks) (as := [.ref 0]) dL_law_381 (lc_RL_196 rfl) ceL_cut (sL_cut (d := d + 3) m.1) rfl rfl (Nat.le_of_ble_eq_true rfl) (by omega) (by omega) (fun H3 im3 f3 => ?_)
        have eo := oc_no (t := t) (Or.inr (fun ⟨q, hb, hne⟩ => hne (List.eq_nil_of_length_eq_zero (by have := plV_le (BP_V hb); omega))))
        rw [eo] at im3 ⊢
        have m3 := m.fw im3 f3 m.2.1 m.2.2.2.1
        refine a_top (show (.int (wn (.inr eIS)) : Value) = .int ((-2000000099)) from congrArg Value.int wn_E.2.2.1) ?_
        refine a_iload (pc := 384) (i := 11) dL_law_384 rfl ?_
        refine n_if_eq (pc := 386) (tgt := 394) dL_law_386 (by decide) (by omega) (fun c386 => ?_) (fun c386 => ?_)
        · skip
          refine a_ldc (pc := 394) (v := (-2000000099)) dL_law_394 (li_RL_80 rfl) ?_
          refine a_icmp_ne (pc := 396) (tgt := 403) dL_law_396 (by decide) (fun c396 => ?_) (fun c396 => ?_)
          · skip
            exact absurd rfl c396
          · skip
            refine a_iconst (pc := 399) (v := nI 1) dL_law_399 (by decide) ?_
            refine a_goto (pc := 400) (tgt := 404) dL_law_400 (by decide) ?_
            refine a_istore_n (pc := 404) (i := 1) (ls' := [(0, .ref 1000), (1, .int (nI 1)), (2, .int (nI i)), (3, .ref 0), (4, .ref 66), (5, .ref 67), (6, .ref (aN k)), (7, .ref (bfN kb)), (8, .int (nI dn)), (9, .int (nI n)), (10, .ref (aN kp)), (11, .int (nI 0)), (12, .int (nI 0))]) dL_law_404 rfl (Nat.le_of_ble_eq_true rfl) rfl ?_
            refine a_goto (pc := 405) (tgt := 729) dL_law_405 (by decide) ?_
            refine a_drop (ls' := [(0, .ref 1000), (1, .int (nI 1)), (2, .int (nI i)), (3, .ref 0), (4, .ref 66), (5, .ref 67), (6, .ref (aN k)), (7, .ref (bfN kb)), (8, .int (nI dn)), (9, .int (nI n)), (10, .ref (aN kp)), (11, .int (nI 0))]) (by simp) ?_
            exact hZ _ _ m3 rfl
        · skip
          first | exact absurd c386 (by decide) | exact absurd rfl c386
      · skip
        first | exact absurd c370 (by decide) | exact absurd rfl c370
    · skip
      exact absurd c358 (by omega)
