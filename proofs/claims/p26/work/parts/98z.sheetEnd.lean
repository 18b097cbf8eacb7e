/-! randomSheet: from its end -/
theorem psn_le {W E m : Nat} (hW : W ≤ 4) (hE : E ≤ 3) (hm : m ≤ E + E) : psn W E m ≤ 49 := by
  have := Nat.mul_le_mul (show m ≤ 6 by omega) (show W + 1 ≤ 5 by omega)
  unfold psn
  split <;> omega
set_option maxHeartbeats 1500000 in
set_option maxRecDepth 100000 in
theorem rs_5 {X : XT} {d k W E v a1 a2 : Nat} {h0 H : AH} {t0 : ST} {Ln : Nat → List Nat} {f : Nat → Nat} {T : List Nat} (hW : 1 ≤ W ∧ W ≤ 4) (hE : 1 ≤ E ∧ E ≤ 3) (nw0 : ∀ i q, q < 1024 → ¬ prN (hN h0) (nm (k + i) q)) (r : RI h0 H t0 k W E v (2 * E) (2 * E) Ln f T) (lt : LNs T W E (E + E) Ln) (hLn : ∀ r, r < 2 * E → (Ln r).length = W ∧ ∀ j, j < W → okq ((Ln r).getD j 0)) (hs : (a1 = psn W E (E + E) ∧ ∀ r, r < E + E → f r = 1) ∨ (a1 = psn W E (E + E) + 6 + 2 * (E + E) ∧ SZs T (psn W E (E + E)) (E + E) f ∧ ∀ r, r < E + E → 1 ≤ f r ∧ f r ≤ 9)) (hl : (a2 = a1 ∧ v = 1) ∨ (a2 = a1 + 8 ∧ LSs T a1 v ∧ 1 ≤ v ∧ v ≤ 9)) (hT : T.length = a2) : AW X mL_randomSheet (d + 104) 1 6 343 [(0, .ref 0), (1, .ref 66), (2, .ref 67), (3, .ref (aN k))] [] H (QRs t0 k h0) := by
  have hp := psn_le hW.2 hE.2 (Nat.le_refl (E + E))
  have g1 : a1 = psn W E (E + E) ∨ a1 = psn W E (E + E) + 6 + 2 * (E + E) := hs.imp And.left And.left
  have g2 : a2 = a1 ∨ a2 = a1 + 8 := hl.imp And.left And.left
  have z13 : (zT 13).length = 2 := rfl
  have y13 : (zT 13).getD 0 0 = 32 ∧ (zT 13).getD 1 0 = 59 := by decide +kernel
  have hT2 : (T ++ zT 13).length = a2 + 2 := by rw [List.length_append, hT, z13]
  refine a_aload_n (pc := 343) (i := 0) dL_randomSheet_343 rfl rfl ?_
  refine a_aload_n (pc := 344) (i := 1) dL_randomSheet_344 rfl rfl ?_
  refine a_ldcS (pc := 345) (i := 13) (tx := " ;") dL_randomSheet_345 (by decide) (by decide) ?_
  refine g_uS (pc := 347) (as := [.ref 0, .ref 66, .ref (1001 + 13)]) dL_randomSheet_347 (lc_RL_90 rfl) ceL_write (w_write (d := d) r.2.1 (STR_c (i := 13) (by decide)) r.n68 (by omega)) rfl rfl (Nat.le_of_ble_eq_true rfl) (fun h2 y => y.2.2) (fun H1 yH1 => ?_)
  have r_2 := r.w yH1
  refine a_aload_n (pc := 350) (i := 0) dL_randomSheet_350 rfl rfl ?_
  refine a_aload_n (pc := 351) (i := 1) dL_randomSheet_351 rfl rfl ?_
  refine e_SW (pc := 352) (mc := 1) (ms := 6) (kc := 0) (ks := 0) (as := [.ref 0, .ref 66]) dL_randomSheet_352 (lc_RL_160 rfl) ceL_loadText (w_loadText (d := d + 1) r_2.2.1 (by omega)) rfl rfl (Nat.le_of_ble_eq_true rfl) (fun E h2 y => by obtain ⟨t2, b, -, y, -⟩ := y; cases y) rfl rfl (Or.inl (fun v h2 y => by obtain ⟨t2, b, -, -, -, -, -, y⟩ := y; exact y)) (fun v2 HL y => ?_)
  obtain ⟨t2, b, ⟨ta, hb1, hb2⟩, ev, m2, bz2, dq2, eN2⟩ := y
  cases ev
  have pr := pRead_law (n := (T ++ zT 13).length) (W := W) (H := E) (v := v) (a1 := a1) (a2 := a2) (Y := tY t2) (T := T ++ zT 13) (Ln := Ln) (f := f) (fun j hj => ta.2.2.2 j (by omega)) ⟨hW.1, by omega⟩ ⟨hE.1, by omega⟩ (lt.pfx hE.1 (by omega) ⟨by omega, _, rfl⟩) (fun r hr => (hLn r (by omega)).2) (hs.imp id (fun z => ⟨z.1, z.2.1.pfx ⟨by have := z.1; omega, _, rfl⟩, z.2.2⟩)) (hl.imp id (fun z => ⟨z.1, z.2.1.pfx ⟨by have := z.1; omega, _, rfl⟩, z.2.2⟩)) ⟨hT2, (gA2 (i := 0) (by omega)).trans y13.1, (gA2 (i := 1) (by omega)).trans y13.2⟩
  have gs := pRead_G pr.1
  obtain ⟨sF, hsF⟩ : ∃ x, x = (pRead (T ++ zT 13).length (tY t2)).2.2 := ⟨_, rfl⟩
  have eo : oLoad t2 (nI (T ++ zT 13).length) = _ := cif_t ⟨(T ++ zT 13).length, by rw [ta.2.2.1]; exact hb1, rfl⟩
  rw [i2n_nI (by omega), cif_t pr.1, ← hsF] at eo
  rw [← hsF] at pr gs
  rw [eo] at m2 ⊢
  have sh2 := r_2.1.dq dq2 (fun a z => S67_68 z)
  have lw := LW_of hW.2 hE.2 sh2 pr.2 gs hLn
  have c12 := cells12 lw.1.1
  obtain ⟨c0, dq0⟩ := r_2.2.2
  refine a_top (show (.int (wn (ri (nI (sCells sF)))) : Value) = .int (nI (sCells sF)) from rfl) ?_
  refine a_aload_n (pc := 355) (i := 3) dL_randomSheet_355 rfl rfl ?_
  refine g_vV1 (pc := 356) (as := []) (b := aN k) (ci := 6) (v := .int (nI (sCells sF))) (h' := HL) dL_randomSheet_356 (lc_RL_126 rfl) ceX6_all kd_a lw.1.2.1 (x_all (d := d + 103) lw) rfl rfl (Nat.le_of_ble_eq_true rfl) rfl ?_
  refine n_icmp_ne (pc := 359) (tgt := 366) dL_randomSheet_359 (by decide) (by omega) (by omega) (fun c359 => ?_) (fun c359 => ?_)
  · skip
    exact absurd rfl c359
  · skip
    refine a_aload_n (pc := 362) (i := 3) dL_randomSheet_362 rfl rfl ?_
    refine a_goto (pc := 363) (tgt := 367) dL_randomSheet_363 (by decide) ?_
    refine a_wf (fun hwF => ?_)
    exact a_areturn (pc := 367) dL_randomSheet_367 rfl rfl (prN_ne hwF.1 lw.1.2.1) ⟨rfl, _, m2, (by show tB (tRem (tLd t2 _)) = 0; rw [(tRem_b _).1]; rfl), bz2, lw, _, dq0.trans (dq2.mono (fun a z => S67_68 z))⟩
set_option maxHeartbeats 1500000 in
set_option maxRecDepth 100000 in
theorem rs_4 {X : XT} {d k W E a1 : Nat} {h0 H : AH} {t0 : ST} {Ln : Nat → List Nat} {f : Nat → Nat} {T : List Nat} (hW : 1 ≤ W ∧ W ≤ 4) (hE : 1 ≤ E ∧ E ≤ 3) (nw0 : ∀ i q, q < 1024 → ¬ prN (hN h0) (nm (k + i) q)) (r : RI h0 H t0 k W E 1 (2 * E) (2 * E) Ln f T) (lt : LNs T W E (E + E) Ln) (hLn : ∀ r, r < 2 * E → (Ln r).length = W ∧ ∀ j, j < W → okq ((Ln r).getD j 0)) (hs : (a1 = psn W E (E + E) ∧ ∀ r, r < E + E → f r = 1) ∨ (a1 = psn W E (E + E) + 6 + 2 * (E + E) ∧ SZs T (psn W E (E + E)) (E + E) f ∧ ∀ r, r < E + E → 1 ≤ f r ∧ f r ≤ 9)) (hT : T.length = a1) : AW X mL_randomSheet (d + 104) 1 6 308 [(0, .ref 0), (1, .ref 66), (2, .ref 67), (3, .ref (aN k))] [] H (QRs t0 k h0) := by
  have hp := psn_le hW.2 hE.2 (Nat.le_refl (E + E))
  have g1 : a1 = psn W E (E + E) ∨ a1 = psn W E (E + E) + 6 + 2 * (E + E) := hs.imp And.left And.left
  have z12 : (zT 12).length = 7 := rfl
  refine a_aload_n (pc := 308) (i := 2) dL_randomSheet_308 rfl rfl ?_
  refine a_iconst (pc := 309) (v := nI 3) dL_randomSheet_309 (by decide) ?_
  refine g_wV (pc := 310) (as := [.int (nI 3)]) (b := 67) (ci := 5) dL_randomSheet_310 (lc_RL_98 rfl) ceX5_below k67 (prN_st (Nat.lt_of_lt_of_le (by decide) r.n68) (by decide)) (x_below (d := d + 103) r.n68 (by omega)) rfl rfl (Nat.le_of_ble_eq_true rfl) (fun E h2 y => by obtain ⟨n, x, -, y, -⟩ := y; cases y) (fun v2 h2 y => by obtain ⟨n, x, -, -, y⟩ := y; rw [y]; rfl) (fun v2 hx y => ?_)
  obtain ⟨q0, x0, hq0, evq0, rfl⟩ := y
  cases evq0
  have r_1 := r.bel (x := x0)
  obtain ⟨H2, hH2⟩ : ∃ Hx, Hx = sI H 67 0 x0 := ⟨_, rfl⟩
  refine a_heap (h' := H2) hH2.symm ?_
  rw [← hH2] at r_1
  refine n_if_ne (pc := 313) (tgt := 343) dL_randomSheet_313 (by decide) (by omega) (fun c313 => ?_) (fun c313 => ?_)
  · skip
    exact rs_5 hW hE nw0 r_1 lt hLn hs (Or.inl ⟨hT, rfl⟩) rfl
  · skip
    refine a_aload_n (pc := 316) (i := 3) dL_randomSheet_316 rfl rfl ?_
    refine a_iconst (pc := 317) (v := nI 1) dL_randomSheet_317 (by decide) ?_
    refine a_aload_n (pc := 318) (i := 2) dL_randomSheet_318 rfl rfl ?_
    refine a_iconst (pc := 319) (v := nI 3) dL_randomSheet_319 (by decide) ?_
    refine g_wV (pc := 320) (as := [.int (nI 3)]) (b := 67) (ci := 5) dL_randomSheet_320 (lc_RL_98 rfl) ceX5_below k67 (prN_st (Nat.lt_of_lt_of_le (by decide) r_1.n68) (by decide)) (x_below (d := d + 103) r_1.n68 (by omega)) rfl rfl (Nat.le_of_ble_eq_true rfl) (fun E h2 y => by obtain ⟨n, x, -, y, -⟩ := y; cases y) (fun v2 h2 y => by obtain ⟨n, x, -, -, y⟩ := y; rw [y]; rfl) (fun v2 hx y => ?_)
    obtain ⟨q1, x2, hq1, evq1, rfl⟩ := y
    cases evq1
    have r_3 := r_1.bel (x := x2)
    obtain ⟨H4, hH4⟩ : ∃ Hx, Hx = sI H2 67 0 x2 := ⟨_, rfl⟩
    refine a_heap (h' := H4) hH4.symm ?_
    rw [← hH4] at r_3
    refine n_iadd (pc := 323) dL_randomSheet_323 ?_
    refine g_putI (pc := 324) (ci := 6) (k := 4) dL_randomSheet_324 (lf_RL_154 rfl) (by decide) (Or.inl rfl) kd_a r_3.1.1.1 rfl ?_
    have r_5 := r_3.own (k1 := k) (q1 := 6) (r_3.1.least hW.2 hE.2 (y := 1 + q1)) ((Dq.refl r_3.n68 : Dq (fun a => a = aN k) 0 _ _).sI (Or.inl rfl)) (nw0 0 _ (by decide))
    obtain ⟨H6, hH6⟩ : ∃ Hx, Hx = sI H4 (aN k) 4 (nI (1 + q1)) := ⟨_, rfl⟩
    refine a_heap (h' := H6) hH6.symm ?_
    rw [← hH6] at r_5
    refine a_aload_n (pc := 327) (i := 0) dL_randomSheet_327 rfl rfl ?_
    refine a_aload_n (pc := 328) (i := 1) dL_randomSheet_328 rfl rfl ?_
    refine a_ldcS (pc := 329) (i := 12) (tx := ";least ") dL_randomSheet_329 (by decide) (by decide) ?_
    refine g_uS (pc := 331) (as := [.ref 0, .ref 66, .ref (1001 + 12)]) dL_randomSheet_331 (lc_RL_90 rfl) ceL_write (w_write (d := d) r_5.2.1 (STR_c (i := 12) (by decide)) r_5.n68 (by omega)) rfl rfl (Nat.le_of_ble_eq_true rfl) (fun h2 y => y.2.2) (fun H7 yH7 => ?_)
    have r_8 := r_5.w yH7
    refine a_aload_n (pc := 334) (i := 0) dL_randomSheet_334 rfl rfl ?_
    refine a_aload_n (pc := 335) (i := 1) dL_randomSheet_335 rfl rfl ?_
    refine a_aload_n (pc := 336) (i := 3) dL_randomSheet_336 rfl rfl ?_
    refine g_getI (pc := 337) (ci := 6) (k := 4) dL_randomSheet_337 (lf_RL_154 rfl) (by decide) rfl kd_a r_8.1.1.1 ?_
    refine a_top (show (.int (hI H7 (aN k) 4) : Value) = .int (nI (1 + q1)) from congrArg Value.int r_8.1.2.1.2.2.1) ?_
    refine g_uS (pc := 340) (as := [.ref 0, .ref 66, .int (nI (1 + q1))]) dL_randomSheet_340 (lc_RL_143 rfl) ceL_writeNumber (w_writeNumber (d := d) r_8.2.1 (by omega) (by rw [List.length_append, z12]; omega)) rfl rfl (Nat.le_of_ble_eq_true rfl) (fun h2 y => y.2.2) (fun H9 yH9 => ?_)
    have r_10 := r_8.w yH9
    obtain ⟨z1, z2⟩ := LS_of (v := 1 + q1) hT
    have e2 : (T ++ zT 12) ++ [48 + (1 + q1)] = T ++ (zT 12 ++ [48 + (1 + q1)]) := List.append_assoc _ _ _
    have px : ∀ a, a ≤ a1 → Pfx a T ((T ++ zT 12) ++ [48 + (1 + q1)]) := fun a ha => ⟨by omega, _, e2⟩
    exact rs_5 hW hE nw0 r_10 (lt.pfx hE.1 (by omega) (px _ (by omega))) hLn (hs.imp id (fun z => ⟨z.1, z.2.1.pfx (px _ (by have := z.1; omega)), z.2.2⟩)) (Or.inr ⟨rfl, z1, by omega, by omega⟩) z2
set_option maxHeartbeats 1500000 in
set_option maxRecDepth 100000 in
theorem rs_3 {X : XT} {d k W E : Nat} {h0 : AH} {t0 : ST} {Ln : Nat → List Nat} (hW : 1 ≤ W ∧ W ≤ 4) (hE : 1 ≤ E ∧ E ≤ 3) (nw0 : ∀ i q, q < 1024 → ¬ prN (hN h0) (nm (k + i) q)) (hLn : ∀ r, r < 2 * E → (Ln r).length = W ∧ ∀ j, j < W → okq ((Ln r).getD j 0)) : ∀ (fu j : Nat) (H : AH) (T : List Nat) (f : Nat → Nat), j ≤ 2 * E → RI h0 H t0 k W E 1 (2 * E) (2 * E) Ln f T → LNs T W E (E + E) Ln → SZs T (psn W E (E + E)) j f → T.length = psn W E (E + E) + 6 + 2 * j → (∀ r, r < j → 1 ≤ f r ∧ f r ≤ 9) → 2 * E - j < fu → AW X mL_randomSheet (d + 104) 1 6 258 [(0, .ref 0), (1, .ref 66), (2, .ref 67), (3, .ref (aN k)), (4, .int (nI j))] [] H (QRs t0 k h0) := by
  have hp := psn_le hW.2 hE.2 (Nat.le_refl (E + E))
  intro fu
  induction fu with
  | zero => intro j H T f hj r lt sz hT hf hz; exact absurd hz (Nat.not_lt_zero _)
  | succ fu ih =>
    intro j H T f hj r lt sz hT hf hz
    refine a_iload (pc := 258) (i := 4) dL_randomSheet_258 rfl ?_
    refine a_iconst (pc := 260) (v := nI 2) dL_randomSheet_260 (by decide) ?_
    refine a_aload_n (pc := 261) (i := 3) dL_randomSheet_261 rfl rfl ?_
    refine g_getI (pc := 262) (ci := 6) (k := 1) dL_randomSheet_262 (lf_RL_123 rfl) (by decide) rfl kd_a r.1.1.1 ?_
    refine a_top (show (.int (hI H (aN k) 1) : Value) = .int (nI E) from congrArg Value.int r.1.2.1.2.1) ?_
    refine n_imul (pc := 265) dL_randomSheet_265 ?_
    refine n_icmp_ge (pc := 266) (tgt := 308) dL_randomSheet_266 (by decide) (by omega) (by omega) (fun c266 => ?_) (fun c266 => ?_)
    · skip
      obtain rfl : j = 2 * E := by omega
      refine a_drop (ls' := [(0, .ref 0), (1, .ref 66), (2, .ref 67), (3, .ref (aN k))]) (by simp) ?_
      have e2 : 2 * E = E + E := by omega
      rw [e2] at sz hf hT
      exact rs_4 hW hE nw0 r lt hLn (Or.inr ⟨rfl, sz, hf⟩) hT
    · skip
      refine a_aload_n (pc := 269) (i := 3) dL_randomSheet_269 rfl rfl ?_
      refine g_getR (pc := 270) (ci := 6) (k := 3) (b := szN k E) dL_randomSheet_270 (lf_RL_137 rfl) (by decide) rfl kd_a r.1.1.1 r.1.2.2.1.2.2.2.2 ?_
      refine a_iload (pc := 273) (i := 4) dL_randomSheet_273 rfl ?_
      refine a_iconst (pc := 275) (v := nI 1) dL_randomSheet_275 (by decide) ?_
      refine a_aload_n (pc := 276) (i := 2) dL_randomSheet_276 rfl rfl ?_
      refine a_iconst (pc := 277) (v := nI 4) dL_randomSheet_277 (by decide) ?_
      refine g_wV (pc := 278) (as := [.int (nI 4)]) (b := 67) (ci := 5) dL_randomSheet_278 (lc_RL_98 rfl) ceX5_below k67 (prN_st (Nat.lt_of_lt_of_le (by decide) r.n68) (by decide)) (x_below (d := d + 103) r.n68 (by omega)) rfl rfl (Nat.le_of_ble_eq_true rfl) (fun E h2 y => by obtain ⟨n, x, -, y, -⟩ := y; cases y) (fun v2 h2 y => by obtain ⟨n, x, -, -, y⟩ := y; rw [y]; rfl) (fun v2 hx y => ?_)
      obtain ⟨q0, x0, hq0, evq0, rfl⟩ := y
      cases evq0
      have r_1 := r.bel (x := x0)
      obtain ⟨H2, hH2⟩ : ∃ Hx, Hx = sI H 67 0 x0 := ⟨_, rfl⟩
      refine a_heap (h' := H2) hH2.symm ?_
      rw [← hH2] at r_1
      refine n_iadd (pc := 281) dL_randomSheet_281 ?_
      refine g_iast (pc := 282) (j := j) dL_randomSheet_282 (kd_sz hE.2) r_1.1.1.2.2.2.2.2 rfl (by omega) ?_
      have r_3 := r_1.own (k1 := k + 8) (q1 := (qA 0 (2 * E))) (r_1.1.size hW.2 hE.2 (j := j) (y := 1 + q0) (f2 := fun r => if r = j then 1 + q0 else f r) (m3 := 2 * E) (if_pos rfl) (fun r hr => if_neg hr) (fun r hr _ => hr)) ((Dq.refl r_1.n68 : Dq (fun a => a = szN k E) 0 _ _).sI (Or.inl rfl)) (nw0 8 _ (by have := hE.2; unfold qA; omega))
      obtain ⟨H4, hH4⟩ : ∃ Hx, Hx = sI H2 (szN k E) j (nI (1 + q0)) := ⟨_, rfl⟩
      refine a_heap (h' := H4) hH4.symm ?_
      rw [← hH4] at r_3
      refine a_aload_n (pc := 283) (i := 0) dL_randomSheet_283 rfl rfl ?_
      refine a_aload_n (pc := 284) (i := 1) dL_randomSheet_284 rfl rfl ?_
      refine a_ldcS (pc := 285) (i := 8) (tx := " ") dL_randomSheet_285 (by decide) (by decide) ?_
      refine g_uS (pc := 287) (as := [.ref 0, .ref 66, .ref (1001 + 8)]) dL_randomSheet_287 (lc_RL_90 rfl) ceL_write (w_write (d := d) r_3.2.1 (STR_c (i := 8) (by decide)) r_3.n68 (by rw [show (zT 8).length = 1 from rfl]; omega)) rfl rfl (Nat.le_of_ble_eq_true rfl) (fun h2 y => y.2.2) (fun H5 yH5 => ?_)
      have r_6 := r_3.w yH5
      refine a_aload_n (pc := 290) (i := 0) dL_randomSheet_290 rfl rfl ?_
      refine a_aload_n (pc := 291) (i := 1) dL_randomSheet_291 rfl rfl ?_
      refine a_aload_n (pc := 292) (i := 3) dL_randomSheet_292 rfl rfl ?_
      refine g_getR (pc := 293) (ci := 6) (k := 3) (b := szN k E) dL_randomSheet_293 (lf_RL_137 rfl) (by decide) rfl kd_a r_6.1.1.1 r_6.1.2.2.1.2.2.2.2 ?_
      refine a_iload (pc := 296) (i := 4) dL_randomSheet_296 rfl ?_
      refine g_iald (pc := 298) (j := j) dL_randomSheet_298 (kd_sz hE.2) r_6.1.1.2.2.2.2.2 rfl (by omega) ?_
      refine a_top (show (.int (hI H5 (szN k E) j) : Value) = .int (nI (1 + q0)) from congrArg Value.int ((r_6.1.2.2.2.2.2.2 j (by omega)).trans (congrArg nI (if_pos rfl)))) ?_
      refine g_uS (pc := 299) (as := [.ref 0, .ref 66, .int (nI (1 + q0))]) dL_randomSheet_299 (lc_RL_143 rfl) ceL_writeNumber (w_writeNumber (d := d) r_6.2.1 (by omega) (by rw [List.length_append, show (zT 8).length = 1 from rfl]; omega)) rfl rfl (Nat.le_of_ble_eq_true rfl) (fun h2 y => y.2.2) (fun H7 yH7 => ?_)
      have r_8 := r_6.w yH7
      obtain ⟨z1, z2⟩ := SZ_step (x := 1 + q0) sz hT
      have e2 : (T ++ zT 8) ++ [48 + (1 + q0)] = T ++ (zT 8 ++ [48 + (1 + q0)]) := List.append_assoc _ _ _
      refine n_iinc (pc := 302) (k := 1) (ls' := [(0, .ref 0), (1, .ref 66), (2, .ref 67), (3, .ref (aN k)), (4, .int (nI (j + 1)))]) dL_randomSheet_302 rfl (by decide) (by decide) rfl ?_
      refine a_goto (pc := 305) (tgt := 258) dL_randomSheet_305 (by decide) ?_
      exact ih (j + 1) _ _ _ (by omega) r_8 (lt.pfx hE.1 (by omega) ⟨by omega, _, e2⟩) z1 z2 (fun r hr => by show 1 ≤ (if r = j then 1 + q0 else f r) ∧ (if r = j then 1 + q0 else f r) ≤ 9; by_cases e : r = j; rw [if_pos e]; omega; rw [if_neg e]; exact hf r (by omega)) (by omega)
set_option maxHeartbeats 1500000 in
set_option maxRecDepth 100000 in
theorem rs_2 {X : XT} {d k W E  : Nat} {h0 H : AH} {t0 : ST} {Ln : Nat → List Nat} {T : List Nat} (hW : 1 ≤ W ∧ W ≤ 4) (hE : 1 ≤ E ∧ E ≤ 3) (nw0 : ∀ i q, q < 1024 → ¬ prN (hN h0) (nm (k + i) q)) (r : RI h0 H t0 k W E 1 (2 * E) (2 * E) Ln (fun _ => 1) T) (lt : LNs T W E (E + E) Ln) (hLn : ∀ r, r < 2 * E → (Ln r).length = W ∧ ∀ j, j < W → okq ((Ln r).getD j 0)) (hT : T.length = psn W E (E + E)) : AW X mL_randomSheet (d + 104) 1 6 240 [(0, .ref 0), (1, .ref 66), (2, .ref 67), (3, .ref (aN k))] [] H (QRs t0 k h0) := by
  have hp := psn_le hW.2 hE.2 (Nat.le_refl (E + E))
  refine a_aload_n (pc := 240) (i := 2) dL_randomSheet_240 rfl rfl ?_
  refine a_iconst (pc := 241) (v := nI 2) dL_randomSheet_241 (by decide) ?_
  refine g_wV (pc := 242) (as := [.int (nI 2)]) (b := 67) (ci := 5) dL_randomSheet_242 (lc_RL_98 rfl) ceX5_below k67 (prN_st (Nat.lt_of_lt_of_le (by decide) r.n68) (by decide)) (x_below (d := d + 103) r.n68 (by omega)) rfl rfl (Nat.le_of_ble_eq_true rfl) (fun E h2 y => by obtain ⟨n, x, -, y, -⟩ := y; cases y) (fun v2 h2 y => by obtain ⟨n, x, -, -, y⟩ := y; rw [y]; rfl) (fun v2 hx y => ?_)
  obtain ⟨q0, x0, hq0, evq0, rfl⟩ := y
  cases evq0
  have r_1 := r.bel (x := x0)
  obtain ⟨H2, hH2⟩ : ∃ Hx, Hx = sI H 67 0 x0 := ⟨_, rfl⟩
  refine a_heap (h' := H2) hH2.symm ?_
  rw [← hH2] at r_1
  refine n_if_ne (pc := 245) (tgt := 308) dL_randomSheet_245 (by decide) (by omega) (fun c245 => ?_) (fun c245 => ?_)
  · skip
    exact rs_4 hW hE nw0 r_1 lt hLn (Or.inl ⟨rfl, fun r _ => rfl⟩) hT
  · skip
    refine a_aload_n (pc := 248) (i := 0) dL_randomSheet_248 rfl rfl ?_
    refine a_aload_n (pc := 249) (i := 1) dL_randomSheet_249 rfl rfl ?_
    refine a_ldcS (pc := 250) (i := 11) (tx := ";sizes") dL_randomSheet_250 (by decide) (by decide) ?_
    refine g_uS (pc := 252) (as := [.ref 0, .ref 66, .ref (1001 + 11)]) dL_randomSheet_252 (lc_RL_90 rfl) ceL_write (w_write (d := d) r_1.2.1 (STR_c (i := 11) (by decide)) r_1.n68 (by rw [show (zT 11).length = 6 from rfl]; omega)) rfl rfl (Nat.le_of_ble_eq_true rfl) (fun h2 y => y.2.2) (fun H3 yH3 => ?_)
    have r_4 := r_1.w yH3
    refine a_iconst (pc := 255) (v := nI 0) dL_randomSheet_255 (by decide) ?_
    refine a_istore (pc := 256) (i := 4) (ls' := [(0, .ref 0), (1, .ref 66), (2, .ref 67), (3, .ref (aN k)), (4, .int (nI 0))]) dL_randomSheet_256 (by decide) rfl ?_
    obtain ⟨z1, z2⟩ := SZ_0 (f := fun _ => 1) hT
    exact rs_3 hW hE nw0 hLn (2 * E + 1) 0 _ _ _ (Nat.zero_le _) r_4 (lt.pfx hE.1 (by omega) ⟨by omega, _, rfl⟩) z1 z2 (fun r hr => absurd hr (Nat.not_lt_zero r)) (by omega)
