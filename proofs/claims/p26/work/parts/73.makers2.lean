/-! the makers of LetterCuts and of LetterCutsModel -/
def RS4 : List (Nat × Nat × Nat) := [(0, 8, 16), (16, 7, 33), (16, 6, 32), (16, 4, 31), (16, 3, 22), (22, 0, 23), (22, 1, 24), (22, 2, 25), (22, 3, 26), (22, 4, 27), (22, 5, 28), (22, 6, 29), (22, 7, 30), (16, 2, 21), (16, 1, 20), (16, 0, 17), (17, 1, 19), (17, 0, 18), (0, 7, 13), (13, 1, 15), (13, 0, 14), (0, 6, 7), (7, 1, 12), (7, 0, 8), (8, 6, 11), (8, 4, 10), (8, 3, 9), (0, 4, 6), (0, 3, 2), (2, 6, 5), (2, 4, 4), (2, 3, 3), (0, 0, 1)]
def IS4 : List (Nat × Nat × Int32) := [(0, 9, nI 0), (0, 5, nI 0), (0, 2, (-1)), (0, 1, nI 0)]
set_option maxHeartbeats 8000000 in
set_option maxRecDepth 100000 in
theorem mk4 {d : Nat} {h : AH} (hn : hN h = 1) : AC mX4_init (d + 4) 65 3305 [.ref 0] h (Qc 0 66 RS4 h (fun h2 => BI IS4 h2 ∧ CR h2 2 (newS 1 1) ∧ ∀ j, j < 8 → hR h2 6 j = some (34 + 4 * j) ∧ hR h2 (34 + 4 * j) 3 = some (34 + 4 * j + 1) ∧ hR h2 (34 + 4 * j) 4 = some (34 + 4 * j + 2) ∧ hR h2 (34 + 4 * j) 6 = some (34 + 4 * j + 3))) := by
  refine AC.of (by decide) rfl (Nat.le_of_ble_eq_true rfl) (fun X => ?_)
  show AW X mX4_init (d + 4) 65 3305 0 [(0, .ref 0)] [] h (Qc 0 66 RS4 h (fun h2 => BI IS4 h2 ∧ CR h2 2 (newS 1 1) ∧ ∀ j, j < 8 → hR h2 6 j = some (34 + 4 * j) ∧ hR h2 (34 + 4 * j) 3 = some (34 + 4 * j + 1) ∧ hR h2 (34 + 4 * j) 4 = some (34 + 4 * j + 2) ∧ hR h2 (34 + 4 * j) 6 = some (34 + 4 * j + 3)))
  have b0 : BD 1 [] h := BD.nil hn
  refine a_aload_n (pc := 0) (i := 0) dX4_init_0 rfl rfl ?_
  refine a_objInit (pc := 1) dX4_init_1 (tbi 33 (by decide +kernel)) (Nat.le_of_ble_eq_true rfl) ?_
  refine a_aload_n (pc := 4) (i := 0) dX4_init_4 rfl rfl ?_
  refine a_sipush (pc := 5) (v := nI 400) dX4_init_5 (by decide) ?_
  refine b_newarr (pc := 8) (N := 1) (t := 1) (n := 400) (kc := 64) (ks := 2905) b0.1 rfl rfl dX4_init_8 rfl rfl (by decide) aC_in.2.1 rfl (by decide) (by decide) ?_
  obtain ⟨g1, e1⟩ : ∃ Hx, Hx = nw h := ⟨_, rfl⟩
  refine a_heap (h' := g1) e1.symm ?_
  have n1 : hN g1 = 2 := by rw [e1]; exact congrArg (· + 1) b0.1
  have b1 : BD (2) [] g1 := b0.keep (k := 1) (by rw [e1]; exact Sb.nw b0.1 (Nat.le_refl _)) n1 (by decide)
  have s1 : Sb 0 h g1 := Sb.refl.trans (by rw [e1]; exact Sb.nw b0.1 (by omega))
  refine a_putRF (pc := 10) (ci := 4) (k := 0) dX4_init_10 (lfm_RX4_9 rfl) (by decide) rfl rfl (ltN n1 (by omega)) (ltN n1 (by omega)) rfl rfl rfl rfl ?_
  obtain ⟨g2, e2⟩ : ∃ Hx, Hx = sR g1 0 0 (some 1) := ⟨_, rfl⟩
  refine a_heap (h' := g2) e2.symm ?_
  have b2 : BD (2) [(0, 0, 1)] g2 := by rw [e2]; exact b1.sR (by decide)
  have s2 : Sb 0 h g2 := s1.trans (by rw [e2]; exact Sb.sR (by omega))
  have i0 : BI [] g2 := BI.nil
  refine a_aload_n (pc := 13) (i := 0) dX4_init_13 rfl rfl ?_
  refine a_iconst (pc := 14) (v := nI 0) dX4_init_14 (by decide) ?_
  refine a_putI (pc := 15) (ci := 4) (k := 1) dX4_init_15 (lf_RX4_13 rfl) (by decide) (Or.inl rfl) rfl (ltN b2.1 (by omega)) rfl ?_
  obtain ⟨g3, e3⟩ : ∃ Hx, Hx = sI g2 0 1 (nI 0) := ⟨_, rfl⟩
  refine a_heap (h' := g3) e3.symm ?_
  have b3 : BD (2) [(0, 0, 1)] g3 := by rw [e3]; exact b2
  have s3 : Sb 0 h g3 := s2.trans (by rw [e3]; exact Sb.sI (by omega))
  have i3 : BI [(0, 1, nI 0)] g3 := by rw [e3]; exact i0.sI (by decide)
  refine a_aload_n (pc := 18) (i := 0) dX4_init_18 rfl rfl ?_
  refine a_iconst (pc := 19) (v := (-1)) dX4_init_19 (by decide) ?_
  refine a_putI (pc := 20) (ci := 4) (k := 2) dX4_init_20 (lf_RX4_17 rfl) (by decide) (Or.inl rfl) rfl (ltN b3.1 (by omega)) rfl ?_
  obtain ⟨g4, e4⟩ : ∃ Hx, Hx = sI g3 0 2 ((-1)) := ⟨_, rfl⟩
  refine a_heap (h' := g4) e4.symm ?_
  have b4 : BD (2) [(0, 0, 1)] g4 := by rw [e4]; exact b3
  have s4 : Sb 0 h g4 := s3.trans (by rw [e4]; exact Sb.sI (by omega))
  have i4 : BI [(0, 2, (-1)), (0, 1, nI 0)] g4 := by rw [e4]; exact i3.sI (by decide)
  refine a_aload_n (pc := 23) (i := 0) dX4_init_23 rfl rfl ?_
  refine b_new (pc := 24) (n := 2) (ci := 3) (kc := 63) (ks := 2895) b4.1 rfl rfl dX4_init_24 rfl (tbi 36 (by decide +kernel)) (tbi 37 (by decide +kernel)) (tbi 2 (by decide +kernel)) (by decide) (by decide) ?_
  obtain ⟨g5, e5⟩ : ∃ Hx, Hx = nw g4 := ⟨_, rfl⟩
  refine a_heap (h' := g5) e5.symm ?_
  have n5 : hN g5 = 3 := by rw [e5]; exact congrArg (· + 1) b4.1
  have b5 : BD (3) [(0, 0, 1)] g5 := b4.keep (k := 2) (by rw [e5]; exact Sb.nw b4.1 (Nat.le_refl _)) n5 (by decide)
  have s5 : Sb 0 h g5 := s4.trans (by rw [e5]; exact Sb.nw b4.1 (by omega))
  have i5 : BI [(0, 2, (-1)), (0, 1, nI 0)] g5 := i4.keep (k := 2) (by rw [e5]; exact Sb.nw b4.1 (Nat.le_refl _)) (by decide)
  refine a_dup (pc := 27) dX4_init_27 rfl ?_
  refine b_mkN (pc := 28) (kc := 60) (ks := 2763) n5 (by omega) dX4_init_28  (lc_RX4_22 rfl) rfl rfl ceX3_init (mk3 (d := d + 1) (k := 2) n5 (Or.inl rfl)) rfl rfl (Nat.le_of_ble_eq_true rfl) (by decide) (by decide) (fun g6 y6 z6 r0 => ?_)
  have b6 : BD (6) [(2, 6, 5), (2, 4, 4), (2, 3, 3), (0, 0, 1)] g6 := (b5.keep (k := 2) z6 y6.1 (by decide)).app y6
  have s6 : Sb 0 h g6 := s5.trans (z6.mono (by omega))
  have i6 : BI [(0, 2, (-1)), (0, 1, nI 0)] g6 := i5.keep z6 (by decide)
  refine a_putRF (pc := 31) (ci := 4) (k := 3) dX4_init_31 (lfm_RX4_23 rfl) (by decide) rfl rfl (ltN b6.1 (by omega)) (ltN b6.1 (by omega)) rfl rfl rfl rfl ?_
  obtain ⟨g7, e7⟩ : ∃ Hx, Hx = sR g6 0 3 (some 2) := ⟨_, rfl⟩
  refine a_heap (h' := g7) e7.symm ?_
  have b7 : BD (6) [(0, 3, 2), (2, 6, 5), (2, 4, 4), (2, 3, 3), (0, 0, 1)] g7 := by rw [e7]; exact b6.sR (by decide)
  have s7 : Sb 0 h g7 := s6.trans (by rw [e7]; exact Sb.sR (by omega))
  have i7 : BI [(0, 2, (-1)), (0, 1, nI 0)] g7 := by rw [e7]; exact i6
  have r7 : CR g7 2 (newS 1 1) := by rw [e7]; exact r0
  refine a_aload_n (pc := 34) (i := 0) dX4_init_34 rfl rfl ?_
  refine a_bipush (pc := 35) (v := nI 8) dX4_init_35 (by decide) ?_
  refine b_newref (pc := 37) (N := 6) (n := 8) (kc := 59) (ks := 2755) b7.1 rfl rfl dX4_init_37 rfl (tbi 36 (by decide +kernel)) rfl (by decide) (by decide) ?_
  obtain ⟨g8, e8⟩ : ∃ Hx, Hx = nw g7 := ⟨_, rfl⟩
  refine a_heap (h' := g8) e8.symm ?_
  have n8 : hN g8 = 7 := by rw [e8]; exact congrArg (· + 1) b7.1
  have b8 : BD (7) [(0, 3, 2), (2, 6, 5), (2, 4, 4), (2, 3, 3), (0, 0, 1)] g8 := b7.keep (k := 6) (by rw [e8]; exact Sb.nw b7.1 (Nat.le_refl _)) n8 (by decide)
  have s8 : Sb 0 h g8 := s7.trans (by rw [e8]; exact Sb.nw b7.1 (by omega))
  have i8 : BI [(0, 2, (-1)), (0, 1, nI 0)] g8 := i7.keep (k := 6) (by rw [e8]; exact Sb.nw b7.1 (Nat.le_refl _)) (by decide)
  have r8 : CR g8 2 (newS 1 1) := r7.sb (K := 6) (by rw [e8]; exact Sb.nw b7.1 (Nat.le_refl _)) (by omega)
  refine a_putRF (pc := 40) (ci := 4) (k := 4) dX4_init_40 (lfm_RX4_27 rfl) (by decide) rfl rfl (ltN n8 (by omega)) (ltN n8 (by omega)) rfl rfl rfl rfl ?_
  obtain ⟨g9, e9⟩ : ∃ Hx, Hx = sR g8 0 4 (some 6) := ⟨_, rfl⟩
  refine a_heap (h' := g9) e9.symm ?_
  have b9 : BD (7) [(0, 4, 6), (0, 3, 2), (2, 6, 5), (2, 4, 4), (2, 3, 3), (0, 0, 1)] g9 := by rw [e9]; exact b8.sR (by decide)
  have s9 : Sb 0 h g9 := s8.trans (by rw [e9]; exact Sb.sR (by omega))
  have i9 : BI [(0, 2, (-1)), (0, 1, nI 0)] g9 := by rw [e9]; exact i8
  have r9 : CR g9 2 (newS 1 1) := by rw [e9]; exact r8
  refine a_aload_n (pc := 43) (i := 0) dX4_init_43 rfl rfl ?_
  refine a_iconst (pc := 44) (v := nI 0) dX4_init_44 (by decide) ?_
  refine a_putI (pc := 45) (ci := 4) (k := 5) dX4_init_45 (lf_RX4_31 rfl) (by decide) (Or.inl rfl) rfl (ltN b9.1 (by omega)) rfl ?_
  obtain ⟨g10, e10⟩ : ∃ Hx, Hx = sI g9 0 5 (nI 0) := ⟨_, rfl⟩
  refine a_heap (h' := g10) e10.symm ?_
  have b10 : BD (7) [(0, 4, 6), (0, 3, 2), (2, 6, 5), (2, 4, 4), (2, 3, 3), (0, 0, 1)] g10 := by rw [e10]; exact b9
  have s10 : Sb 0 h g10 := s9.trans (by rw [e10]; exact Sb.sI (by omega))
  have i10 : BI [(0, 5, nI 0), (0, 2, (-1)), (0, 1, nI 0)] g10 := by rw [e10]; exact i9.sI (by decide)
  have r10 : CR g10 2 (newS 1 1) := by rw [e10]; exact r9.sI (by omega)
  refine a_aload_n (pc := 48) (i := 0) dX4_init_48 rfl rfl ?_
  refine b_new (pc := 49) (n := 7) (ci := 2) (kc := 58) (ks := 2745) b10.1 rfl rfl dX4_init_49 rfl (tbi 97 (by decide +kernel)) (tbi 98 (by decide +kernel)) (tbi 4 (by decide +kernel)) (by decide) (by decide) ?_
  obtain ⟨g11, e11⟩ : ∃ Hx, Hx = nw g10 := ⟨_, rfl⟩
  refine a_heap (h' := g11) e11.symm ?_
  have n11 : hN g11 = 8 := by rw [e11]; exact congrArg (· + 1) b10.1
  have b11 : BD (8) [(0, 4, 6), (0, 3, 2), (2, 6, 5), (2, 4, 4), (2, 3, 3), (0, 0, 1)] g11 := b10.keep (k := 7) (by rw [e11]; exact Sb.nw b10.1 (Nat.le_refl _)) n11 (by decide)
  have s11 : Sb 0 h g11 := s10.trans (by rw [e11]; exact Sb.nw b10.1 (by omega))
  have i11 : BI [(0, 5, nI 0), (0, 2, (-1)), (0, 1, nI 0)] g11 := i10.keep (k := 7) (by rw [e11]; exact Sb.nw b10.1 (Nat.le_refl _)) (by decide)
  have r11 : CR g11 2 (newS 1 1) := r10.sb (K := 7) (by rw [e11]; exact Sb.nw b10.1 (Nat.le_refl _)) (by omega)
  refine a_dup (pc := 52) dX4_init_52 rfl ?_
  refine b_mkN (pc := 53) (kc := 53) (ks := 2203) n11 (by omega) dX4_init_53  (lc_RX4_36 rfl) rfl rfl ceX2_init (mk2 (d := d) n11) rfl rfl (Nat.le_of_ble_eq_true rfl) (by decide) (by decide) (fun g12 y12 z12 _ => ?_)
  have b12 : BD (13) [(7, 1, 12), (7, 0, 8), (8, 6, 11), (8, 4, 10), (8, 3, 9), (0, 4, 6), (0, 3, 2), (2, 6, 5), (2, 4, 4), (2, 3, 3), (0, 0, 1)] g12 := (b11.keep (k := 7) z12 y12.1 (by decide)).app y12
  have s12 : Sb 0 h g12 := s11.trans (z12.mono (by omega))
  have i12 : BI [(0, 5, nI 0), (0, 2, (-1)), (0, 1, nI 0)] g12 := i11.keep z12 (by decide)
  have r12 : CR g12 2 (newS 1 1) := r11.sb z12 (by omega)
  refine a_putRF (pc := 56) (ci := 4) (k := 6) dX4_init_56 (lfm_RX4_37 rfl) (by decide) rfl rfl (ltN b12.1 (by omega)) (ltN b12.1 (by omega)) rfl rfl rfl rfl ?_
  obtain ⟨g13, e13⟩ : ∃ Hx, Hx = sR g12 0 6 (some 7) := ⟨_, rfl⟩
  refine a_heap (h' := g13) e13.symm ?_
  have b13 : BD (13) [(0, 6, 7), (7, 1, 12), (7, 0, 8), (8, 6, 11), (8, 4, 10), (8, 3, 9), (0, 4, 6), (0, 3, 2), (2, 6, 5), (2, 4, 4), (2, 3, 3), (0, 0, 1)] g13 := by rw [e13]; exact b12.sR (by decide)
  have s13 : Sb 0 h g13 := s12.trans (by rw [e13]; exact Sb.sR (by omega))
  have i13 : BI [(0, 5, nI 0), (0, 2, (-1)), (0, 1, nI 0)] g13 := by rw [e13]; exact i12
  have r13 : CR g13 2 (newS 1 1) := by rw [e13]; exact r12
  refine a_aload_n (pc := 59) (i := 0) dX4_init_59 rfl rfl ?_
  refine b_new (pc := 60) (n := 13) (ci := 0) (kc := 52) (ks := 2199) b13.1 rfl rfl dX4_init_60 rfl (tbi 138 (by decide +kernel)) (tbi 139 (by decide +kernel)) (tbi 5 (by decide +kernel)) (by decide) (by decide) ?_
  obtain ⟨g14, e14⟩ : ∃ Hx, Hx = nw g13 := ⟨_, rfl⟩
  refine a_heap (h' := g14) e14.symm ?_
  have n14 : hN g14 = 14 := by rw [e14]; exact congrArg (· + 1) b13.1
  have b14 : BD (14) [(0, 6, 7), (7, 1, 12), (7, 0, 8), (8, 6, 11), (8, 4, 10), (8, 3, 9), (0, 4, 6), (0, 3, 2), (2, 6, 5), (2, 4, 4), (2, 3, 3), (0, 0, 1)] g14 := b13.keep (k := 13) (by rw [e14]; exact Sb.nw b13.1 (Nat.le_refl _)) n14 (by decide)
  have s14 : Sb 0 h g14 := s13.trans (by rw [e14]; exact Sb.nw b13.1 (by omega))
  have i14 : BI [(0, 5, nI 0), (0, 2, (-1)), (0, 1, nI 0)] g14 := i13.keep (k := 13) (by rw [e14]; exact Sb.nw b13.1 (Nat.le_refl _)) (by decide)
  have r14 : CR g14 2 (newS 1 1) := r13.sb (K := 13) (by rw [e14]; exact Sb.nw b13.1 (Nat.le_refl _)) (by omega)
  refine a_dup (pc := 63) dX4_init_63 rfl ?_
  refine b_mkN (pc := 64) (kc := 50) (ks := 2127) n14 (by omega) dX4_init_64  (lc_RX4_43 rfl) rfl rfl ceX0_init (mk0 (d := d + 2) (k := 13) n14 rfl rfl rfl) rfl rfl (Nat.le_of_ble_eq_true rfl) (by decide) (by decide) (fun g15 y15 z15 _ => ?_)
  have b15 : BD (16) [(13, 1, 15), (13, 0, 14), (0, 6, 7), (7, 1, 12), (7, 0, 8), (8, 6, 11), (8, 4, 10), (8, 3, 9), (0, 4, 6), (0, 3, 2), (2, 6, 5), (2, 4, 4), (2, 3, 3), (0, 0, 1)] g15 := (b14.keep (k := 13) z15 y15.1 (by decide)).app y15
  have s15 : Sb 0 h g15 := s14.trans (z15.mono (by omega))
  have i15 : BI [(0, 5, nI 0), (0, 2, (-1)), (0, 1, nI 0)] g15 := i14.keep z15 (by decide)
  have r15 : CR g15 2 (newS 1 1) := r14.sb z15 (by omega)
  refine a_putRF (pc := 67) (ci := 4) (k := 7) dX4_init_67 (lfm_RX4_44 rfl) (by decide) rfl rfl (ltN b15.1 (by omega)) (ltN b15.1 (by omega)) rfl rfl rfl rfl ?_
  obtain ⟨g16, e16⟩ : ∃ Hx, Hx = sR g15 0 7 (some 13) := ⟨_, rfl⟩
  refine a_heap (h' := g16) e16.symm ?_
  have b16 : BD (16) [(0, 7, 13), (13, 1, 15), (13, 0, 14), (0, 6, 7), (7, 1, 12), (7, 0, 8), (8, 6, 11), (8, 4, 10), (8, 3, 9), (0, 4, 6), (0, 3, 2), (2, 6, 5), (2, 4, 4), (2, 3, 3), (0, 0, 1)] g16 := by rw [e16]; exact b15.sR (by decide)
  have s16 : Sb 0 h g16 := s15.trans (by rw [e16]; exact Sb.sR (by omega))
  have i16 : BI [(0, 5, nI 0), (0, 2, (-1)), (0, 1, nI 0)] g16 := by rw [e16]; exact i15
  have r16 : CR g16 2 (newS 1 1) := by rw [e16]; exact r15
  refine a_aload_n (pc := 70) (i := 0) dX4_init_70 rfl rfl ?_
  refine b_new (pc := 71) (n := 16) (ci := 1) (kc := 49) (ks := 2117) b16.1 rfl rfl dX4_init_71 rfl (tbi 158 (by decide +kernel)) (tbi 159 (by decide +kernel)) (tbi 6 (by decide +kernel)) (by decide) (by decide) ?_
  obtain ⟨g17, e17⟩ : ∃ Hx, Hx = nw g16 := ⟨_, rfl⟩
  refine a_heap (h' := g17) e17.symm ?_
  have n17 : hN g17 = 17 := by rw [e17]; exact congrArg (· + 1) b16.1
  have b17 : BD (17) [(0, 7, 13), (13, 1, 15), (13, 0, 14), (0, 6, 7), (7, 1, 12), (7, 0, 8), (8, 6, 11), (8, 4, 10), (8, 3, 9), (0, 4, 6), (0, 3, 2), (2, 6, 5), (2, 4, 4), (2, 3, 3), (0, 0, 1)] g17 := b16.keep (k := 16) (by rw [e17]; exact Sb.nw b16.1 (Nat.le_refl _)) n17 (by decide)
  have s17 : Sb 0 h g17 := s16.trans (by rw [e17]; exact Sb.nw b16.1 (by omega))
  have i17 : BI [(0, 5, nI 0), (0, 2, (-1)), (0, 1, nI 0)] g17 := i16.keep (k := 16) (by rw [e17]; exact Sb.nw b16.1 (Nat.le_refl _)) (by decide)
  have r17 : CR g17 2 (newS 1 1) := r16.sb (K := 16) (by rw [e17]; exact Sb.nw b16.1 (Nat.le_refl _)) (by omega)
  refine a_dup (pc := 74) dX4_init_74 rfl ?_
  refine b_mkN (pc := 75) (kc := 32) (ks := 1136) n17 (by omega) dX4_init_75  (lc_RX4_50 rfl) rfl rfl ceX1_init (mk1 (d := d + 1) n17) rfl rfl (Nat.le_of_ble_eq_true rfl) (by decide) (by decide) (fun g18 y18 z18 _ => ?_)
  have b18 : BD (34) [(16, 7, 33), (16, 6, 32), (16, 4, 31), (16, 3, 22), (22, 0, 23), (22, 1, 24), (22, 2, 25), (22, 3, 26), (22, 4, 27), (22, 5, 28), (22, 6, 29), (22, 7, 30), (16, 2, 21), (16, 1, 20), (16, 0, 17), (17, 1, 19), (17, 0, 18), (0, 7, 13), (13, 1, 15), (13, 0, 14), (0, 6, 7), (7, 1, 12), (7, 0, 8), (8, 6, 11), (8, 4, 10), (8, 3, 9), (0, 4, 6), (0, 3, 2), (2, 6, 5), (2, 4, 4), (2, 3, 3), (0, 0, 1)] g18 := (b17.keep (k := 16) z18 y18.1 (by decide)).app y18
  have s18 : Sb 0 h g18 := s17.trans (z18.mono (by omega))
  have i18 : BI [(0, 5, nI 0), (0, 2, (-1)), (0, 1, nI 0)] g18 := i17.keep z18 (by decide)
  have r18 : CR g18 2 (newS 1 1) := r17.sb z18 (by omega)
  refine a_putRF (pc := 78) (ci := 4) (k := 8) dX4_init_78 (lfm_RX4_51 rfl) (by decide) rfl rfl (ltN b18.1 (by omega)) (ltN b18.1 (by omega)) rfl rfl rfl rfl ?_
  obtain ⟨g19, e19⟩ : ∃ Hx, Hx = sR g18 0 8 (some 16) := ⟨_, rfl⟩
  refine a_heap (h' := g19) e19.symm ?_
  have b19 : BD (34) [(0, 8, 16), (16, 7, 33), (16, 6, 32), (16, 4, 31), (16, 3, 22), (22, 0, 23), (22, 1, 24), (22, 2, 25), (22, 3, 26), (22, 4, 27), (22, 5, 28), (22, 6, 29), (22, 7, 30), (16, 2, 21), (16, 1, 20), (16, 0, 17), (17, 1, 19), (17, 0, 18), (0, 7, 13), (13, 1, 15), (13, 0, 14), (0, 6, 7), (7, 1, 12), (7, 0, 8), (8, 6, 11), (8, 4, 10), (8, 3, 9), (0, 4, 6), (0, 3, 2), (2, 6, 5), (2, 4, 4), (2, 3, 3), (0, 0, 1)] g19 := by rw [e19]; exact b18.sR (by decide)
  have s19 : Sb 0 h g19 := s18.trans (by rw [e19]; exact Sb.sR (by omega))
  have i19 : BI [(0, 5, nI 0), (0, 2, (-1)), (0, 1, nI 0)] g19 := by rw [e19]; exact i18
  have r19 : CR g19 2 (newS 1 1) := by rw [e19]; exact r18
  refine a_aload_n (pc := 81) (i := 0) dX4_init_81 rfl rfl ?_
  refine a_iconst (pc := 82) (v := nI 0) dX4_init_82 (by decide) ?_
  refine a_putI (pc := 83) (ci := 4) (k := 9) dX4_init_83 (lf_RX4_55 rfl) (by decide) (Or.inr ⟨rfl, (by decide)⟩) rfl (ltN b19.1 (by omega)) rfl ?_
  obtain ⟨g20, e20⟩ : ∃ Hx, Hx = sI g19 0 9 (nI 0) := ⟨_, rfl⟩
  refine a_heap (h' := g20) e20.symm ?_
  have b20 : BD (34) [(0, 8, 16), (16, 7, 33), (16, 6, 32), (16, 4, 31), (16, 3, 22), (22, 0, 23), (22, 1, 24), (22, 2, 25), (22, 3, 26), (22, 4, 27), (22, 5, 28), (22, 6, 29), (22, 7, 30), (16, 2, 21), (16, 1, 20), (16, 0, 17), (17, 1, 19), (17, 0, 18), (0, 7, 13), (13, 1, 15), (13, 0, 14), (0, 6, 7), (7, 1, 12), (7, 0, 8), (8, 6, 11), (8, 4, 10), (8, 3, 9), (0, 4, 6), (0, 3, 2), (2, 6, 5), (2, 4, 4), (2, 3, 3), (0, 0, 1)] g20 := by rw [e20]; exact b19
  have s20 : Sb 0 h g20 := s19.trans (by rw [e20]; exact Sb.sI (by omega))
  have i20 : BI [(0, 9, nI 0), (0, 5, nI 0), (0, 2, (-1)), (0, 1, nI 0)] g20 := by rw [e20]; exact i19.sI (by decide)
  have r20 : CR g20 2 (newS 1 1) := by rw [e20]; exact r19.sI (by omega)
  refine a_iconst (pc := 86) (v := nI 0) dX4_init_86 (by decide) ?_
  refine a_istore_n (pc := 87) (i := 1) (ls' := [(0, .ref 0), (1, .int (nI 0))]) dX4_init_87 rfl (by decide) rfl ?_
  have LP : ∀ (fu : Nat) (i : Nat) (H : AH), i ≤ 8 → BD (34 + 4 * i) RS4 H → BI IS4 H → CR H 2 (newS 1 1) → (∀ j, j < i → hR H 6 j = some (34 + 4 * j) ∧ hR H (34 + 4 * j) 3 = some (34 + 4 * j + 1) ∧ hR H (34 + 4 * j) 4 = some (34 + 4 * j + 2) ∧ hR H (34 + 4 * j) 6 = some (34 + 4 * j + 3)) → 8 - i < fu → AW X mX4_init (d + 4) (4 * (8 - i)) (142 * (8 - i)) 88 [(0, .ref 0), (1, .int (nI i))] [] H (Qc 0 66 RS4 h (fun h2 => BI IS4 h2 ∧ CR h2 2 (newS 1 1) ∧ ∀ j, j < 8 → hR h2 6 j = some (34 + 4 * j) ∧ hR h2 (34 + 4 * j) 3 = some (34 + 4 * j + 1) ∧ hR h2 (34 + 4 * j) 4 = some (34 + 4 * j + 2) ∧ hR h2 (34 + 4 * j) 6 = some (34 + 4 * j + 3))) := by
    intro fu
    induction fu with
    | zero => intro i H hi hb hii hr hp hz; exact absurd hz (Nat.not_lt_zero _)
    | succ fu ih =>
      intro i H hi hb hii hr hp hz
      refine a_iload_n (pc := 88) (i := 1) dX4_init_88 rfl rfl ?_
      refine a_bipush (pc := 89) (v := nI 8) dX4_init_89 (by decide) ?_
      refine n_icmp_ge (pc := 91) (tgt := 113) dX4_init_91 (by decide) (by omega) (by omega) (fun c91 => ?_) (fun c91 => ?_)
      · have ei : i = 8 := by omega
        subst ei
        exact a_return (pc := 113) dX4_init_113 rfl (⟨rfl, hb, fun _ ha => absurd ha (Nat.not_lt_zero _), hii, hr, hp⟩)
      · skip
        refine a_aload_n (pc := 94) (i := 0) dX4_init_94 rfl rfl ?_
        refine a_getR (pc := 95) (ci := 4) (k := 4) (b := 6) dX4_init_95 (lf_RX4_27 rfl) (by decide) rfl rfl (ltN hb.1 (by omega)) (hb.2 (0, 4, 6) (by decide)) ?_
        refine a_iload_n (pc := 98) (i := 1) dX4_init_98 rfl rfl ?_
        have hs : shKs (34 + 4 * i) := Or.inr (Or.inr ⟨i, by omega, rfl⟩)
        have k0 : 0 < 34 + 4 * i := by omega
        have k6 : 6 < 34 + 4 * i := by omega
        have l0 : 0 < 34 + 4 * i + 1 := by omega
        have l6 : 6 < 34 + 4 * i + 1 := by omega
        refine b_new (pc := 99) (n := 34 + 4 * i) (ci := 3) (kc := 4 * (7 - i) + 3) (ks := 142 * (7 - i) + 132) hb.1 (by omega) (by show _ = _ + 10; omega) dX4_init_99 (shKs_sh hs).1 (tbi 36 (by decide +kernel)) (tbi 37 (by decide +kernel)) (tbi 2 (by decide +kernel)) (by simp [okv, k0, k6, l0, l6]) (by simp [okv, k0, k6, l0, l6]) ?_
        obtain ⟨G1, eG1⟩ : ∃ Hx, Hx = nw H := ⟨_, rfl⟩
        refine a_heap (h' := G1) eG1.symm ?_
        have n1 : hN G1 = 34 + 4 * i + 1 := by rw [eG1]; exact congrArg (· + 1) hb.1
        have z1 : Sb (34 + 4 * i) H G1 := by rw [eG1]; exact Sb.nw hb.1 (Nat.le_refl _)
        refine a_dup (pc := 102) dX4_init_102 rfl ?_
        refine b_mkN (pc := 103) (kc := 4 * (7 - i)) (ks := 142 * (7 - i)) n1 (by omega) dX4_init_103 (lc_RX4_22 rfl) rfl rfl ceX3_init (mk3 (d := d + 1) (k := 34 + 4 * i) n1 hs) rfl rfl (Nat.le_of_ble_eq_true rfl) (by simp [okv, k0, k6, l0, l6]) (by simp [okv, k0, k6, l0, l6]) (fun G2 y2 z2 r2 => ?_)
        have zz : Sb (34 + 4 * i) H G2 := z1.trans z2
        refine a_aast (pc := 106) (j := i) (b := (34 + 4 * i)) dX4_init_106 rfl (ltN y2.1 (by omega)) rfl (by omega) (shKs_sh hs).1 (ltN y2.1 (by omega)) ?_
        refine n_iinc (pc := 107) (k := 1) (ls' := [(0, .ref 0), (1, .int (nI (i + 1)))]) dX4_init_107 rfl (by decide) (by decide) rfl ?_
        refine a_goto (pc := 110) (tgt := 88) dX4_init_110 (by decide) ?_
        have q4 : ∀ q ∈ RS4, q.1 < 34 ∧ q.1 ≠ 6 := by decide +kernel
        have qi : ∀ q ∈ IS4, q.1 < 34 := by decide +kernel
        have gg := ih (i + 1) (sR G2 6 i (some (34 + 4 * i))) (by omega) ⟨(by show hN G2 = _; rw [y2.1]; omega), (fun q hq => by
        have h4 := q4 q hq
        rw [hR_sR, if_neg (show ¬ (q.1 = 6 ∧ q.2.1 = i) by omega), (zz q.1 (by omega)).2.2]
        exact hb.2 q hq)⟩ (show BI IS4 G2 from hii.keep (k := 34 + 4 * i) zz (fun q hq => by have := qi q hq; omega)) (show CR G2 2 (newS 1 1) from hr.sb (K := 34 + 4 * i) zz (by omega)) (fun j hj => by
        rw [hR_sR, hR_sR, hR_sR, hR_sR, if_neg (show ¬ (34 + 4 * j = 6 ∧ 3 = i) by omega), if_neg (show ¬ (34 + 4 * j = 6 ∧ 4 = i) by omega), if_neg (show ¬ (34 + 4 * j = 6 ∧ 6 = i) by omega)]
        by_cases e : j = i
        · subst e
          rw [if_pos ⟨rfl, rfl⟩]
          exact ⟨rfl, y2.2 (34 + 4 * j, 3, 34 + 4 * j + 1) (by simp), y2.2 (34 + 4 * j, 4, 34 + 4 * j + 2) (by simp), y2.2 (34 + 4 * j, 6, 34 + 4 * j + 3) (by simp)⟩
        · rw [if_neg (show ¬ (6 = 6 ∧ j = i) by omega), (zz 6 (by omega)).2.2, (zz (34 + 4 * j) (by omega)).2.2]
          exact hp j (by omega)) (by omega)
        rw [show 8 - (i + 1) = 7 - i by omega] at gg
        exact gg
  exact LP 9 0 _ (by omega) b20 i20 r20 (fun j hj => absurd hj (by omega)) (by omega)
