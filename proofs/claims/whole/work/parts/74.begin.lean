/-! the maker of LetterCutsModel; the state with which the law begins -/
def RS5 : List (Nat × Nat × Nat) := [(66, 26, 88), (66, 23, 87), (66, 22, 86), (66, 21, 85), (66, 20, 84), (66, 19, 83), (66, 18, 82), (66, 16, 81), (66, 15, 80), (66, 11, 71), (71, 0, 72), (71, 1, 73), (71, 2, 74), (71, 3, 75), (71, 4, 76), (71, 5, 77), (71, 6, 78), (71, 7, 79), (66, 10, 70), (66, 9, 69), (66, 8, 68), (66, 1, 67)]
def IS5 : List (Nat × Nat × Int32) := [(66, 7, (-1)), (66, 2, 0), (66, 12, 0)]
theorem BI.fr {is : List (Nat × Nat × Int32)} {h h2 : AH} {S : List Nat} (b : BI is h) (f : Fr S h h2) (hk : ∀ q ∈ is, q.1 ∉ S) : BI is h2 := fun q hq => by rw [(f.2.2 q.1 (hk q hq)).1]; exact b q hq
set_option maxHeartbeats 8000000 in
set_option maxRecDepth 100000 in
theorem mk5 {d : Nat} {h : AH} (hn : hN h = 67) (i0 : BI [(66, 2, 0), (66, 12, 0)] h) : AC mX5_init (d + 2) 22 6696 [.ref 66] h (Qc 66 89 RS5 h (fun h2 => BI IS5 h2 ∧ DM h2 68 (newS 1 1))) := by
  refine AC.of (by decide) rfl (Nat.le_of_ble_eq_true rfl) (fun X => ?_)
  show AW X mX5_init (d + 2) 22 6696 0 [(0, .ref 66)] [] h (Qc 66 89 RS5 h (fun h2 => BI IS5 h2 ∧ DM h2 68 (newS 1 1)))
  have b0 : BD 67 [] h := BD.nil hn
  refine a_aload_n (pc := 0) (i := 0) dX5_init_0 rfl rfl ?_
  refine a_objInit (pc := 1) dX5_init_1 (tbi 827 (by decide +kernel)) (Nat.le_of_ble_eq_true rfl) ?_
  refine a_aload_n (pc := 4) (i := 0) dX5_init_4 rfl rfl ?_
  refine a_sipush (pc := 5) (v := nI 400) dX5_init_5 (by decide) ?_
  refine b_newarr (pc := 8) (N := 67) (t := 0) (n := 400) (kc := 21) (ks := 6296) b0.1 rfl rfl dX5_init_8 rfl rfl (by decide) aC_in.1 rfl (by decide) (by decide) ?_
  obtain ⟨g1, e1⟩ : ∃ Hx, Hx = nw h := ⟨_, rfl⟩
  refine a_heap (h' := g1) e1.symm ?_
  have n1 : hN g1 = 68 := by rw [e1]; exact congrArg (· + 1) b0.1
  have b1 : BD (68) [] g1 := b0.keep (k := 67) (by rw [e1]; exact Sb.nw b0.1 (Nat.le_refl _)) n1 (by decide)
  have s1 : Sb 66 h g1 := Sb.refl.trans (by rw [e1]; exact Sb.nw b0.1 (by omega))
  have i1 : BI [(66, 2, 0), (66, 12, 0)] g1 := i0.keep (k := 67) (by rw [e1]; exact Sb.nw b0.1 (Nat.le_refl _)) (by decide)
  refine a_putRF (pc := 10) (ci := 5) (k := 1) dX5_init_10 (lfm_RX5_9 rfl) (by decide) rfl rfl (ltN n1 (by omega)) (ltN n1 (by omega)) rfl rfl rfl ?_
  obtain ⟨g2, e2⟩ : ∃ Hx, Hx = sR g1 66 1 (some 67) := ⟨_, rfl⟩
  refine a_heap (h' := g2) e2.symm ?_
  have b2 : BD (68) [(66, 1, 67)] g2 := by rw [e2]; exact b1.sR (by decide)
  have s2 : Sb 66 h g2 := s1.trans (by rw [e2]; exact Sb.sR (by omega))
  have i2 : BI [(66, 2, 0), (66, 12, 0)] g2 := by rw [e2]; exact i1
  refine a_aload_n (pc := 13) (i := 0) dX5_init_13 rfl rfl ?_
  refine a_iconst (pc := 14) (v := (-1)) dX5_init_14 (by decide) ?_
  refine a_putI (pc := 15) (ci := 5) (k := 7) dX5_init_15 (lf_RX5_13 rfl) (by decide) (Or.inl rfl) rfl (ltN b2.1 (by omega)) rfl ?_
  obtain ⟨g3, e3⟩ : ∃ Hx, Hx = sI g2 66 7 ((-1)) := ⟨_, rfl⟩
  refine a_heap (h' := g3) e3.symm ?_
  have b3 : BD (68) [(66, 1, 67)] g3 := by rw [e3]; exact b2
  have s3 : Sb 66 h g3 := s2.trans (by rw [e3]; exact Sb.sI (by omega))
  have i3 : BI [(66, 7, (-1)), (66, 2, 0), (66, 12, 0)] g3 := by rw [e3]; exact i2.sI (by decide)
  refine a_aload_n (pc := 18) (i := 0) dX5_init_18 rfl rfl ?_
  refine a_sipush (pc := 19) (v := nI 186) dX5_init_19 (by decide) ?_
  refine b_newarr (pc := 22) (N := 68) (t := 0) (n := 186) (kc := 20) (ks := 6110) b3.1 rfl rfl dX5_init_22 rfl rfl (by decide) aC_in.1 rfl (by decide) (by decide) ?_
  obtain ⟨g4, e4⟩ : ∃ Hx, Hx = nw g3 := ⟨_, rfl⟩
  refine a_heap (h' := g4) e4.symm ?_
  have n4 : hN g4 = 69 := by rw [e4]; exact congrArg (· + 1) b3.1
  have b4 : BD (69) [(66, 1, 67)] g4 := b3.keep (k := 68) (by rw [e4]; exact Sb.nw b3.1 (Nat.le_refl _)) n4 (by decide)
  have s4 : Sb 66 h g4 := s3.trans (by rw [e4]; exact Sb.nw b3.1 (by omega))
  have i4 : BI [(66, 7, (-1)), (66, 2, 0), (66, 12, 0)] g4 := i3.keep (k := 68) (by rw [e4]; exact Sb.nw b3.1 (Nat.le_refl _)) (by decide)
  refine a_putRF (pc := 24) (ci := 5) (k := 8) dX5_init_24 (lfm_RX5_17 rfl) (by decide) rfl rfl (ltN n4 (by omega)) (ltN n4 (by omega)) rfl rfl rfl ?_
  obtain ⟨g5, e5⟩ : ∃ Hx, Hx = sR g4 66 8 (some 68) := ⟨_, rfl⟩
  refine a_heap (h' := g5) e5.symm ?_
  have b5 : BD (69) [(66, 8, 68), (66, 1, 67)] g5 := by rw [e5]; exact b4.sR (by decide)
  have s5 : Sb 66 h g5 := s4.trans (by rw [e5]; exact Sb.sR (by omega))
  have i5 : BI [(66, 7, (-1)), (66, 2, 0), (66, 12, 0)] g5 := by rw [e5]; exact i4
  refine a_aload_n (pc := 27) (i := 0) dX5_init_27 rfl rfl ?_
  refine a_sipush (pc := 28) (v := nI 186) dX5_init_28 (by decide) ?_
  refine b_newarr (pc := 31) (N := 69) (t := 0) (n := 186) (kc := 19) (ks := 5924) b5.1 rfl rfl dX5_init_31 rfl rfl (by decide) aC_in.1 rfl (by decide) (by decide) ?_
  obtain ⟨g6, e6⟩ : ∃ Hx, Hx = nw g5 := ⟨_, rfl⟩
  refine a_heap (h' := g6) e6.symm ?_
  have n6 : hN g6 = 70 := by rw [e6]; exact congrArg (· + 1) b5.1
  have b6 : BD (70) [(66, 8, 68), (66, 1, 67)] g6 := b5.keep (k := 69) (by rw [e6]; exact Sb.nw b5.1 (Nat.le_refl _)) n6 (by decide)
  have s6 : Sb 66 h g6 := s5.trans (by rw [e6]; exact Sb.nw b5.1 (by omega))
  have i6 : BI [(66, 7, (-1)), (66, 2, 0), (66, 12, 0)] g6 := i5.keep (k := 69) (by rw [e6]; exact Sb.nw b5.1 (Nat.le_refl _)) (by decide)
  refine a_putRF (pc := 33) (ci := 5) (k := 9) dX5_init_33 (lfm_RX5_20 rfl) (by decide) rfl rfl (ltN n6 (by omega)) (ltN n6 (by omega)) rfl rfl rfl ?_
  obtain ⟨g7, e7⟩ : ∃ Hx, Hx = sR g6 66 9 (some 69) := ⟨_, rfl⟩
  refine a_heap (h' := g7) e7.symm ?_
  have b7 : BD (70) [(66, 9, 69), (66, 8, 68), (66, 1, 67)] g7 := by rw [e7]; exact b6.sR (by decide)
  have s7 : Sb 66 h g7 := s6.trans (by rw [e7]; exact Sb.sR (by omega))
  have i7 : BI [(66, 7, (-1)), (66, 2, 0), (66, 12, 0)] g7 := by rw [e7]; exact i6
  refine a_aload_n (pc := 36) (i := 0) dX5_init_36 rfl rfl ?_
  refine a_sipush (pc := 37) (v := nI 186) dX5_init_37 (by decide) ?_
  refine b_newarr (pc := 40) (N := 70) (t := 0) (n := 186) (kc := 18) (ks := 5738) b7.1 rfl rfl dX5_init_40 rfl rfl (by decide) aC_in.1 rfl (by decide) (by decide) ?_
  obtain ⟨g8, e8⟩ : ∃ Hx, Hx = nw g7 := ⟨_, rfl⟩
  refine a_heap (h' := g8) e8.symm ?_
  have n8 : hN g8 = 71 := by rw [e8]; exact congrArg (· + 1) b7.1
  have b8 : BD (71) [(66, 9, 69), (66, 8, 68), (66, 1, 67)] g8 := b7.keep (k := 70) (by rw [e8]; exact Sb.nw b7.1 (Nat.le_refl _)) n8 (by decide)
  have s8 : Sb 66 h g8 := s7.trans (by rw [e8]; exact Sb.nw b7.1 (by omega))
  have i8 : BI [(66, 7, (-1)), (66, 2, 0), (66, 12, 0)] g8 := i7.keep (k := 70) (by rw [e8]; exact Sb.nw b7.1 (Nat.le_refl _)) (by decide)
  refine a_putRF (pc := 42) (ci := 5) (k := 10) dX5_init_42 (lfm_RX5_23 rfl) (by decide) rfl rfl (ltN n8 (by omega)) (ltN n8 (by omega)) rfl rfl rfl ?_
  obtain ⟨g9, e9⟩ : ∃ Hx, Hx = sR g8 66 10 (some 70) := ⟨_, rfl⟩
  refine a_heap (h' := g9) e9.symm ?_
  have b9 : BD (71) [(66, 10, 70), (66, 9, 69), (66, 8, 68), (66, 1, 67)] g9 := by rw [e9]; exact b8.sR (by decide)
  have s9 : Sb 66 h g9 := s8.trans (by rw [e9]; exact Sb.sR (by omega))
  have i9 : BI [(66, 7, (-1)), (66, 2, 0), (66, 12, 0)] g9 := by rw [e9]; exact i8
  refine a_aload_n (pc := 45) (i := 0) dX5_init_45 rfl rfl ?_
  refine a_bipush (pc := 46) (v := nI 8) dX5_init_46 (by decide) ?_
  refine a_sipush (pc := 48) (v := nI 186) dX5_init_48 (by decide) ?_
  refine b_newmat (pc := 51) (N := 71) (n := 8) (k := 186) (kc := 9) (ks := 4242) b9.1 rfl rfl dX5_init_51 rfl (fun i hi => (show ∀ i : Fin 8, shK (71 + 1 + i.val) = some (.inr (0, 186)) from by decide +kernel) ⟨i, hi⟩) (by decide) (by decide) (tbi 828 (by decide +kernel)) aC_in.1 rfl rfl (by decide) (by decide) ?_
  obtain ⟨g10, e10⟩ : ∃ Hx, Hx = nwM g9 8 := ⟨_, rfl⟩
  refine a_heap (h' := g10) e10.symm ?_
  have n10 : hN g10 = 80 := by rw [e10]; exact congrArg (· + 1 + 8) b9.1
  have b10 : BD (80) [(71, 0, 72), (71, 1, 73), (71, 2, 74), (71, 3, 75), (71, 4, 76), (71, 5, 77), (71, 6, 78), (71, 7, 79), (66, 10, 70), (66, 9, 69), (66, 8, 68), (66, 1, 67)] g10 := by rw [e10]; exact BD.mat (n := 8) b9.1 b9 (by decide)
  have s10 : Sb 66 h g10 := s9.trans (by rw [e10]; exact Sb.nwM b9.1 (by omega))
  have i10 : BI [(66, 7, (-1)), (66, 2, 0), (66, 12, 0)] g10 := i9.keep (k := 71) (by rw [e10]; exact Sb.nwM b9.1 (Nat.le_refl _)) (by decide)
  refine a_putRF (pc := 55) (ci := 5) (k := 11) dX5_init_55 (lfm_RX5_28 rfl) (by decide) rfl rfl (ltN n10 (by omega)) (ltN n10 (by omega)) rfl rfl rfl ?_
  obtain ⟨g11, e11⟩ : ∃ Hx, Hx = sR g10 66 11 (some 71) := ⟨_, rfl⟩
  refine a_heap (h' := g11) e11.symm ?_
  have b11 : BD (80) [(66, 11, 71), (71, 0, 72), (71, 1, 73), (71, 2, 74), (71, 3, 75), (71, 4, 76), (71, 5, 77), (71, 6, 78), (71, 7, 79), (66, 10, 70), (66, 9, 69), (66, 8, 68), (66, 1, 67)] g11 := by rw [e11]; exact b10.sR (by decide)
  have s11 : Sb 66 h g11 := s10.trans (by rw [e11]; exact Sb.sR (by omega))
  have i11 : BI [(66, 7, (-1)), (66, 2, 0), (66, 12, 0)] g11 := by rw [e11]; exact i10
  refine a_aload_n (pc := 58) (i := 0) dX5_init_58 rfl rfl ?_
  refine a_bipush (pc := 59) (v := nI 48) dX5_init_59 (by decide) ?_
  refine b_newarr (pc := 61) (N := 80) (t := 0) (n := 48) (kc := 8) (ks := 4194) b11.1 rfl rfl dX5_init_61 rfl rfl (by decide) aC_in.1 rfl (by decide) (by decide) ?_
  obtain ⟨g12, e12⟩ : ∃ Hx, Hx = nw g11 := ⟨_, rfl⟩
  refine a_heap (h' := g12) e12.symm ?_
  have n12 : hN g12 = 81 := by rw [e12]; exact congrArg (· + 1) b11.1
  have b12 : BD (81) [(66, 11, 71), (71, 0, 72), (71, 1, 73), (71, 2, 74), (71, 3, 75), (71, 4, 76), (71, 5, 77), (71, 6, 78), (71, 7, 79), (66, 10, 70), (66, 9, 69), (66, 8, 68), (66, 1, 67)] g12 := b11.keep (k := 80) (by rw [e12]; exact Sb.nw b11.1 (Nat.le_refl _)) n12 (by decide)
  have s12 : Sb 66 h g12 := s11.trans (by rw [e12]; exact Sb.nw b11.1 (by omega))
  have i12 : BI [(66, 7, (-1)), (66, 2, 0), (66, 12, 0)] g12 := i11.keep (k := 80) (by rw [e12]; exact Sb.nw b11.1 (Nat.le_refl _)) (by decide)
  refine a_putRF (pc := 63) (ci := 5) (k := 15) dX5_init_63 (lfm_RX5_31 rfl) (by decide) rfl rfl (ltN n12 (by omega)) (ltN n12 (by omega)) rfl rfl rfl ?_
  obtain ⟨g13, e13⟩ : ∃ Hx, Hx = sR g12 66 15 (some 80) := ⟨_, rfl⟩
  refine a_heap (h' := g13) e13.symm ?_
  have b13 : BD (81) [(66, 15, 80), (66, 11, 71), (71, 0, 72), (71, 1, 73), (71, 2, 74), (71, 3, 75), (71, 4, 76), (71, 5, 77), (71, 6, 78), (71, 7, 79), (66, 10, 70), (66, 9, 69), (66, 8, 68), (66, 1, 67)] g13 := by rw [e13]; exact b12.sR (by decide)
  have s13 : Sb 66 h g13 := s12.trans (by rw [e13]; exact Sb.sR (by omega))
  have i13 : BI [(66, 7, (-1)), (66, 2, 0), (66, 12, 0)] g13 := by rw [e13]; exact i12
  refine a_aload_n (pc := 66) (i := 0) dX5_init_66 rfl rfl ?_
  refine a_bipush (pc := 67) (v := nI 48) dX5_init_67 (by decide) ?_
  refine b_newarr (pc := 69) (N := 81) (t := 2) (n := 48) (kc := 7) (ks := 4146) b13.1 rfl rfl dX5_init_69 rfl rfl (by decide) aC_in.2.2.1 rfl (by decide) (by decide) ?_
  obtain ⟨g14, e14⟩ : ∃ Hx, Hx = nw g13 := ⟨_, rfl⟩
  refine a_heap (h' := g14) e14.symm ?_
  have n14 : hN g14 = 82 := by rw [e14]; exact congrArg (· + 1) b13.1
  have b14 : BD (82) [(66, 15, 80), (66, 11, 71), (71, 0, 72), (71, 1, 73), (71, 2, 74), (71, 3, 75), (71, 4, 76), (71, 5, 77), (71, 6, 78), (71, 7, 79), (66, 10, 70), (66, 9, 69), (66, 8, 68), (66, 1, 67)] g14 := b13.keep (k := 81) (by rw [e14]; exact Sb.nw b13.1 (Nat.le_refl _)) n14 (by decide)
  have s14 : Sb 66 h g14 := s13.trans (by rw [e14]; exact Sb.nw b13.1 (by omega))
  have i14 : BI [(66, 7, (-1)), (66, 2, 0), (66, 12, 0)] g14 := i13.keep (k := 81) (by rw [e14]; exact Sb.nw b13.1 (Nat.le_refl _)) (by decide)
  refine a_putRF (pc := 71) (ci := 5) (k := 16) dX5_init_71 (lfm_RX5_34 rfl) (by decide) rfl rfl (ltN n14 (by omega)) (ltN n14 (by omega)) rfl rfl rfl ?_
  obtain ⟨g15, e15⟩ : ∃ Hx, Hx = sR g14 66 16 (some 81) := ⟨_, rfl⟩
  refine a_heap (h' := g15) e15.symm ?_
  have b15 : BD (82) [(66, 16, 81), (66, 15, 80), (66, 11, 71), (71, 0, 72), (71, 1, 73), (71, 2, 74), (71, 3, 75), (71, 4, 76), (71, 5, 77), (71, 6, 78), (71, 7, 79), (66, 10, 70), (66, 9, 69), (66, 8, 68), (66, 1, 67)] g15 := by rw [e15]; exact b14.sR (by decide)
  have s15 : Sb 66 h g15 := s14.trans (by rw [e15]; exact Sb.sR (by omega))
  have i15 : BI [(66, 7, (-1)), (66, 2, 0), (66, 12, 0)] g15 := by rw [e15]; exact i14
  refine a_aload_n (pc := 74) (i := 0) dX5_init_74 rfl rfl ?_
  refine a_bipush (pc := 75) (v := nI 9) dX5_init_75 (by decide) ?_
  refine b_newarr (pc := 77) (N := 82) (t := 0) (n := 9) (kc := 6) (ks := 4137) b15.1 rfl rfl dX5_init_77 rfl rfl (by decide) aC_in.1 rfl (by decide) (by decide) ?_
  obtain ⟨g16, e16⟩ : ∃ Hx, Hx = nw g15 := ⟨_, rfl⟩
  refine a_heap (h' := g16) e16.symm ?_
  have n16 : hN g16 = 83 := by rw [e16]; exact congrArg (· + 1) b15.1
  have b16 : BD (83) [(66, 16, 81), (66, 15, 80), (66, 11, 71), (71, 0, 72), (71, 1, 73), (71, 2, 74), (71, 3, 75), (71, 4, 76), (71, 5, 77), (71, 6, 78), (71, 7, 79), (66, 10, 70), (66, 9, 69), (66, 8, 68), (66, 1, 67)] g16 := b15.keep (k := 82) (by rw [e16]; exact Sb.nw b15.1 (Nat.le_refl _)) n16 (by decide)
  have s16 : Sb 66 h g16 := s15.trans (by rw [e16]; exact Sb.nw b15.1 (by omega))
  have i16 : BI [(66, 7, (-1)), (66, 2, 0), (66, 12, 0)] g16 := i15.keep (k := 82) (by rw [e16]; exact Sb.nw b15.1 (Nat.le_refl _)) (by decide)
  refine a_putRF (pc := 79) (ci := 5) (k := 18) dX5_init_79 (lfm_RX5_38 rfl) (by decide) rfl rfl (ltN n16 (by omega)) (ltN n16 (by omega)) rfl rfl rfl ?_
  obtain ⟨g17, e17⟩ : ∃ Hx, Hx = sR g16 66 18 (some 82) := ⟨_, rfl⟩
  refine a_heap (h' := g17) e17.symm ?_
  have b17 : BD (83) [(66, 18, 82), (66, 16, 81), (66, 15, 80), (66, 11, 71), (71, 0, 72), (71, 1, 73), (71, 2, 74), (71, 3, 75), (71, 4, 76), (71, 5, 77), (71, 6, 78), (71, 7, 79), (66, 10, 70), (66, 9, 69), (66, 8, 68), (66, 1, 67)] g17 := by rw [e17]; exact b16.sR (by decide)
  have s17 : Sb 66 h g17 := s16.trans (by rw [e17]; exact Sb.sR (by omega))
  have i17 : BI [(66, 7, (-1)), (66, 2, 0), (66, 12, 0)] g17 := by rw [e17]; exact i16
  refine a_aload_n (pc := 82) (i := 0) dX5_init_82 rfl rfl ?_
  refine a_bipush (pc := 83) (v := nI 8) dX5_init_83 (by decide) ?_
  refine b_newarr (pc := 85) (N := 83) (t := 0) (n := 8) (kc := 5) (ks := 4129) b17.1 rfl rfl dX5_init_85 rfl rfl (by decide) aC_in.1 rfl (by decide) (by decide) ?_
  obtain ⟨g18, e18⟩ : ∃ Hx, Hx = nw g17 := ⟨_, rfl⟩
  refine a_heap (h' := g18) e18.symm ?_
  have n18 : hN g18 = 84 := by rw [e18]; exact congrArg (· + 1) b17.1
  have b18 : BD (84) [(66, 18, 82), (66, 16, 81), (66, 15, 80), (66, 11, 71), (71, 0, 72), (71, 1, 73), (71, 2, 74), (71, 3, 75), (71, 4, 76), (71, 5, 77), (71, 6, 78), (71, 7, 79), (66, 10, 70), (66, 9, 69), (66, 8, 68), (66, 1, 67)] g18 := b17.keep (k := 83) (by rw [e18]; exact Sb.nw b17.1 (Nat.le_refl _)) n18 (by decide)
  have s18 : Sb 66 h g18 := s17.trans (by rw [e18]; exact Sb.nw b17.1 (by omega))
  have i18 : BI [(66, 7, (-1)), (66, 2, 0), (66, 12, 0)] g18 := i17.keep (k := 83) (by rw [e18]; exact Sb.nw b17.1 (Nat.le_refl _)) (by decide)
  refine a_putRF (pc := 87) (ci := 5) (k := 19) dX5_init_87 (lfm_RX5_41 rfl) (by decide) rfl rfl (ltN n18 (by omega)) (ltN n18 (by omega)) rfl rfl rfl ?_
  obtain ⟨g19, e19⟩ : ∃ Hx, Hx = sR g18 66 19 (some 83) := ⟨_, rfl⟩
  refine a_heap (h' := g19) e19.symm ?_
  have b19 : BD (84) [(66, 19, 83), (66, 18, 82), (66, 16, 81), (66, 15, 80), (66, 11, 71), (71, 0, 72), (71, 1, 73), (71, 2, 74), (71, 3, 75), (71, 4, 76), (71, 5, 77), (71, 6, 78), (71, 7, 79), (66, 10, 70), (66, 9, 69), (66, 8, 68), (66, 1, 67)] g19 := by rw [e19]; exact b18.sR (by decide)
  have s19 : Sb 66 h g19 := s18.trans (by rw [e19]; exact Sb.sR (by omega))
  have i19 : BI [(66, 7, (-1)), (66, 2, 0), (66, 12, 0)] g19 := by rw [e19]; exact i18
  refine a_aload_n (pc := 90) (i := 0) dX5_init_90 rfl rfl ?_
  refine a_bipush (pc := 91) (v := nI 8) dX5_init_91 (by decide) ?_
  refine b_newarr (pc := 93) (N := 84) (t := 0) (n := 8) (kc := 4) (ks := 4121) b19.1 rfl rfl dX5_init_93 rfl rfl (by decide) aC_in.1 rfl (by decide) (by decide) ?_
  obtain ⟨g20, e20⟩ : ∃ Hx, Hx = nw g19 := ⟨_, rfl⟩
  refine a_heap (h' := g20) e20.symm ?_
  have n20 : hN g20 = 85 := by rw [e20]; exact congrArg (· + 1) b19.1
  have b20 : BD (85) [(66, 19, 83), (66, 18, 82), (66, 16, 81), (66, 15, 80), (66, 11, 71), (71, 0, 72), (71, 1, 73), (71, 2, 74), (71, 3, 75), (71, 4, 76), (71, 5, 77), (71, 6, 78), (71, 7, 79), (66, 10, 70), (66, 9, 69), (66, 8, 68), (66, 1, 67)] g20 := b19.keep (k := 84) (by rw [e20]; exact Sb.nw b19.1 (Nat.le_refl _)) n20 (by decide)
  have s20 : Sb 66 h g20 := s19.trans (by rw [e20]; exact Sb.nw b19.1 (by omega))
  have i20 : BI [(66, 7, (-1)), (66, 2, 0), (66, 12, 0)] g20 := i19.keep (k := 84) (by rw [e20]; exact Sb.nw b19.1 (Nat.le_refl _)) (by decide)
  refine a_putRF (pc := 95) (ci := 5) (k := 20) dX5_init_95 (lfm_RX5_44 rfl) (by decide) rfl rfl (ltN n20 (by omega)) (ltN n20 (by omega)) rfl rfl rfl ?_
  obtain ⟨g21, e21⟩ : ∃ Hx, Hx = sR g20 66 20 (some 84) := ⟨_, rfl⟩
  refine a_heap (h' := g21) e21.symm ?_
  have b21 : BD (85) [(66, 20, 84), (66, 19, 83), (66, 18, 82), (66, 16, 81), (66, 15, 80), (66, 11, 71), (71, 0, 72), (71, 1, 73), (71, 2, 74), (71, 3, 75), (71, 4, 76), (71, 5, 77), (71, 6, 78), (71, 7, 79), (66, 10, 70), (66, 9, 69), (66, 8, 68), (66, 1, 67)] g21 := by rw [e21]; exact b20.sR (by decide)
  have s21 : Sb 66 h g21 := s20.trans (by rw [e21]; exact Sb.sR (by omega))
  have i21 : BI [(66, 7, (-1)), (66, 2, 0), (66, 12, 0)] g21 := by rw [e21]; exact i20
  refine a_aload_n (pc := 98) (i := 0) dX5_init_98 rfl rfl ?_
  refine a_bipush (pc := 99) (v := nI 8) dX5_init_99 (by decide) ?_
  refine b_newarr (pc := 101) (N := 85) (t := 0) (n := 8) (kc := 3) (ks := 4113) b21.1 rfl rfl dX5_init_101 rfl rfl (by decide) aC_in.1 rfl (by decide) (by decide) ?_
  obtain ⟨g22, e22⟩ : ∃ Hx, Hx = nw g21 := ⟨_, rfl⟩
  refine a_heap (h' := g22) e22.symm ?_
  have n22 : hN g22 = 86 := by rw [e22]; exact congrArg (· + 1) b21.1
  have b22 : BD (86) [(66, 20, 84), (66, 19, 83), (66, 18, 82), (66, 16, 81), (66, 15, 80), (66, 11, 71), (71, 0, 72), (71, 1, 73), (71, 2, 74), (71, 3, 75), (71, 4, 76), (71, 5, 77), (71, 6, 78), (71, 7, 79), (66, 10, 70), (66, 9, 69), (66, 8, 68), (66, 1, 67)] g22 := b21.keep (k := 85) (by rw [e22]; exact Sb.nw b21.1 (Nat.le_refl _)) n22 (by decide)
  have s22 : Sb 66 h g22 := s21.trans (by rw [e22]; exact Sb.nw b21.1 (by omega))
  have i22 : BI [(66, 7, (-1)), (66, 2, 0), (66, 12, 0)] g22 := i21.keep (k := 85) (by rw [e22]; exact Sb.nw b21.1 (Nat.le_refl _)) (by decide)
  refine a_putRF (pc := 103) (ci := 5) (k := 21) dX5_init_103 (lfm_RX5_47 rfl) (by decide) rfl rfl (ltN n22 (by omega)) (ltN n22 (by omega)) rfl rfl rfl ?_
  obtain ⟨g23, e23⟩ : ∃ Hx, Hx = sR g22 66 21 (some 85) := ⟨_, rfl⟩
  refine a_heap (h' := g23) e23.symm ?_
  have b23 : BD (86) [(66, 21, 85), (66, 20, 84), (66, 19, 83), (66, 18, 82), (66, 16, 81), (66, 15, 80), (66, 11, 71), (71, 0, 72), (71, 1, 73), (71, 2, 74), (71, 3, 75), (71, 4, 76), (71, 5, 77), (71, 6, 78), (71, 7, 79), (66, 10, 70), (66, 9, 69), (66, 8, 68), (66, 1, 67)] g23 := by rw [e23]; exact b22.sR (by decide)
  have s23 : Sb 66 h g23 := s22.trans (by rw [e23]; exact Sb.sR (by omega))
  have i23 : BI [(66, 7, (-1)), (66, 2, 0), (66, 12, 0)] g23 := by rw [e23]; exact i22
  refine a_aload_n (pc := 106) (i := 0) dX5_init_106 rfl rfl ?_
  refine a_bipush (pc := 107) (v := nI 9) dX5_init_107 (by decide) ?_
  refine b_newarr (pc := 109) (N := 86) (t := 3) (n := 9) (kc := 2) (ks := 4104) b23.1 rfl rfl dX5_init_109 rfl rfl (by decide) aC_in.2.2.2 rfl (by decide) (by decide) ?_
  obtain ⟨g24, e24⟩ : ∃ Hx, Hx = nw g23 := ⟨_, rfl⟩
  refine a_heap (h' := g24) e24.symm ?_
  have n24 : hN g24 = 87 := by rw [e24]; exact congrArg (· + 1) b23.1
  have b24 : BD (87) [(66, 21, 85), (66, 20, 84), (66, 19, 83), (66, 18, 82), (66, 16, 81), (66, 15, 80), (66, 11, 71), (71, 0, 72), (71, 1, 73), (71, 2, 74), (71, 3, 75), (71, 4, 76), (71, 5, 77), (71, 6, 78), (71, 7, 79), (66, 10, 70), (66, 9, 69), (66, 8, 68), (66, 1, 67)] g24 := b23.keep (k := 86) (by rw [e24]; exact Sb.nw b23.1 (Nat.le_refl _)) n24 (by decide)
  have s24 : Sb 66 h g24 := s23.trans (by rw [e24]; exact Sb.nw b23.1 (by omega))
  have i24 : BI [(66, 7, (-1)), (66, 2, 0), (66, 12, 0)] g24 := i23.keep (k := 86) (by rw [e24]; exact Sb.nw b23.1 (Nat.le_refl _)) (by decide)
  refine a_putRF (pc := 111) (ci := 5) (k := 22) dX5_init_111 (lfm_RX5_50 rfl) (by decide) rfl rfl (ltN n24 (by omega)) (ltN n24 (by omega)) rfl rfl rfl ?_
  obtain ⟨g25, e25⟩ : ∃ Hx, Hx = sR g24 66 22 (some 86) := ⟨_, rfl⟩
  refine a_heap (h' := g25) e25.symm ?_
  have b25 : BD (87) [(66, 22, 86), (66, 21, 85), (66, 20, 84), (66, 19, 83), (66, 18, 82), (66, 16, 81), (66, 15, 80), (66, 11, 71), (71, 0, 72), (71, 1, 73), (71, 2, 74), (71, 3, 75), (71, 4, 76), (71, 5, 77), (71, 6, 78), (71, 7, 79), (66, 10, 70), (66, 9, 69), (66, 8, 68), (66, 1, 67)] g25 := by rw [e25]; exact b24.sR (by decide)
  have s25 : Sb 66 h g25 := s24.trans (by rw [e25]; exact Sb.sR (by omega))
  have i25 : BI [(66, 7, (-1)), (66, 2, 0), (66, 12, 0)] g25 := by rw [e25]; exact i24
  refine a_aload_n (pc := 114) (i := 0) dX5_init_114 rfl rfl ?_
  refine a_sipush (pc := 115) (v := nI 4096) dX5_init_115 (by decide) ?_
  refine b_newarr (pc := 118) (N := 87) (t := 3) (n := 4096) (kc := 1) (ks := 8) b25.1 rfl rfl dX5_init_118 rfl rfl (by decide) aC_in.2.2.2 rfl (by decide) (by decide) ?_
  obtain ⟨g26, e26⟩ : ∃ Hx, Hx = nw g25 := ⟨_, rfl⟩
  refine a_heap (h' := g26) e26.symm ?_
  have n26 : hN g26 = 88 := by rw [e26]; exact congrArg (· + 1) b25.1
  have b26 : BD (88) [(66, 22, 86), (66, 21, 85), (66, 20, 84), (66, 19, 83), (66, 18, 82), (66, 16, 81), (66, 15, 80), (66, 11, 71), (71, 0, 72), (71, 1, 73), (71, 2, 74), (71, 3, 75), (71, 4, 76), (71, 5, 77), (71, 6, 78), (71, 7, 79), (66, 10, 70), (66, 9, 69), (66, 8, 68), (66, 1, 67)] g26 := b25.keep (k := 87) (by rw [e26]; exact Sb.nw b25.1 (Nat.le_refl _)) n26 (by decide)
  have s26 : Sb 66 h g26 := s25.trans (by rw [e26]; exact Sb.nw b25.1 (by omega))
  have i26 : BI [(66, 7, (-1)), (66, 2, 0), (66, 12, 0)] g26 := i25.keep (k := 87) (by rw [e26]; exact Sb.nw b25.1 (Nat.le_refl _)) (by decide)
  refine a_putRF (pc := 120) (ci := 5) (k := 23) dX5_init_120 (lfm_RX5_54 rfl) (by decide) rfl rfl (ltN n26 (by omega)) (ltN n26 (by omega)) rfl rfl rfl ?_
  obtain ⟨g27, e27⟩ : ∃ Hx, Hx = sR g26 66 23 (some 87) := ⟨_, rfl⟩
  refine a_heap (h' := g27) e27.symm ?_
  have b27 : BD (88) [(66, 23, 87), (66, 22, 86), (66, 21, 85), (66, 20, 84), (66, 19, 83), (66, 18, 82), (66, 16, 81), (66, 15, 80), (66, 11, 71), (71, 0, 72), (71, 1, 73), (71, 2, 74), (71, 3, 75), (71, 4, 76), (71, 5, 77), (71, 6, 78), (71, 7, 79), (66, 10, 70), (66, 9, 69), (66, 8, 68), (66, 1, 67)] g27 := by rw [e27]; exact b26.sR (by decide)
  have s27 : Sb 66 h g27 := s26.trans (by rw [e27]; exact Sb.sR (by omega))
  have i27 : BI [(66, 7, (-1)), (66, 2, 0), (66, 12, 0)] g27 := by rw [e27]; exact i26
  refine a_aload_n (pc := 123) (i := 0) dX5_init_123 rfl rfl ?_
  refine a_bipush (pc := 124) (v := nI 8) dX5_init_124 (by decide) ?_
  refine b_newarr (pc := 126) (N := 88) (t := 0) (n := 8) (kc := 0) (ks := 0) b27.1 rfl rfl dX5_init_126 rfl rfl (by decide) aC_in.1 rfl (by decide) (by decide) ?_
  obtain ⟨g28, e28⟩ : ∃ Hx, Hx = nw g27 := ⟨_, rfl⟩
  refine a_heap (h' := g28) e28.symm ?_
  have n28 : hN g28 = 89 := by rw [e28]; exact congrArg (· + 1) b27.1
  have b28 : BD (89) [(66, 23, 87), (66, 22, 86), (66, 21, 85), (66, 20, 84), (66, 19, 83), (66, 18, 82), (66, 16, 81), (66, 15, 80), (66, 11, 71), (71, 0, 72), (71, 1, 73), (71, 2, 74), (71, 3, 75), (71, 4, 76), (71, 5, 77), (71, 6, 78), (71, 7, 79), (66, 10, 70), (66, 9, 69), (66, 8, 68), (66, 1, 67)] g28 := b27.keep (k := 88) (by rw [e28]; exact Sb.nw b27.1 (Nat.le_refl _)) n28 (by decide)
  have s28 : Sb 66 h g28 := s27.trans (by rw [e28]; exact Sb.nw b27.1 (by omega))
  have i28 : BI [(66, 7, (-1)), (66, 2, 0), (66, 12, 0)] g28 := i27.keep (k := 88) (by rw [e28]; exact Sb.nw b27.1 (Nat.le_refl _)) (by decide)
  refine a_putRF (pc := 128) (ci := 5) (k := 26) dX5_init_128 (lfm_RX5_57 rfl) (by decide) rfl rfl (ltN n28 (by omega)) (ltN n28 (by omega)) rfl rfl rfl ?_
  obtain ⟨g29, e29⟩ : ∃ Hx, Hx = sR g28 66 26 (some 88) := ⟨_, rfl⟩
  refine a_heap (h' := g29) e29.symm ?_
  have b29 : BD (89) [(66, 26, 88), (66, 23, 87), (66, 22, 86), (66, 21, 85), (66, 20, 84), (66, 19, 83), (66, 18, 82), (66, 16, 81), (66, 15, 80), (66, 11, 71), (71, 0, 72), (71, 1, 73), (71, 2, 74), (71, 3, 75), (71, 4, 76), (71, 5, 77), (71, 6, 78), (71, 7, 79), (66, 10, 70), (66, 9, 69), (66, 8, 68), (66, 1, 67)] g29 := by rw [e29]; exact b28.sR (by decide)
  have s29 : Sb 66 h g29 := s28.trans (by rw [e29]; exact Sb.sR (by omega))
  have i29 : BI [(66, 7, (-1)), (66, 2, 0), (66, 12, 0)] g29 := by rw [e29]; exact i28
  refine a_aload_n (pc := 131) (i := 0) dX5_init_131 rfl rfl ?_
  refine a_getR (pc := 132) (ci := 5) (k := 8) (b := 68) dX5_init_132 (lf_RX5_17 rfl) (by decide) rfl rfl (ltN b29.1 (by omega)) (b29.2 (66, 8, 68) (by decide)) ?_
  refine a_iconst (pc := 135) (v := nI 1) dX5_init_135 (by decide) ?_
  refine a_iconst (pc := 136) (v := nI 1) dX5_init_136 (by decide) ?_
  refine a_wS0 (pc := 137) (as := [.ref 68, .int (nI 1), .int (nI 1)]) dX5_init_137 (lc_RX5_60 rfl) ceX5_laySheet (sg_laySheet (d := d + 1) b29.1 (by omega) rfl (by omega) (by omega)) rfl rfl (Nat.le_of_ble_eq_true rfl) (fun h9 f9 r9 => ?_)
  exact a_return (pc := 140) dX5_init_140 rfl (⟨rfl, b29.fr f9, s29.trans (Sb.fr f9 (by decide)), i29.fr f9 (by decide), r9⟩)
def T0 : ST := (newS 1 1, (0, fun _ => 0), -1, (0, fun _ => newS 1 1))
theorem GT0 : GT T0 := ⟨GS_new (by omega) (by omega), Nat.zero_le _, fun _ => ⟨0, rfl⟩, Nat.zero_le _, fun _ => GS_new (by omega) (by omega)⟩
/-- what the makers leave: the two objects as they begin, and all refs -/
theorem at0 {h h2 : AH} (b5 : BD 89 RS5 h2) (s5 : Sb 66 h h2) (i5 : BI IS5 h2) (d5 : DM h2 68 (newS 1 1)) (b4 : BD 67 RS4 h) (i4 : BI IS4 h) (r4 : CR h 2 (newS 1 1)) (p4 : ∀ j, j < 8 → hR h 6 j = some (34 + 4 * j) ∧ hR h (34 + 4 * j) 3 = some (34 + 4 * j + 1) ∧ hR h (34 + 4 * j) 4 = some (34 + 4 * j + 2) ∧ hR h (34 + 4 * j) 6 = some (34 + 4 * j + 3)) : CB (nw h2) ∧ IM (nw h2) T0 ∧ MM (nw h2) T0 := by
  have z := (Sb.nw (k := 89) b5.1 (Nat.le_refl _))
  have n90 : hN (nw h2) = 90 := congrArg (· + 1) b5.1
  have g5 : ∀ q ∈ RS5, hR (nw h2) q.1 q.2.1 = some q.2.2 := fun q hq => by rw [(z q.1 ((by decide +kernel : ∀ q ∈ RS5, q.1 < 89) q hq)).2.2]; exact b5.2 q hq
  have y : Sb 66 h (nw h2) := s5.trans (z.mono (by omega))
  have g4 : ∀ q ∈ RS4, hR (nw h2) q.1 q.2.1 = some q.2.2 := fun q hq => by rw [(y q.1 ((by decide +kernel : ∀ q ∈ RS4, q.1 < 66) q hq)).2.2]; exact b4.2 q hq
  have gp : ∀ j, j < 8 → hR (nw h2) 6 j = some (34 + 4 * j) ∧ hR (nw h2) (34 + 4 * j) 3 = some (34 + 4 * j + 1) ∧ hR (nw h2) (34 + 4 * j) 4 = some (34 + 4 * j + 2) ∧ hR (nw h2) (34 + 4 * j) 6 = some (34 + 4 * j + 3) := fun j hj => by
    rw [(y 6 (by omega)).2.2, (y (34 + 4 * j) (by omega)).2.2]
    exact p4 j hj
  have c : CB (nw h2) := by
    exact ⟨n90, ⟨g4 (0, 0, 1) (by decide +kernel), g4 (0, 3, 2) (by decide +kernel), g4 (0, 4, 6) (by decide +kernel), g4 (0, 6, 7) (by decide +kernel), g4 (0, 7, 13) (by decide +kernel), g4 (0, 8, 16) (by decide +kernel)⟩, (fun k hk => by
      rcases hk with rfl | rfl | ⟨i, hi, rfl⟩
      · exact ⟨g4 (2, 3, 3) (by decide +kernel), g4 (2, 4, 4) (by decide +kernel), g4 (2, 6, 5) (by decide +kernel)⟩
      · exact ⟨g4 (8, 3, 9) (by decide +kernel), g4 (8, 4, 10) (by decide +kernel), g4 (8, 6, 11) (by decide +kernel)⟩
      · exact (gp i hi).2), ⟨g4 (7, 0, 8) (by decide +kernel), g4 (7, 1, 12) (by decide +kernel)⟩, ⟨g4 (13, 0, 14) (by decide +kernel), g4 (13, 1, 15) (by decide +kernel)⟩, ⟨g4 (17, 0, 18) (by decide +kernel), g4 (17, 1, 19) (by decide +kernel)⟩, ⟨g4 (16, 0, 17) (by decide +kernel), g4 (16, 1, 20) (by decide +kernel), g4 (16, 2, 21) (by decide +kernel), g4 (16, 3, 22) (by decide +kernel), g4 (16, 4, 31) (by decide +kernel), g4 (16, 6, 32) (by decide +kernel), g4 (16, 7, 33) (by decide +kernel)⟩, (fun i hi => by
      match i, hi with
      | 0, _ => exact g4 (22, 0, 23) (by decide +kernel)
      | 1, _ => exact g4 (22, 1, 24) (by decide +kernel)
      | 2, _ => exact g4 (22, 2, 25) (by decide +kernel)
      | 3, _ => exact g4 (22, 3, 26) (by decide +kernel)
      | 4, _ => exact g4 (22, 4, 27) (by decide +kernel)
      | 5, _ => exact g4 (22, 5, 28) (by decide +kernel)
      | 6, _ => exact g4 (22, 6, 29) (by decide +kernel)
      | 7, _ => exact g4 (22, 7, 30) (by decide +kernel)), ⟨g5 (66, 1, 67) (by decide +kernel), g5 (66, 8, 68) (by decide +kernel), g5 (66, 9, 69) (by decide +kernel), g5 (66, 10, 70) (by decide +kernel), g5 (66, 11, 71) (by decide +kernel), g5 (66, 15, 80) (by decide +kernel), g5 (66, 16, 81) (by decide +kernel), g5 (66, 18, 82) (by decide +kernel), g5 (66, 19, 83) (by decide +kernel), g5 (66, 20, 84) (by decide +kernel), g5 (66, 21, 85) (by decide +kernel), g5 (66, 22, 86) (by decide +kernel), g5 (66, 23, 87) (by decide +kernel), g5 (66, 26, 88) (by decide +kernel)⟩, (fun i hi => by
      match i, hi with
      | 0, _ => exact g5 (71, 0, 72) (by decide +kernel)
      | 1, _ => exact g5 (71, 1, 73) (by decide +kernel)
      | 2, _ => exact g5 (71, 2, 74) (by decide +kernel)
      | 3, _ => exact g5 (71, 3, 75) (by decide +kernel)
      | 4, _ => exact g5 (71, 4, 76) (by decide +kernel)
      | 5, _ => exact g5 (71, 5, 77) (by decide +kernel)
      | 6, _ => exact g5 (71, 6, 78) (by decide +kernel)
      | 7, _ => exact g5 (71, 7, 79) (by decide +kernel))⟩
  have hi0 : ∀ q ∈ IS4, hI (nw h2) q.1 q.2.1 = q.2.2 := i4.keep y (by decide +kernel)
  have hi5 : ∀ q ∈ IS5, hI (nw h2) q.1 q.2.1 = q.2.2 := i5.keep z (by decide +kernel)
  refine ⟨c, ⟨⟨c, GT0, r4.sb y (by omega), ⟨hi0 (0, 1, nI 0) (by decide +kernel), fun j hj => absurd hj (Nat.not_lt_zero _)⟩, hi0 (0, 2, -1) (by decide +kernel), hi0 (0, 5, nI 0) (by decide +kernel), id, ⟨fun i hi => ⟨hi, (gp i hi).1⟩, fun i j _ _ e => e⟩, fun i hi => absurd hi (Nat.not_lt_zero _)⟩, Or.inl (hi0 (0, 9, nI 0) (by decide +kernel))⟩, ?_⟩
  exact ⟨c, GT0, d5.row ((z 68 (by omega)).1), ⟨hi5 (66, 2, 0) (by decide +kernel), fun j hj => absurd hj (Nat.not_lt_zero _)⟩, hi5 (66, 7, -1) (by decide +kernel), hi5 (66, 12, 0) (by decide +kernel), fun i hi => absurd hi (Nat.not_lt_zero _)⟩
