/-! the law: its objects made, its rounds -/
set_option maxHeartbeats 1500000 in
set_option maxRecDepth 100000 in
theorem lw_beg1 {X : XT} {nm : String} {hh : List (Nat × Nat × Nat × Nat)} {d i kc ks : Nat} (hX : X.1.2.1 ≤ 260) (hi : i < 2) (hl : i < X.1.2.1) (hE : ∀ (H : AH), IM H T0 → BZ H → AW X (mLaw nm hh) (d + 105) kc ks 59 [(0, .ref 1000), (1, .int (nI 1)), (2, .int (nI i)), (3, .ref 0), (4, .ref 66), (5, .ref 67)] [] H QL) : AW X (mLaw nm hh) (d + 105) (kc + 86) (ks + 3462) 19 [(0, .ref 1000), (1, .int (nI 1)), (2, .int (nI i))] [] h00 QL := by
  have n0 : hN h00 = 0 := rfl
  refine b_new (pc := 19) (n := 0) (ci := 4) (kc := kc + 85) (ks := ks + 3452) n0 rfl rfl dL_law_19 rfl (show Cond.classLink RL 14 (cR 4) ∈ lw_tb2 from tbi 28 (by decide +kernel)) (tbi 29 (by decide +kernel)) (tbi 1 (by decide +kernel)) (by first | rfl | (simp [okv] <;> omega)) (by first | rfl | (simp [okv] <;> omega)) ?_
  obtain ⟨G1, eG1⟩ : ∃ Hx, Hx = nw h00 := ⟨_, rfl⟩
  refine a_heap (h' := G1) eG1.symm ?_
  have nG1 : hN G1 = 1 := by rw [eG1]; exact congrArg (· + 1) n0
  refine a_dup (pc := 22) dL_law_22 rfl ?_
  refine b_mk (pc := 23) (kc := kc + 20) (ks := ks + 147) nG1 (by decide) dL_law_23 (lc_RL_182 rfl) rfl rfl ceX4_init (mk4 (d := d + 100) nG1) rfl rfl (Nat.le_of_ble_eq_true rfl) (by first | rfl | (simp [okv] <;> omega)) (by first | rfl | (simp [okv] <;> omega)) (fun G2 y2 _ r2 => ?_)
  refine a_astore_n (pc := 26) (i := 3) (ls' := [(0, .ref 1000), (1, .int (nI 1)), (2, .int (nI i)), (3, .ref 0)]) dL_law_26 rfl (Nat.le_of_ble_eq_true rfl) rfl ?_
  refine a_bipush (pc := 27) (v := nI 8) dL_law_27 (by decide) ?_
  refine b_newarr (pc := 29) (N := 66) (t := 0) (n := 8) (kc := kc + 19) (ks := ks + 139) y2.1 rfl rfl dL_law_29 rfl rfl (by decide) aC_in.1 rfl (by first | rfl | (simp [okv] <;> omega)) (by first | rfl | (simp [okv] <;> omega)) ?_
  obtain ⟨G3, eG3⟩ : ∃ Hx, Hx = nw G2 := ⟨_, rfl⟩
  refine a_heap (h' := G3) eG3.symm ?_
  have nG3 : hN G3 = 67 := by rw [eG3]; exact congrArg (· + 1) y2.1
  refine a_astore (pc := 31) (i := 4) (ls' := [(0, .ref 1000), (1, .int (nI 1)), (2, .int (nI i)), (3, .ref 0), (4, .ref 66)]) dL_law_31 (Nat.le_of_ble_eq_true rfl) rfl ?_
  refine b_new (pc := 33) (n := 67) (ci := 5) (kc := kc + 18) (ks := ks + 138) nG3 rfl rfl dL_law_33 rfl (show Cond.classLink RL 99 (cR 5) ∈ lw_tb2 from tbi 247 (by decide +kernel)) (tbi 248 (by decide +kernel)) (tbi 7 (by decide +kernel)) (by first | rfl | (simp [okv] <;> omega)) (by first | rfl | (simp [okv] <;> omega)) ?_
  obtain ⟨G4, eG4⟩ : ∃ Hx, Hx = nw G3 := ⟨_, rfl⟩
  refine a_heap (h' := G4) eG4.symm ?_
  have nG4 : hN G4 = 68 := by rw [eG4]; exact congrArg (· + 1) nG3
  have n68 : 68 ≤ hN G4 := by rw [nG4]; exact Nat.le_refl _
  refine a_dup (pc := 36) dL_law_36 rfl ?_
  refine a_aload_n (pc := 37) (i := 0) dL_law_37 rfl rfl ?_
  refine a_iload_n (pc := 38) (i := 2) dL_law_38 rfl rfl ?_
  refine a_sald (pc := 39) (j := i) dL_law_39 rfl (by omega) (by omega) (by omega) ?_
  refine e_I0 (pc := 40) (mc := 0) (ms := 0) (kc := kc + 18) (ks := ks + 138) (as := [.int (X.1.2.2 i)]) (b := 67) (h' := (sI G4 67 0 (X.1.2.2 i))) dL_law_40 (lc_RL_183 rfl) rfl rfl ceX5_init (x_rinit (d := d + 103) n68) rfl rfl (Nat.le_of_ble_eq_true rfl) (by omega) (by omega) ⟨(okc (okd_x (by unfold ext; omega)) (okc okd_i (okc okd_i (okc (okd_r (prN_st (Nat.lt_of_lt_of_le (by decide) n68) (by decide))) (okc (okd_r (prN_st (Nat.lt_of_lt_of_le (by decide) n68) (by decide))) okz))))), (okc (okd_r (prN_st (Nat.lt_of_lt_of_le (by decide) n68) (by decide))) okz)⟩ ?_
  obtain ⟨G5, eG5⟩ : ∃ Hx, Hx = sI G4 67 0 (X.1.2.2 i) := ⟨_, rfl⟩
  refine a_heap (h' := G5) eG5.symm ?_
  have n5 : 68 ≤ hN G5 := by rw [eG5]; exact n68
  have s5 : Sb 66 G2 G5 := by
    have a1 : Sb 66 G2 G3 := by rw [eG3]; exact Sb.nw y2.1 (Nat.le_refl _)
    have a2 : Sb 66 G3 G4 := by rw [eG4]; exact Sb.nw nG3 (by omega)
    have a3 : Sb 66 G4 G5 := by rw [eG5]; exact Sb.sI (by omega)
    exact (a1.trans a2).trans a3
  have im : IM G5 T0 := at0 s5 n5 y2 r2.1 r2.2.1 r2.2.2
  have z66 : hI G5 66 = fun _ => 0 := by
    have a1 := (nw_row (h := G2)).1
    rw [y2.1, ← eG3] at a1
    have a2 : hI G4 66 = hI G3 66 := by rw [eG4]; exact ((Sb.nw nG3 (Nat.le_refl 67)) 66 (by omega)).1
    have a3 : hI G5 66 = hI G4 66 := by rw [eG5]; exact ((Sb.sI (Nat.le_refl 67)) 66 (by omega)).1
    rw [a3, a2, a1]
  have bz : BZ G5 := ⟨by rw [z66], fun w _ => by rw [z66]; exact WB_0 (Nat.le_refl _)⟩
  refine a_astore (pc := 43) (i := 5) (ls' := [(0, .ref 1000), (1, .int (nI 1)), (2, .int (nI i)), (3, .ref 0), (4, .ref 66), (5, .ref 67)]) dL_law_43 (Nat.le_of_ble_eq_true rfl) rfl ?_
  refine a_aload_n (pc := 45) (i := 3) dL_law_45 rfl rfl ?_
  refine a_wf (fun hw => ?_)
  obtain ⟨k, hk⟩ : ∃ k, dl (hN G5) = k := ⟨_, rfl⟩
  have nA : newC (hN G5) (aN k) k 6 := newC_0 n5 hk (by decide)
  have noA := (nA.no hw.1).1
  refine d_new (pc := 46) (ci := 6) (kc := kc + 17) (ks := ks + 125) dL_law_46 (by decide) nA (show Cond.classLink RL 116 (cR 6) ∈ lw_tb2 from tbi 262 (by decide +kernel)) (tbi 263 (by decide +kernel)) (tbi 8 (by decide +kernel)) (okc (okd_x (by unfold ext; omega)) (okc okd_i (okc okd_i (okc (okd_r (prN_st (Nat.lt_of_lt_of_le (by decide) n5) (by decide))) (okc (okd_r (prN_st (Nat.lt_of_lt_of_le (by decide) n5) (by decide))) (okc (okd_r (prN_st (Nat.lt_of_lt_of_le (by decide) n5) (by decide))) okz)))))) (okc (okd_r (prN_st (Nat.lt_of_lt_of_le (by decide) n5) (by decide))) okz) ?_
  refine a_dup (pc := 49) dL_law_49 rfl ?_
  refine e_IUN (pc := 50) (mc := 5) (ms := 53) (kc := kc + 12) (ks := ks + 72) (as := []) (b := aN k) dL_law_50 (lc_RL_118 rfl) rfl rfl ceX6_init (x_init (d := d + 103) adn_ge (by show dl (adn _ _) = _; rw [dl_adn, hk]) ((prN_adn nA.1).mpr (Or.inr rfl)) (by rw [nwD_row.1]) (by rw [nwD_row.1])) rfl rfl (Nat.le_of_ble_eq_true rfl) rfl rfl ⟨(okc (okd_x (by unfold ext; omega)) (okc okd_i (okc okd_i (okc (okd_r ((prN_adn nA.1).mpr (Or.inl (prN_st (Nat.lt_of_lt_of_le (by decide) n5) (by decide))))) (okc (okd_r ((prN_adn nA.1).mpr (Or.inl (prN_st (Nat.lt_of_lt_of_le (by decide) n5) (by decide))))) (okc (okd_r ((prN_adn nA.1).mpr (Or.inl (prN_st (Nat.lt_of_lt_of_le (by decide) n5) (by decide))))) okz)))))), (okc (okd_r ((prN_adn nA.1).mpr (Or.inr rfl))) (okc (okd_r ((prN_adn nA.1).mpr (Or.inl (prN_st (Nat.lt_of_lt_of_le (by decide) n5) (by decide))))) okz))⟩ (fun H1 y => ?_)
  obtain ⟨l1, d2⟩ := y
  have d3 : Dq (fun a => a = aN k) 6 G5 H1 := (((Dq.refl n5 : Dq noS 0 G5 G5).nwD nA noA).mono (fun a z => z.elim)).trans d2
  have m1 := im.dq d3 (fun a z => by have := (SK_own z).2; omega)
  have bz1 := bz.dq n5 d3 (fun z => absurd (SK_own z).2 (by omega))
  refine e_SW (pc := 53) (mc := 12) (ms := 72) (kc := kc) (ks := ks) (as := [.ref 0, .ref (aN k)]) dL_law_53 (lc_RL_186 rfl) ceL_agrees (w_agrees (d := d + 2) (t := T0) m1 l1) rfl rfl (Nat.le_of_ble_eq_true rfl) (fun E h2 y => by cases y.1) rfl rfl (Or.inl (fun v h2 y => y.2.2.2.2)) (fun v2 H2 y => ?_)
  obtain ⟨ev, m2, l2, d4, e2⟩ := y
  cases ev
  refine n_if_eq (pc := 56) (tgt := 182) dL_law_56 (by decide) (by omega) (fun c56 => ?_) (fun c56 => ?_)
  · skip
    exact absurd c56 (by decide)
  · skip
    exact hE H2 m2 (bz1.dq m1.1.1.1 d4 S66k_66)
set_option maxHeartbeats 1500000 in
set_option maxRecDepth 100000 in
theorem lw_795 {X : XT} {nm : String} {hh : List (Nat × Nat × Nat × Nat)} {d i n k kb dn kc ks : Nat} {H : AH} (hV : AW X (mLaw nm hh) (d + 105) kc ks 798 [(0, .ref 1000), (1, .int (nI 1)), (2, .int (nI i)), (3, .ref 0), (4, .ref 66), (5, .ref 67), (6, .ref (aN k)), (7, .ref (bfN kb)), (8, .int (nI dn)), (9, .int (nI 0))] [] H QL) : AW X (mLaw nm hh) (d + 105) kc ks 795 [(0, .ref 1000), (1, .int (nI 1)), (2, .int (nI i)), (3, .ref 0), (4, .ref 66), (5, .ref 67), (6, .ref (aN k)), (7, .ref (bfN kb)), (8, .int (nI dn)), (9, .int (nI n))] [] H QL := by
  refine a_iconst (pc := 795) (v := nI 0) dL_law_795 (by decide) ?_
  refine a_istore (pc := 796) (i := 9) (ls' := [(0, .ref 1000), (1, .int (nI 1)), (2, .int (nI i)), (3, .ref 0), (4, .ref 66), (5, .ref 67), (6, .ref (aN k)), (7, .ref (bfN kb)), (8, .int (nI dn)), (9, .int (nI 0))]) dL_law_796 (Nat.le_of_ble_eq_true rfl) rfl ?_
  exact hV
set_option maxHeartbeats 1500000 in
set_option maxRecDepth 100000 in
theorem lw_top {X : XT} {nm : String} {hh : List (Nat × Nat × Nat × Nat)} {d : Nat} (hX : X.1.2.1 ≤ 260) (hF : xF X = true) : ∀ (fu i : Nat) (H : AH), i ≤ 2 → 2 - i < fu → AW X (mLaw nm hh) (d + 105) (1500 * (2 - i)) (17000 * (2 - i)) 4 [(0, .ref 1000), (1, .int (nI 1)), (2, .int (nI i))] [] H QL := by
  intro fu
  induction fu with
  | zero => intro i H hi hz; exact absurd hz (Nat.not_lt_zero _)
  | succ fu ih =>
    intro i H hi hz
    refine a_forget hF ?_
    refine a_iload_n (pc := 4) (i := 2) dL_law_4 rfl rfl ?_
    refine a_aload_n (pc := 5) (i := 0) dL_law_5 rfl rfl ?_
    refine a_slen (pc := 6) dL_law_6 ?_
    refine n_icmp_ge (pc := 7) (tgt := 938) dL_law_7 (by decide) (by omega) (by omega) (fun c7 => ?_) (fun c7 => ?_)
    · skip
      refine a_iload_n (pc := 938) (i := 1) dL_law_938 rfl rfl ?_
      exact a_ireturn (pc := 939) dL_law_939 rfl rfl rfl
    · skip
      refine a_iload_n (pc := 10) (i := 2) dL_law_10 rfl rfl ?_
      refine a_iconst (pc := 11) (v := nI 2) dL_law_11 (by decide) ?_
      refine n_icmp_ge (pc := 12) (tgt := 938) dL_law_12 (by decide) (by omega) (by omega) (fun c12 => ?_) (fun c12 => ?_)
      · skip
        refine a_iload_n (pc := 938) (i := 1) dL_law_938 rfl rfl ?_
        exact a_ireturn (pc := 939) dL_law_939 rfl rfl rfl
      · skip
        refine a_iload_n (pc := 15) (i := 1) dL_law_15 rfl rfl ?_
        refine n_if_eq (pc := 16) (tgt := 938) dL_law_16 (by decide) (by omega) (fun c16 => ?_) (fun c16 => ?_)
        · skip
          exact absurd c16 (by decide)
        · skip
          have i2 : i < 2 := by omega
          have hC := fun (H : AH) => ih (i + 1) H (by omega) (by omega)
          have hfin := fun (H : AH) (t : ST) m hb => lw_fin (nm := nm) (hh := hh) (X := X) (d := d) (H := H) (t := t) i2 hC m hb
          have hU := fun (k kb : Nat) (H : AH) (t : ST) (dn n : Nat) (K : Nat → Nat) (hd : dn ≤ 18) (li : LI H t k kb dn K) => lw_795 (k := k) (n := n) (lw_undo (n := n) (k := k) i2 hd hfin 9 0 H t (by omega) li.1 li.2.1 li.2.2.2.2.ub (by omega))
          have h233 := fun (H : AH) (t : ST) (k kb : Nat) (li : LI H t k kb 0 (fun _ => 0)) => lw_all i2 (hU k kb) 19 0 0 H t _ (by omega) (Nat.le_refl _) li (by omega)
          have h184 := fun (H : AH) (t : ST) m hb bz => lw_beg3 (H := H) (t := t) i2 h233 m hb bz
          have h59 := fun (H : AH) m bz => lw_beg2 (H := H) (H0 := H) i2 (fun H2 t m hb bz _ => h184 H2 t m hb bz) rfl m bz
          exact AW.mono (lw_beg1 hX i2 (by omega) h59) (by omega) (by omega)
set_option maxHeartbeats 1500000 in
set_option maxRecDepth 100000 in
theorem law_aw {X : XT} {nm : String} {hh : List (Nat × Nat × Nat × Nat)} {h : AH} (hX : X.1.2.1 ≤ 260) (hF : xF X = true) : AW X (mLaw nm hh) 2000 3000 34000 0 [(0, .ref 1000)] [] h QL := by
  show AW X (mLaw nm hh) (1895 + 105) 3000 34000 0 [(0, .ref 1000)] [] h QL
  refine a_iconst (pc := 0) (v := nI 1) dL_law_0 (by decide) ?_
  refine a_istore_n (pc := 1) (i := 1) (ls' := [(0, .ref 1000), (1, .int (nI 1))]) dL_law_1 rfl (Nat.le_of_ble_eq_true rfl) rfl ?_
  refine a_iconst (pc := 2) (v := nI 0) dL_law_2 (by decide) ?_
  refine a_istore_n (pc := 3) (i := 2) (ls' := [(0, .ref 1000), (1, .int (nI 1)), (2, .int (nI 0))]) dL_law_3 rfl (Nat.le_of_ble_eq_true rfl) rfl ?_
  exact AW.mono (lw_top hX hF 3 0 h (by omega) (by omega)) (by omega) (by omega)
