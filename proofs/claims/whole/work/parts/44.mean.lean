/-! meanSize -/
theorem sumN_0 {f : Nat → Nat} : ∀ n, sumN f (n + 1) = f 0 + sumN (fun i => f (i + 1)) n
  | 0 => by show 0 + f 0 = f 0 + 0; omega
  | n + 1 => by
    show sumN f (n + 1) + f (n + 1) = f 0 + (sumN (fun i => f (i + 1)) n + f (n + 1))
    rw [sumN_0 n]; omega
theorem plV_sum {s : SH} : ∀ {l : List (Nat × Nat)} {k : Nat} {X : Nat → Prop} {z : Nat → Nat}, (∀ i, z i ≤ 9) → plV s k X l → k * 9 + sumN (fun i => (l.getD i (0, 0)).1 * z i) l.length ≤ 9 * sLen s
  | [], k, X, z, hz, h => by have h : k = sLen s := h; show k * 9 + 0 ≤ _; omega
  | (n, q) :: r, k, X, z, hz, h => by
    have ih := plV_sum (z := fun i => z (i + 1)) (fun i => hz (i + 1)) h.2
    show k * 9 + sumN _ (r.length + 1) ≤ _
    rw [sumN_0]
    have h1 : n * z 0 ≤ n * 9 := Nat.mul_le_mul_left n (hz 0)
    show k * 9 + (n * z 0 + sumN (fun i => (r.getD i (0, 0)).1 * z (i + 1)) r.length) ≤ _
    omega
theorem qsz_9 {s : SH} (g : GS s) (q : Nat) : qsz s q ≤ 9 := by
  unfold qsz
  rcases Classical.em (qhas s q) with h | h
  · rw [cif_t h]; exact (g.2.2.2.2.1 (q / 48) (q % 48 / 8)).2
  · rw [cif_f h]; omega
theorem sumN_le {f : Nat → Nat} {i : Nat} : ∀ {n : Nat}, i ≤ n → sumN f i ≤ sumN f n
  | 0, h => by rw [show i = 0 by omega]; exact Nat.le_refl _
  | n + 1, h => by
    rcases Nat.lt_or_ge i (n + 1) with z | z
    · exact Nat.le_trans (sumN_le (show i ≤ n by omega)) (Nat.le_add_right _ _)
    · rw [show i = n + 1 by omega]; exact Nat.le_refl _
theorem nan_no : ∀ a : Fin 73, ∀ b : Fin 8, vf_n64 (FP.ddiv (FP.i2d (nI a.val)) (FP.i2d (nI (b.val + 1)))) := by unfold vf_n64; decide +kernel
noncomputable def rMean (s : SH) : UInt64 := cif (0 < bestR s ∧ 0 < sLen s) (FP.ddiv (FP.i2d (nI (sumN (fun k => ((bestL s).getD k (0, 0)).1 * szC s k) (bestL s).length))) (FP.i2d (nI (sLen s)))) FP.dconst0
set_option maxHeartbeats 1500000 in
set_option maxRecDepth 100000 in
theorem sp_meanSize {d : Nat} {h : AH} {t : ST} (m : IM h t) : AC mX4_meanSize (d + 100) 0 0 [.ref 0] h (Qw (.inl (some (.double (rMean (tC t))))) t h) := by
  have m0 := m.1
  have c := m0.1
  have g := m0.2.1.1
  have r := m0.2.2.1
  have hn := c.1
  have gl := g.2.2.2.2.2.1
  have gs := g.2.2.1
  have gw := g.1
  have gh := g.2.1
  refine AC.of (by decide) rfl (Nat.le_of_ble_eq_true rfl) (fun X => ?_)
  show AW X mX4_meanSize (d + 100) 0 0 0 [(0, .ref 0)] [] h (Qw (.inl (some (.double (rMean (tC t))))) t h)
  refine a_aload_n (pc := 0) (i := 0) dX4_meanSize_0 rfl rfl ?_
  refine a_wV1 (pc := 1) (as := []) (b := 0) (ci := 4) (v := .int (bestR (tC t))) dX4_meanSize_1 (lc_RX4_177 rfl) ceX4_bestCuts rfl (lt90 hn (shK_lt (show shK 0 = _ from rfl))) (sp_bestCuts m) rfl rfl (Nat.le_of_ble_eq_true rfl) (fun h1 f1 rb => ?_)
  obtain ⟨mm, hpl⟩ := rb
  clear m0 c g r hn gl gs gw gh
  have m0 := mm.1
  have c := m0.1
  have g := m0.2.1.1
  have r := m0.2.2.1
  have hn := c.1
  have gl := g.2.2.2.2.2.1
  have gs := g.2.2.1
  have gw := g.1
  have gh := g.2.1
  have fw0 := f1.w (by intro a ha; simp at ha; omega)
  refine a_istore_n (pc := 4) (i := 1) (ls' := [(0, .ref 0), (1, .int (bestR (tC t)))]) dX4_meanSize_4 rfl (by decide) rfl ?_
  refine a_iload_n (pc := 5) (i := 1) dX4_meanSize_5 rfl rfl ?_
  refine a_if_le (pc := 6) (tgt := 19) dX4_meanSize_6 (by decide) (fun c6 => ?_) (fun c6 => ?_)
  · skip
    have e : rMean (tC t) = _ := cif_f (fun z => (Int32.not_lt.mpr c6) z.1)
    refine a_dconst0 (pc := 19) dX4_meanSize_19 ?_
    exact a_dreturn (pc := 20) dX4_meanSize_20 rfl (⟨by rw [e], mm, fw0⟩)
  · have c6p : 0 < bestR (tC t) := Int32.not_le.mp c6
    refine a_aload_n (pc := 9) (i := 0) dX4_meanSize_9 rfl rfl ?_
    refine a_getR (pc := 10) (ci := 4) (k := 3) (b := 2) dX4_meanSize_10 (lf_RX4_23 rfl) (by decide) rfl rfl (lt90 hn (shK_lt (show shK 0 = _ from rfl))) c.2.1.2.1 ?_
    refine a_getI (pc := 13) (ci := 3) (k := 7) dX4_meanSize_13 (lf_RX4_99 rfl) (by decide) rfl rfl (lt90 hn (shK_lt (show shK 2 = _ from rfl))) ?_
    refine a_top (show (.int (hI h1 2 7) : Value) = .int (nI (sLen (tC t))) from congrArg Value.int r.1.2.2.2.2.1) ?_
    refine n_if_gt (pc := 16) (tgt := 21) dX4_meanSize_16 (by decide) (by omega) (fun c16 => ?_) (fun c16 => ?_)
    · obtain ⟨h8, l, hl, hbl, hbr, hl8⟩ := best_ge (Int32.le_of_lt c6p)
      have ph := PLc_b (hpl h8).1 hl
      have e : rMean (tC t) = _ := cif_t ⟨c6p, c16⟩
      refine a_locs (ls' := [(0, .ref 0), (1, .int (nI l.length))]) (by rw [hbr]) ?_
      have hsum : sumN (fun k => ((bestL (tC t)).getD k (0, 0)).1 * szC (tC t) k) l.length ≤ 72 := by have z := plV_sum (z := szC (tC t)) (fun i => qsz_9 g _) (BP_V hl); rw [hbl]; omega
      have LP : ∀ (fu : Nat) (i : Nat), i ≤ l.length → l.length - i < fu → AW X mX4_meanSize (d + 100) 0 0 25 [(0, .ref 0), (1, .int (nI l.length)), (2, .int (nI (sumN (fun k => ((bestL (tC t)).getD k (0, 0)).1 * szC (tC t) k) i))), (3, .int (nI i))] [] h1 (Qw (.inl (some (.double (rMean (tC t))))) t h) := by
        intro fu
        induction fu with
        | zero => intro i hi hz; exact absurd hz (Nat.not_lt_zero _)
        | succ fu ih =>
          intro i hi hz
          refine a_iload_n (pc := 25) (i := 3) dX4_meanSize_25 rfl rfl ?_
          refine a_iload_n (pc := 26) (i := 1) dX4_meanSize_26 rfl rfl ?_
          refine n_icmp_ge (pc := 27) (tgt := 44) dX4_meanSize_27 (by decide) (by omega) (by omega) (fun c27 => ?_) (fun c27 => ?_)
          · have ei : i = l.length := by omega
            subst ei
            have hnn : vf_n64 (FP.ddiv (FP.i2d (nI (sumN (fun k => ((bestL (tC t)).getD k (0, 0)).1 * szC (tC t) k) l.length))) (FP.i2d (nI (sLen (tC t))))) := by have z := nan_no ⟨sumN (fun k => ((bestL (tC t)).getD k (0, 0)).1 * szC (tC t) k) l.length, by omega⟩ ⟨sLen (tC t) - 1, by omega⟩; rw [show sLen (tC t) - 1 + 1 = sLen (tC t) by omega] at z; exact z
            refine a_iload_n (pc := 44) (i := 2) dX4_meanSize_44 rfl rfl ?_
            refine a_i2d (pc := 45) dX4_meanSize_45 ?_
            refine a_aload_n (pc := 46) (i := 0) dX4_meanSize_46 rfl rfl ?_
            refine a_getR (pc := 47) (ci := 4) (k := 3) (b := 2) dX4_meanSize_47 (lf_RX4_23 rfl) (by decide) rfl rfl (lt90 hn (shK_lt (show shK 0 = _ from rfl))) c.2.1.2.1 ?_
            refine a_getI (pc := 50) (ci := 3) (k := 7) dX4_meanSize_50 (lf_RX4_99 rfl) (by decide) rfl rfl (lt90 hn (shK_lt (show shK 2 = _ from rfl))) ?_
            refine a_top (show (.int (hI h1 2 7) : Value) = .int (nI (sLen (tC t))) from congrArg Value.int r.1.2.2.2.2.1) ?_
            refine a_i2d (pc := 53) dX4_meanSize_53 ?_
            refine a_ddiv (pc := 54) dX4_meanSize_54 (by first | exact hnn | omega) ?_
            exact a_dreturn (pc := 55) dX4_meanSize_55 rfl (⟨by rw [e, hbl], mm, fw0⟩)
          · skip
            refine a_iload_n (pc := 30) (i := 2) dX4_meanSize_30 rfl rfl ?_
            refine a_aload_n (pc := 31) (i := 0) dX4_meanSize_31 rfl rfl ?_
            refine a_iload_n (pc := 32) (i := 3) dX4_meanSize_32 rfl rfl ?_
            refine a_vV1 (pc := 33) (as := [.int (nI i)]) (b := 0) (ci := 4) (v := .int (nI ((l.getD i (0, 0)).1 * qsz (tC t) (l.getD i (0, 0)).2))) (h' := h1) dX4_meanSize_33 (lc_RX4_189 rfl) ceX4_sizesOfCut rfl (lt90 hn (shK_lt (show shK 0 = _ from rfl))) (sp_sizesOfCut c g r ph hl8 c27 (plV_q (BP_V hl) i c27).1) rfl rfl (Nat.le_of_ble_eq_true rfl) rfl ?_
            refine n_iadd (pc := 36) dX4_meanSize_36 ?_
            refine a_istore_n (pc := 37) (i := 2) (ls' := [(0, .ref 0), (1, .int (nI l.length)), (2, .int (nI ((sumN (fun k => ((bestL (tC t)).getD k (0, 0)).1 * szC (tC t) k) i) + ((l.getD i (0, 0)).1 * qsz (tC t) (l.getD i (0, 0)).2)))), (3, .int (nI i))]) dX4_meanSize_37 rfl (by decide) rfl ?_
            refine n_iinc (pc := 38) (k := 1) (ls' := [(0, .ref 0), (1, .int (nI l.length)), (2, .int (nI ((sumN (fun k => ((bestL (tC t)).getD k (0, 0)).1 * szC (tC t) k) i) + ((l.getD i (0, 0)).1 * qsz (tC t) (l.getD i (0, 0)).2)))), (3, .int (nI (i + 1)))]) dX4_meanSize_38 rfl (by decide) (by decide) rfl ?_
            refine a_goto (pc := 41) (tgt := 25) dX4_meanSize_41 (by decide) ?_
            refine a_locs (ls' := [(0, .ref 0), (1, .int (nI l.length)), (2, .int (nI (sumN (fun k => ((bestL (tC t)).getD k (0, 0)).1 * szC (tC t) k) (i + 1)))), (3, .int (nI (i + 1)))]) (by unfold szC; rw [hbl]; rfl) ?_
            exact ih (i + 1) (by omega) (by omega)
      refine a_iconst (pc := 21) (v := nI 0) dX4_meanSize_21 (by decide) ?_
      refine a_istore_n (pc := 22) (i := 2) (ls' := [(0, .ref 0), (1, .int (nI l.length)), (2, .int (nI 0))]) dX4_meanSize_22 rfl (by decide) rfl ?_
      refine a_iconst (pc := 23) (v := nI 0) dX4_meanSize_23 (by decide) ?_
      refine a_istore_n (pc := 24) (i := 3) (ls' := [(0, .ref 0), (1, .int (nI l.length)), (2, .int (nI 0)), (3, .int (nI 0))]) dX4_meanSize_24 rfl (by decide) rfl ?_
      refine a_locs (ls' := [(0, .ref 0), (1, .int (nI l.length)), (2, .int (nI (sumN (fun k => ((bestL (tC t)).getD k (0, 0)).1 * szC (tC t) k) 0))), (3, .int (nI 0))]) rfl ?_
      exact LP (l.length + 1) 0 (by omega) (by omega)
    · skip
      have e : rMean (tC t) = _ := cif_f (fun z => absurd z.2 (by omega))
      refine a_dconst0 (pc := 19) dX4_meanSize_19 ?_
      exact a_dreturn (pc := 20) dX4_meanSize_20 rfl (⟨by rw [e], mm, fw0⟩)
