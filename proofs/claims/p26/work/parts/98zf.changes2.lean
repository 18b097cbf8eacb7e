/-! the law: a cell mended, a strip snipped -/
set_option maxHeartbeats 1500000 in
set_option maxRecDepth 100000 in
theorem lw_c5 {X : XT} {nm : String} {hh : List (Nat × Nat × Nat × Nat)} {d i n k kp kb dn kc ks : Nat} {K : Nat → Nat} {t : ST} (hY : ∀ (H : AH) (t2 : ST), MJ H t t2 k kp kb dn K → t2.2.2 = (tRem t).2.2 → AW X (mLaw nm hh) (d + 105) kc ks 729 [(0, .ref 1000), (1, .int (nI 1)), (2, .int (nI i)), (3, .ref 0), (4, .ref 66), (5, .ref 67), (6, .ref (aN k)), (7, .ref (bfN kb)), (8, .int (nI dn)), (9, .int (nI n)), (10, .ref (aN kp)), (11, .int (nI 1))] [] H QL) (hZ : ∀ (H : AH) (t2 : ST), MJ H t t2 k kp kb dn K → t2.2.2 = t.2.2 → AW X (mLaw nm hh) (d + 105) kc ks 729 [(0, .ref 1000), (1, .int (nI 1)), (2, .int (nI i)), (3, .ref 0), (4, .ref 66), (5, .ref 67), (6, .ref (aN k)), (7, .ref (bfN kb)), (8, .int (nI dn)), (9, .int (nI n)), (10, .ref (aN kp)), (11, .int (nI 0))] [] H QL) {H : AH} (m : MJ H t t k kp kb dn K) : AW X (mLaw nm hh) (d + 105) (kc + 1) (ks + 6) 628 [(0, .ref 1000), (1, .int (nI 1)), (2, .int (nI i)), (3, .ref 0), (4, .ref 66), (5, .ref 67), (6, .ref (aN k)), (7, .ref (bfN kb)), (8, .int (nI dn)), (9, .int (nI n)), (10, .ref (aN kp)), (11, .int (nI 1))] [] H QL := by
  have l0 := m.2.2.2.1
  have c12 := cells12 l0.1.1
  have g0 := l0.1.1.1
  refine a_aload (pc := 628) (i := 5) dL_law_628 rfl ?_
  refine a_aload (pc := 630) (i := 6) dL_law_630 rfl ?_
  refine g_vV1 (pc := 632) (as := []) (b := aN k) (ci := 6) (v := .int (nI (sCells (tC t)))) (h' := H) dL_law_632 (lc_RL_126 rfl) ceX6_all kd_a m.2.2.2.1.1.2.1 (x_all (d := d + 104) m.2.2.2.1) rfl rfl (Nat.le_of_ble_eq_true rfl) rfl ?_
  refine a_iconst (pc := 635) (v := nI 1) dL_law_635 (by decide) ?_
  refine n_iadd (pc := 636) dL_law_636 ?_
  refine g_wV (pc := 637) (as := [.int (nI (sCells (tC t) + 1))]) (b := 67) (ci := 5) dL_law_637 (lc_RL_98 rfl) ceX5_below k67 (prN_st (Nat.lt_of_lt_of_le (by decide) m.n68) (by decide)) (x_below (d := d + 104) m.n68 (by omega)) rfl rfl (Nat.le_of_ble_eq_true rfl) (fun E h2 y => by obtain ⟨n, x, -, y, -⟩ := y; cases y) (fun v2 h2 y => by obtain ⟨n, x, -, -, y⟩ := y; rw [y]; rfl) (fun v2 hx y => ?_)
  obtain ⟨q0, x0, hq0, evq0, rfl⟩ := y
  cases evq0
  have m1 := m.bel (x := x0)
  obtain ⟨H1, hH1⟩ : ∃ Hx, Hx = sI H 67 0 x0 := ⟨_, rfl⟩
  refine a_heap (h' := H1) hH1.symm ?_
  rw [← hH1] at m1
  refine a_istore (pc := 640) (i := 19) (ls' := [(0, .ref 1000), (1, .int (nI 1)), (2, .int (nI i)), (3, .ref 0), (4, .ref 66), (5, .ref 67), (6, .ref (aN k)), (7, .ref (bfN kb)), (8, .int (nI dn)), (9, .int (nI n)), (10, .ref (aN kp)), (11, .int (nI 1)), (19, .int (nI q0))]) dL_law_640 (Nat.le_of_ble_eq_true rfl) rfl ?_
  refine a_iload (pc := 642) (i := 19) dL_law_642 rfl ?_
  refine a_aload (pc := 644) (i := 6) dL_law_644 rfl ?_
  refine g_vV1 (pc := 646) (as := []) (b := aN k) (ci := 6) (v := .int (nI (sCells (tC t)))) (h' := H1) dL_law_646 (lc_RL_126 rfl) ceX6_all kd_a m1.2.2.2.1.1.2.1 (x_all (d := d + 104) m1.2.2.2.1) rfl rfl (Nat.le_of_ble_eq_true rfl) rfl ?_
  refine n_icmp_ge (pc := 649) (tgt := 667) dL_law_649 (by decide) (by omega) (by omega) (fun c649 => ?_) (fun c649 => ?_)
  · skip
    refine a_iconst (pc := 667) (v := nI 0) dL_law_667 (by decide) ?_
    refine a_istore (pc := 668) (i := 11) (ls' := [(0, .ref 1000), (1, .int (nI 1)), (2, .int (nI i)), (3, .ref 0), (4, .ref 66), (5, .ref 67), (6, .ref (aN k)), (7, .ref (bfN kb)), (8, .int (nI dn)), (9, .int (nI n)), (10, .ref (aN kp)), (11, .int (nI 0)), (19, .int (nI q0))]) dL_law_668 (Nat.le_of_ble_eq_true rfl) rfl ?_
    refine a_iload (pc := 670) (i := 11) dL_law_670 rfl ?_
    refine n_if_eq (pc := 672) (tgt := 684) dL_law_672 (by decide) (by omega) (fun c672 => ?_) (fun c672 => ?_)
    · skip
      refine a_aload_n (pc := 684) (i := 3) dL_law_684 rfl rfl ?_
      refine a_iload (pc := 685) (i := 19) dL_law_685 rfl ?_
      refine g_pX (pc := 687) (kc := kc) (ks := ks) (as := [.ref 0, .int (nI q0)]) dL_law_687 (lc_RL_204 rfl) ceL_mend (sL_mend (d := d + 3) m1.1) rfl rfl (Nat.le_of_ble_eq_true rfl) (by omega) (by omega) (fun H3 im3 f3 => ?_)
      have eo := om_off (t := t) (c := q0) (by omega) ⟨by omega, by omega⟩
      rw [eo] at im3 ⊢
      have m3 := m1.fw im3 f3 m1.2.1 m1.2.2.2.1
      refine a_top (show (.int (wn (.inr eIO)) : Value) = .int ((-2000000097)) from congrArg Value.int wn_E.1) ?_
      refine a_iload (pc := 690) (i := 11) dL_law_690 rfl ?_
      refine n_if_eq (pc := 692) (tgt := 703) dL_law_692 (by decide) (by omega) (fun c692 => ?_) (fun c692 => ?_)
      · skip
        refine a_iload (pc := 703) (i := 19) dL_law_703 rfl ?_
        refine a_aload (pc := 705) (i := 6) dL_law_705 rfl ?_
        refine g_vV1 (pc := 707) (as := []) (b := aN k) (ci := 6) (v := .int (nI (sCells (tC t)))) (h' := H3) dL_law_707 (lc_RL_126 rfl) ceX6_all kd_a m3.2.2.2.1.1.2.1 (x_all (d := d + 104) m3.2.2.2.1) rfl rfl (Nat.le_of_ble_eq_true rfl) rfl ?_
        refine n_icmp_ge (pc := 710) (tgt := 718) dL_law_710 (by decide) (by omega) (by omega) (fun c710 => ?_) (fun c710 => ?_)
        · skip
          refine a_ldc (pc := 718) (v := (-2000000097)) dL_law_718 (li_RL_52 rfl) ?_
          refine a_icmp_ne (pc := 720) (tgt := 727) dL_law_720 (by decide) (fun c720 => ?_) (fun c720 => ?_)
          · skip
            exact absurd rfl c720
          · skip
            refine a_iconst (pc := 723) (v := nI 1) dL_law_723 (by decide) ?_
            refine a_goto (pc := 724) (tgt := 728) dL_law_724 (by decide) ?_
            refine a_istore_n (pc := 728) (i := 1) (ls' := [(0, .ref 1000), (1, .int (nI 1)), (2, .int (nI i)), (3, .ref 0), (4, .ref 66), (5, .ref 67), (6, .ref (aN k)), (7, .ref (bfN kb)), (8, .int (nI dn)), (9, .int (nI n)), (10, .ref (aN kp)), (11, .int (nI 0)), (19, .int (nI q0))]) dL_law_728 rfl (Nat.le_of_ble_eq_true rfl) rfl ?_
            refine a_drop (ls' := [(0, .ref 1000), (1, .int (nI 1)), (2, .int (nI i)), (3, .ref 0), (4, .ref 66), (5, .ref 67), (6, .ref (aN k)), (7, .ref (bfN kb)), (8, .int (nI dn)), (9, .int (nI n)), (10, .ref (aN kp)), (11, .int (nI 0))]) (by simp) ?_
            exact hZ _ _ m3 rfl
        · skip
          exact absurd c710 (by omega)
      · skip
        first | exact absurd c692 (by decide) | exact absurd rfl c692
    · skip
      first | exact absurd c672 (by decide) | exact absurd rfl c672
  · skip
    refine a_aload (pc := 652) (i := 6) dL_law_652 rfl ?_
    refine g_getR (pc := 654) (ci := 6) (k := 5) (b := gonN k 6 (tC t)) dL_law_654 (lf_RL_129 rfl) (by decide) rfl kd_a m1.2.2.2.1.1.2.1 m1.2.2.2.1.2.2.1.2.2 ?_
    refine a_iload (pc := 657) (i := 19) dL_law_657 rfl ?_
    refine g_zald (pc := 659) (j := q0) dL_law_659 (kd_gon m1.2.2.2.1.1.1) m1.2.2.2.1.1.2.2.2.2 rfl (by omega) ?_
    refine a_top (show (.int (hI H1 (gonN k 6 (tC t)) q0) : Value) = .int (bi (sGn (tC t) q0)) from congrArg Value.int (m1.2.2.2.1.2.2.2.2.2 q0 (by omega))) ?_
    refine b_if_eq (pc := 660) (tgt := 667) dL_law_660 (by decide) (fun c660 => ?_) (fun c660 => ?_)
    · skip
      have gg : ¬ sGn (tC t) q0 := c660
      refine a_iconst (pc := 667) (v := nI 0) dL_law_667 (by decide) ?_
      refine a_istore (pc := 668) (i := 11) (ls' := [(0, .ref 1000), (1, .int (nI 1)), (2, .int (nI i)), (3, .ref 0), (4, .ref 66), (5, .ref 67), (6, .ref (aN k)), (7, .ref (bfN kb)), (8, .int (nI dn)), (9, .int (nI n)), (10, .ref (aN kp)), (11, .int (nI 0)), (19, .int (nI q0))]) dL_law_668 (Nat.le_of_ble_eq_true rfl) rfl ?_
      refine a_iload (pc := 670) (i := 11) dL_law_670 rfl ?_
      refine n_if_eq (pc := 672) (tgt := 684) dL_law_672 (by decide) (by omega) (fun c672 => ?_) (fun c672 => ?_)
      · skip
        refine a_aload_n (pc := 684) (i := 3) dL_law_684 rfl rfl ?_
        refine a_iload (pc := 685) (i := 19) dL_law_685 rfl ?_
        refine g_pX (pc := 687) (kc := kc) (ks := ks) (as := [.ref 0, .int (nI q0)]) dL_law_687 (lc_RL_204 rfl) ceL_mend (sL_mend (d := d + 3) m1.1) rfl rfl (Nat.le_of_ble_eq_true rfl) (by omega) (by omega) (fun H3 im3 f3 => ?_)
        have eo := om_not (t := t) (c := q0) (by omega) (by omega) gg
        rw [eo] at im3 ⊢
        have m3 := m1.fw im3 f3 m1.2.1 m1.2.2.2.1
        refine a_top (show (.int (wn (.inr eIS)) : Value) = .int ((-2000000099)) from congrArg Value.int wn_E.2.2.1) ?_
        refine a_iload (pc := 690) (i := 11) dL_law_690 rfl ?_
        refine n_if_eq (pc := 692) (tgt := 703) dL_law_692 (by decide) (by omega) (fun c692 => ?_) (fun c692 => ?_)
        · skip
          refine a_iload (pc := 703) (i := 19) dL_law_703 rfl ?_
          refine a_aload (pc := 705) (i := 6) dL_law_705 rfl ?_
          refine g_vV1 (pc := 707) (as := []) (b := aN k) (ci := 6) (v := .int (nI (sCells (tC t)))) (h' := H3) dL_law_707 (lc_RL_126 rfl) ceX6_all kd_a m3.2.2.2.1.1.2.1 (x_all (d := d + 104) m3.2.2.2.1) rfl rfl (Nat.le_of_ble_eq_true rfl) rfl ?_
          refine n_icmp_ge (pc := 710) (tgt := 718) dL_law_710 (by decide) (by omega) (by omega) (fun c710 => ?_) (fun c710 => ?_)
          · skip
            exact absurd c710 (by omega)
          · skip
            refine a_ldc (pc := 713) (v := (-2000000099)) dL_law_713 (li_RL_80 rfl) ?_
            refine a_goto (pc := 715) (tgt := 720) dL_law_715 (by decide) ?_
            refine a_icmp_ne (pc := 720) (tgt := 727) dL_law_720 (by decide) (fun c720 => ?_) (fun c720 => ?_)
            · skip
              exact absurd rfl c720
            · skip
              refine a_iconst (pc := 723) (v := nI 1) dL_law_723 (by decide) ?_
              refine a_goto (pc := 724) (tgt := 728) dL_law_724 (by decide) ?_
              refine a_istore_n (pc := 728) (i := 1) (ls' := [(0, .ref 1000), (1, .int (nI 1)), (2, .int (nI i)), (3, .ref 0), (4, .ref 66), (5, .ref 67), (6, .ref (aN k)), (7, .ref (bfN kb)), (8, .int (nI dn)), (9, .int (nI n)), (10, .ref (aN kp)), (11, .int (nI 0)), (19, .int (nI q0))]) dL_law_728 rfl (Nat.le_of_ble_eq_true rfl) rfl ?_
              refine a_drop (ls' := [(0, .ref 1000), (1, .int (nI 1)), (2, .int (nI i)), (3, .ref 0), (4, .ref 66), (5, .ref 67), (6, .ref (aN k)), (7, .ref (bfN kb)), (8, .int (nI dn)), (9, .int (nI n)), (10, .ref (aN kp)), (11, .int (nI 0))]) (by simp) ?_
              exact hZ _ _ m3 rfl
        · skip
          first | exact absurd c692 (by decide) | exact absurd rfl c692
      · skip
        first | exact absurd c672 (by decide) | exact absurd rfl c672
    · skip
      have gg : sGn (tC t) q0 := by first | exact c660 | exact Classical.not_not.mp c660
      refine a_iconst (pc := 663) (v := nI 1) dL_law_663 (by decide) ?_
      refine a_goto (pc := 664) (tgt := 668) dL_law_664 (by decide) ?_
      refine a_istore (pc := 668) (i := 11) (ls' := [(0, .ref 1000), (1, .int (nI 1)), (2, .int (nI i)), (3, .ref 0), (4, .ref 66), (5, .ref 67), (6, .ref (aN k)), (7, .ref (bfN kb)), (8, .int (nI dn)), (9, .int (nI n)), (10, .ref (aN kp)), (11, .int (nI 1)), (19, .int (nI q0))]) dL_law_668 (Nat.le_of_ble_eq_true rfl) rfl ?_
      refine a_iload (pc := 670) (i := 11) dL_law_670 rfl ?_
      refine n_if_eq (pc := 672) (tgt := 684) dL_law_672 (by decide) (by omega) (fun c672 => ?_) (fun c672 => ?_)
      · skip
        exact absurd c672 (by decide)
      · skip
        refine a_aload (pc := 675) (i := 6) dL_law_675 rfl ?_
        refine g_getR (pc := 677) (ci := 6) (k := 5) (b := gonN k 6 (tC t)) dL_law_677 (lf_RL_129 rfl) (by decide) rfl kd_a m1.2.2.2.1.1.2.1 m1.2.2.2.1.2.2.1.2.2 ?_
        refine a_iload (pc := 680) (i := 19) dL_law_680 rfl ?_
        refine a_iconst (pc := 682) (v := nI 0) dL_law_682 (by decide) ?_
        refine g_zast (pc := 683) (j := q0) dL_law_683 (kd_gon m1.2.2.2.1.1.1) m1.2.2.2.1.1.2.2.2.2 rfl (by omega) ?_
        refine a_heap (h' := sI H1 (gonN k 6 (tC t)) q0 0) ((by rw [show (nI 0 &&& 1 : Int32) = 0 by decide])) ?_
        obtain ⟨H2, hH2⟩ : ∃ Hx, Hx = sI H1 (gonN k 6 (tC t)) q0 0 := ⟨_, rfl⟩
        refine a_heap (h' := H2) hH2.symm ?_
        have dA : Dq (fun a => a = gonN k 6 (tC t)) 0 H1 H2 := by rw [hH2]; exact (Dq.refl m1.n68 : Dq (fun a => a = gonN k 6 (tC t)) 0 H1 H1).sI (Or.inl rfl)
        have im2 := m1.im dA (fun a z => SK_gon c12 z)
        have l2 : LW H2 k 6 (mdS (tC t) q0) := by rw [hH2]; exact LW_mend m1.2.2.2.1
        refine a_aload_n (pc := 684) (i := 3) dL_law_684 rfl rfl ?_
        refine a_iload (pc := 685) (i := 19) dL_law_685 rfl ?_
        refine g_pX (pc := 687) (kc := kc) (ks := ks) (as := [.ref 0, .int (nI q0)]) dL_law_687 (lc_RL_204 rfl) ceL_mend (sL_mend (d := d + 3) im2) rfl rfl (Nat.le_of_ble_eq_true rfl) (by omega) (by omega) (fun H3 im3 f3 => ?_)
        have eo := om_yes (t := t) (c := q0) (by omega) (by omega) gg
        rw [eo] at im3 ⊢
        have m3 := m1.ch dA (fun a z => SK_gon c12 z) im3 f3 ((tRem_b t).1.trans m1.2.1) l2
        refine a_iload (pc := 690) (i := 11) dL_law_690 rfl ?_
        refine n_if_eq (pc := 692) (tgt := 703) dL_law_692 (by decide) (by omega) (fun c692 => ?_) (fun c692 => ?_)
        · skip
          exact absurd c692 (by decide)
        · skip
          refine a_aload (pc := 695) (i := 6) dL_law_695 rfl ?_
          refine g_vV1 (pc := 697) (as := []) (b := aN k) (ci := 6) (v := .int (nI (nThere (mdS (tC t) q0)))) (h' := H3) dL_law_697 (lc_RL_239 rfl) ceX6_there kd_a m3.2.2.2.1.1.2.1 (x_there (d := d + 104) m3.2.2.2.1) rfl rfl (Nat.le_of_ble_eq_true rfl) rfl ?_
          refine a_goto (pc := 700) (tgt := 720) dL_law_700 (by decide) ?_
          refine a_icmp_ne (pc := 720) (tgt := 727) dL_law_720 (by decide) (fun c720 => ?_) (fun c720 => ?_)
          · skip
            exact absurd rfl c720
          · skip
            refine a_iconst (pc := 723) (v := nI 1) dL_law_723 (by decide) ?_
            refine a_goto (pc := 724) (tgt := 728) dL_law_724 (by decide) ?_
            refine a_istore_n (pc := 728) (i := 1) (ls' := [(0, .ref 1000), (1, .int (nI 1)), (2, .int (nI i)), (3, .ref 0), (4, .ref 66), (5, .ref 67), (6, .ref (aN k)), (7, .ref (bfN kb)), (8, .int (nI dn)), (9, .int (nI n)), (10, .ref (aN kp)), (11, .int (nI 1)), (19, .int (nI q0))]) dL_law_728 rfl (Nat.le_of_ble_eq_true rfl) rfl ?_
            refine a_drop (ls' := [(0, .ref 1000), (1, .int (nI 1)), (2, .int (nI i)), (3, .ref 0), (4, .ref 66), (5, .ref 67), (6, .ref (aN k)), (7, .ref (bfN kb)), (8, .int (nI dn)), (9, .int (nI n)), (10, .ref (aN kp)), (11, .int (nI 1))]) (by simp) ?_
            exact hY _ _ m3 rfl
set_option maxHeartbeats 1500000 in
set_option maxRecDepth 100000 in
theorem lw_c3 {X : XT} {nm : String} {hh : List (Nat × Nat × Nat × Nat)} {d i n k kp kb dn kc ks : Nat} {K : Nat → Nat} {t : ST} (hY : ∀ (H : AH) (t2 : ST), MJ H t t2 k kp kb dn K → t2.2.2 = (tRem t).2.2 → AW X (mLaw nm hh) (d + 105) kc ks 729 [(0, .ref 1000), (1, .int (nI 1)), (2, .int (nI i)), (3, .ref 0), (4, .ref 66), (5, .ref 67), (6, .ref (aN k)), (7, .ref (bfN kb)), (8, .int (nI dn)), (9, .int (nI n)), (10, .ref (aN kp)), (11, .int (nI 1))] [] H QL) (hZ : ∀ (H : AH) (t2 : ST), MJ H t t2 k kp kb dn K → t2.2.2 = t.2.2 → AW X (mLaw nm hh) (d + 105) kc ks 729 [(0, .ref 1000), (1, .int (nI 1)), (2, .int (nI i)), (3, .ref 0), (4, .ref 66), (5, .ref 67), (6, .ref (aN k)), (7, .ref (bfN kb)), (8, .int (nI dn)), (9, .int (nI n)), (10, .ref (aN kp)), (11, .int (nI 0))] [] H QL) {H : AH} (m : MJ H t t k kp kb dn K) : AW X (mLaw nm hh) (d + 105) (kc + 1) (ks + 6) 408 [(0, .ref 1000), (1, .int (nI 1)), (2, .int (nI i)), (3, .ref 0), (4, .ref 66), (5, .ref 67), (6, .ref (aN k)), (7, .ref (bfN kb)), (8, .int (nI dn)), (9, .int (nI n)), (10, .ref (aN kp)), (11, .int (nI 1))] [] H QL := by
  have l0 := m.2.2.2.1
  have c12 := cells12 l0.1.1
  have g0 := l0.1.1.1
  refine a_aload (pc := 408) (i := 5) dL_law_408 rfl ?_
  refine a_iconst (pc := 410) (v := nI 2) dL_law_410 (by decide) ?_
  refine g_wV (pc := 411) (as := [.int (nI 2)]) (b := 67) (ci := 5) dL_law_411 (lc_RL_98 rfl) ceX5_below k67 (prN_st (Nat.lt_of_lt_of_le (by decide) m.n68) (by decide)) (x_below (d := d + 104) m.n68 (by omega)) rfl rfl (Nat.le_of_ble_eq_true rfl) (fun E h2 y => by obtain ⟨n, x, -, y, -⟩ := y; cases y) (fun v2 h2 y => by obtain ⟨n, x, -, -, y⟩ := y; rw [y]; rfl) (fun v2 hx y => ?_)
  obtain ⟨q0, x0, hq0, evq0, rfl⟩ := y
  cases evq0
  have m1 := m.bel (x := x0)
  obtain ⟨H1, hH1⟩ : ∃ Hx, Hx = sI H 67 0 x0 := ⟨_, rfl⟩
  refine a_heap (h' := H1) hH1.symm ?_
  rw [← hH1] at m1
  refine a_istore (pc := 414) (i := 13) (ls' := [(0, .ref 1000), (1, .int (nI 1)), (2, .int (nI i)), (3, .ref 0), (4, .ref 66), (5, .ref 67), (6, .ref (aN k)), (7, .ref (bfN kb)), (8, .int (nI dn)), (9, .int (nI n)), (10, .ref (aN kp)), (11, .int (nI 1)), (13, .int (nI q0))]) dL_law_414 (Nat.le_of_ble_eq_true rfl) rfl ?_
  refine a_aload (pc := 416) (i := 5) dL_law_416 rfl ?_
  refine a_aload (pc := 418) (i := 6) dL_law_418 rfl ?_
  refine g_vV1 (pc := 420) (as := []) (b := aN k) (ci := 6) (v := .int (nI (sCells (tC t)))) (h' := H1) dL_law_420 (lc_RL_126 rfl) ceX6_all kd_a m1.2.2.2.1.1.2.1 (x_all (d := d + 104) m1.2.2.2.1) rfl rfl (Nat.le_of_ble_eq_true rfl) rfl ?_
  refine a_iconst (pc := 423) (v := nI 1) dL_law_423 (by decide) ?_
  refine n_iadd (pc := 424) dL_law_424 ?_
  refine g_wV (pc := 425) (as := [.int (nI (sCells (tC t) + 1))]) (b := 67) (ci := 5) dL_law_425 (lc_RL_98 rfl) ceX5_below k67 (prN_st (Nat.lt_of_lt_of_le (by decide) m1.n68) (by decide)) (x_below (d := d + 104) m1.n68 (by omega)) rfl rfl (Nat.le_of_ble_eq_true rfl) (fun E h2 y => by obtain ⟨n, x, -, y, -⟩ := y; cases y) (fun v2 h2 y => by obtain ⟨n, x, -, -, y⟩ := y; rw [y]; rfl) (fun v2 hx y => ?_)
  obtain ⟨q1, x1, hq1, evq1, rfl⟩ := y
  cases evq1
  have m2 := m1.bel (x := x1)
  obtain ⟨H2, hH2⟩ : ∃ Hx, Hx = sI H1 67 0 x1 := ⟨_, rfl⟩
  refine a_heap (h' := H2) hH2.symm ?_
  rw [← hH2] at m2
  refine a_istore (pc := 428) (i := 14) (ls' := [(0, .ref 1000), (1, .int (nI 1)), (2, .int (nI i)), (3, .ref 0), (4, .ref 66), (5, .ref 67), (6, .ref (aN k)), (7, .ref (bfN kb)), (8, .int (nI dn)), (9, .int (nI n)), (10, .ref (aN kp)), (11, .int (nI 1)), (13, .int (nI q0)), (14, .int (nI q1))]) dL_law_428 (Nat.le_of_ble_eq_true rfl) rfl ?_
  refine a_aload (pc := 430) (i := 5) dL_law_430 rfl ?_
  refine a_iconst (pc := 432) (v := nI 4) dL_law_432 (by decide) ?_
  refine g_wV (pc := 433) (as := [.int (nI 4)]) (b := 67) (ci := 5) dL_law_433 (lc_RL_98 rfl) ceX5_below k67 (prN_st (Nat.lt_of_lt_of_le (by decide) m2.n68) (by decide)) (x_below (d := d + 104) m2.n68 (by omega)) rfl rfl (Nat.le_of_ble_eq_true rfl) (fun E h2 y => by obtain ⟨n, x, -, y, -⟩ := y; cases y) (fun v2 h2 y => by obtain ⟨n, x, -, -, y⟩ := y; rw [y]; rfl) (fun v2 hx y => ?_)
  obtain ⟨q2, x2, hq2, evq2, rfl⟩ := y
  cases evq2
  have m3 := m2.bel (x := x2)
  obtain ⟨H3, hH3⟩ : ∃ Hx, Hx = sI H2 67 0 x2 := ⟨_, rfl⟩
  refine a_heap (h' := H3) hH3.symm ?_
  rw [← hH3] at m3
  refine a_istore (pc := 436) (i := 15) (ls' := [(0, .ref 1000), (1, .int (nI 1)), (2, .int (nI i)), (3, .ref 0), (4, .ref 66), (5, .ref 67), (6, .ref (aN k)), (7, .ref (bfN kb)), (8, .int (nI dn)), (9, .int (nI n)), (10, .ref (aN kp)), (11, .int (nI 1)), (13, .int (nI q0)), (14, .int (nI q1)), (15, .int (nI q2))]) dL_law_436 (Nat.le_of_ble_eq_true rfl) rfl ?_
  refine a_iload (pc := 438) (i := 14) dL_law_438 rfl ?_
  refine a_aload (pc := 440) (i := 6) dL_law_440 rfl ?_
  refine g_vV1 (pc := 442) (as := []) (b := aN k) (ci := 6) (v := .int (nI (sCells (tC t)))) (h' := H3) dL_law_442 (lc_RL_126 rfl) ceX6_all kd_a m3.2.2.2.1.1.2.1 (x_all (d := d + 104) m3.2.2.2.1) rfl rfl (Nat.le_of_ble_eq_true rfl) rfl ?_
  refine n_icmp_ge (pc := 445) (tgt := 452) dL_law_445 (by decide) (by omega) (by omega) (fun c445 => ?_) (fun c445 => ?_)
  · skip
    refine a_iconst (pc := 452) (v := nI 0) dL_law_452 (by decide) ?_
    refine a_istore (pc := 453) (i := 16) (ls' := [(0, .ref 1000), (1, .int (nI 1)), (2, .int (nI i)), (3, .ref 0), (4, .ref 66), (5, .ref 67), (6, .ref (aN k)), (7, .ref (bfN kb)), (8, .int (nI dn)), (9, .int (nI n)), (10, .ref (aN kp)), (11, .int (nI 1)), (13, .int (nI q0)), (14, .int (nI q1)), (15, .int (nI q2)), (16, .int (nI 0))]) dL_law_453 (Nat.le_of_ble_eq_true rfl) rfl ?_
    refine a_iload (pc := 455) (i := 16) dL_law_455 rfl ?_
    refine n_if_eq (pc := 457) (tgt := 483) dL_law_457 (by decide) (by omega) (fun c457 => ?_) (fun c457 => ?_)
    · skip
      refine a_iconst (pc := 483) (v := nI 0) dL_law_483 (by decide) ?_
      refine a_istore (pc := 484) (i := 11) (ls' := [(0, .ref 1000), (1, .int (nI 1)), (2, .int (nI i)), (3, .ref 0), (4, .ref 66), (5, .ref 67), (6, .ref (aN k)), (7, .ref (bfN kb)), (8, .int (nI dn)), (9, .int (nI n)), (10, .ref (aN kp)), (11, .int (nI 0)), (13, .int (nI q0)), (14, .int (nI q1)), (15, .int (nI q2)), (16, .int (nI 0))]) dL_law_484 (Nat.le_of_ble_eq_true rfl) rfl ?_
      refine a_iload (pc := 486) (i := 11) dL_law_486 rfl ?_
      refine n_if_eq (pc := 488) (tgt := 502) dL_law_488 (by decide) (by omega) (fun c488 => ?_) (fun c488 => ?_)
      · skip
        refine a_aload_n (pc := 502) (i := 3) dL_law_502 rfl rfl ?_
        refine a_iload (pc := 503) (i := 13) dL_law_503 rfl ?_
        refine a_iload (pc := 505) (i := 14) dL_law_505 rfl ?_
        refine a_iload (pc := 507) (i := 15) dL_law_507 rfl ?_
        refine g_pX (pc := 509) (kc := kc) (ks := ks) (as := [.ref 0, .int (nI q0), .int (nI q1), .int (nI q2)]) dL_law_509 (lc_RL_199 rfl) ceL_snip (sL_snip (d := d + 3) m3.1) rfl rfl (Nat.le_of_ble_eq_true rfl) (by omega) (by omega) (fun H5 im5 f5 => ?_)
        have eo := os_off (t := t) (sd := q0) (p := q1) (x := nI q2) (by omega) hq0 ⟨by omega, by omega⟩
        rw [eo] at im5 ⊢
        have m5 := m3.fw im5 f5 m3.2.1 m3.2.2.2.1
        refine a_top (show (.int (wn (.inr eIO)) : Value) = .int ((-2000000097)) from congrArg Value.int wn_E.1) ?_
        refine a_iload (pc := 512) (i := 11) dL_law_512 rfl ?_
        refine n_if_eq (pc := 514) (tgt := 525) dL_law_514 (by decide) (by omega) (fun c514 => ?_) (fun c514 => ?_)
        · skip
          refine a_iload (pc := 525) (i := 16) dL_law_525 rfl ?_
          refine n_if_ne (pc := 527) (tgt := 535) dL_law_527 (by decide) (by omega) (fun c527 => ?_) (fun c527 => ?_)
          · skip
            exact absurd c527 (by decide)
          · skip
            refine a_ldc (pc := 530) (v := (-2000000097)) dL_law_530 (li_RL_52 rfl) ?_
            refine a_goto (pc := 532) (tgt := 547) dL_law_532 (by decide) ?_
            refine a_icmp_ne (pc := 547) (tgt := 554) dL_law_547 (by decide) (fun c547 => ?_) (fun c547 => ?_)
            · skip
              exact absurd rfl c547
            · skip
              refine a_iconst (pc := 550) (v := nI 1) dL_law_550 (by decide) ?_
              refine a_goto (pc := 551) (tgt := 555) dL_law_551 (by decide) ?_
              refine a_istore_n (pc := 555) (i := 1) (ls' := [(0, .ref 1000), (1, .int (nI 1)), (2, .int (nI i)), (3, .ref 0), (4, .ref 66), (5, .ref 67), (6, .ref (aN k)), (7, .ref (bfN kb)), (8, .int (nI dn)), (9, .int (nI n)), (10, .ref (aN kp)), (11, .int (nI 0)), (13, .int (nI q0)), (14, .int (nI q1)), (15, .int (nI q2)), (16, .int (nI 0))]) dL_law_555 rfl (Nat.le_of_ble_eq_true rfl) rfl ?_
              refine a_goto (pc := 556) (tgt := 729) dL_law_556 (by decide) ?_
              refine a_drop (ls' := [(0, .ref 1000), (1, .int (nI 1)), (2, .int (nI i)), (3, .ref 0), (4, .ref 66), (5, .ref 67), (6, .ref (aN k)), (7, .ref (bfN kb)), (8, .int (nI dn)), (9, .int (nI n)), (10, .ref (aN kp)), (11, .int (nI 0))]) (by simp) ?_
              exact hZ _ _ m5 rfl
        · skip
          first | exact absurd c514 (by decide) | exact absurd rfl c514
      · skip
        first | exact absurd c488 (by decide) | exact absurd rfl c488
    · skip
      first | exact absurd c457 (by decide) | exact absurd rfl c457
  · skip
    refine a_iconst (pc := 448) (v := nI 1) dL_law_448 (by decide) ?_
    refine a_goto (pc := 449) (tgt := 453) dL_law_449 (by decide) ?_
    refine a_istore (pc := 453) (i := 16) (ls' := [(0, .ref 1000), (1, .int (nI 1)), (2, .int (nI i)), (3, .ref 0), (4, .ref 66), (5, .ref 67), (6, .ref (aN k)), (7, .ref (bfN kb)), (8, .int (nI dn)), (9, .int (nI n)), (10, .ref (aN kp)), (11, .int (nI 1)), (13, .int (nI q0)), (14, .int (nI q1)), (15, .int (nI q2)), (16, .int (nI 1))]) dL_law_453 (Nat.le_of_ble_eq_true rfl) rfl ?_
    refine a_iload (pc := 455) (i := 16) dL_law_455 rfl ?_
    refine n_if_eq (pc := 457) (tgt := 483) dL_law_457 (by decide) (by omega) (fun c457 => ?_) (fun c457 => ?_)
    · skip
      exact absurd c457 (by decide)
    · skip
      refine a_iload (pc := 460) (i := 15) dL_law_460 rfl ?_
      refine n_if_le (pc := 462) (tgt := 483) dL_law_462 (by decide) (by omega) (fun c462 => ?_) (fun c462 => ?_)
      · skip
        refine a_iconst (pc := 483) (v := nI 0) dL_law_483 (by decide) ?_
        refine a_istore (pc := 484) (i := 11) (ls' := [(0, .ref 1000), (1, .int (nI 1)), (2, .int (nI i)), (3, .ref 0), (4, .ref 66), (5, .ref 67), (6, .ref (aN k)), (7, .ref (bfN kb)), (8, .int (nI dn)), (9, .int (nI n)), (10, .ref (aN kp)), (11, .int (nI 0)), (13, .int (nI q0)), (14, .int (nI q1)), (15, .int (nI q2)), (16, .int (nI 1))]) dL_law_484 (Nat.le_of_ble_eq_true rfl) rfl ?_
        refine a_iload (pc := 486) (i := 11) dL_law_486 rfl ?_
        refine n_if_eq (pc := 488) (tgt := 502) dL_law_488 (by decide) (by omega) (fun c488 => ?_) (fun c488 => ?_)
        · skip
          refine a_aload_n (pc := 502) (i := 3) dL_law_502 rfl rfl ?_
          refine a_iload (pc := 503) (i := 13) dL_law_503 rfl ?_
          refine a_iload (pc := 505) (i := 14) dL_law_505 rfl ?_
          refine a_iload (pc := 507) (i := 15) dL_law_507 rfl ?_
          refine g_pX (pc := 509) (kc := kc) (ks := ks) (as := [.ref 0, .int (nI q0), .int (nI q1), .int (nI q2)]) dL_law_509 (lc_RL_199 rfl) ceL_snip (sL_snip (d := d + 3) m3.1) rfl rfl (Nat.le_of_ble_eq_true rfl) (by omega) (by omega) (fun H5 im5 f5 => ?_)
          have eo := os_arg (t := t) (sd := q0) (p := q1) (m := q2) (by omega) hq0 (by omega) (Or.inl (by omega))
          rw [eo] at im5 ⊢
          have m5 := m3.fw im5 f5 m3.2.1 m3.2.2.2.1
          refine a_top (show (.int (wn (.inr eIA)) : Value) = .int ((-2000000098)) from congrArg Value.int wn_E.2.1) ?_
          refine a_iload (pc := 512) (i := 11) dL_law_512 rfl ?_
          refine n_if_eq (pc := 514) (tgt := 525) dL_law_514 (by decide) (by omega) (fun c514 => ?_) (fun c514 => ?_)
          · skip
            refine a_iload (pc := 525) (i := 16) dL_law_525 rfl ?_
            refine n_if_ne (pc := 527) (tgt := 535) dL_law_527 (by decide) (by omega) (fun c527 => ?_) (fun c527 => ?_)
            · skip
              refine a_iload (pc := 535) (i := 15) dL_law_535 rfl ?_
              refine n_if_ne (pc := 537) (tgt := 545) dL_law_537 (by decide) (by omega) (fun c537 => ?_) (fun c537 => ?_)
              · skip
                exact absurd c537 (by omega)
              · skip
                refine a_ldc (pc := 540) (v := (-2000000098)) dL_law_540 (li_RL_42 rfl) ?_
                refine a_goto (pc := 542) (tgt := 547) dL_law_542 (by decide) ?_
                refine a_icmp_ne (pc := 547) (tgt := 554) dL_law_547 (by decide) (fun c547 => ?_) (fun c547 => ?_)
                · skip
                  exact absurd rfl c547
                · skip
                  refine a_iconst (pc := 550) (v := nI 1) dL_law_550 (by decide) ?_
                  refine a_goto (pc := 551) (tgt := 555) dL_law_551 (by decide) ?_
                  refine a_istore_n (pc := 555) (i := 1) (ls' := [(0, .ref 1000), (1, .int (nI 1)), (2, .int (nI i)), (3, .ref 0), (4, .ref 66), (5, .ref 67), (6, .ref (aN k)), (7, .ref (bfN kb)), (8, .int (nI dn)), (9, .int (nI n)), (10, .ref (aN kp)), (11, .int (nI 0)), (13, .int (nI q0)), (14, .int (nI q1)), (15, .int (nI q2)), (16, .int (nI 1))]) dL_law_555 rfl (Nat.le_of_ble_eq_true rfl) rfl ?_
                  refine a_goto (pc := 556) (tgt := 729) dL_law_556 (by decide) ?_
                  refine a_drop (ls' := [(0, .ref 1000), (1, .int (nI 1)), (2, .int (nI i)), (3, .ref 0), (4, .ref 66), (5, .ref 67), (6, .ref (aN k)), (7, .ref (bfN kb)), (8, .int (nI dn)), (9, .int (nI n)), (10, .ref (aN kp)), (11, .int (nI 0))]) (by simp) ?_
                  exact hZ _ _ m5 rfl
            · skip
              first | exact absurd c527 (by decide) | exact absurd rfl c527
          · skip
            first | exact absurd c514 (by decide) | exact absurd rfl c514
        · skip
          first | exact absurd c488 (by decide) | exact absurd rfl c488
      · skip
        refine a_aload (pc := 465) (i := 6) dL_law_465 rfl ?_
        refine a_iload (pc := 467) (i := 13) dL_law_467 rfl ?_
        refine a_iload (pc := 469) (i := 14) dL_law_469 rfl ?_
        refine a_iload (pc := 471) (i := 15) dL_law_471 rfl ?_
        refine g_vV1 (pc := 473) (as := [.int (nI q0), .int (nI q1), .int (nI q2)]) (b := aN k) (ci := 6) (v := .int (bi (stripP (tC t) q0 q1 q2))) (h' := H3) dL_law_473 (lc_RL_231 rfl) ceX6_isStrip kd_a m3.2.2.2.1.1.2.1 (x_isStrip (d := d + 98) m3.2.2.2.1 hq0 (by omega) (by omega)) rfl rfl (Nat.le_of_ble_eq_true rfl) rfl ?_
        refine b_if_eq (pc := 476) (tgt := 483) dL_law_476 (by decide) (fun c476 => ?_) (fun c476 => ?_)
        · skip
          have hs : ¬ stripP (tC t) q0 q1 q2 := c476
          refine a_iconst (pc := 483) (v := nI 0) dL_law_483 (by decide) ?_
          refine a_istore (pc := 484) (i := 11) (ls' := [(0, .ref 1000), (1, .int (nI 1)), (2, .int (nI i)), (3, .ref 0), (4, .ref 66), (5, .ref 67), (6, .ref (aN k)), (7, .ref (bfN kb)), (8, .int (nI dn)), (9, .int (nI n)), (10, .ref (aN kp)), (11, .int (nI 0)), (13, .int (nI q0)), (14, .int (nI q1)), (15, .int (nI q2)), (16, .int (nI 1))]) dL_law_484 (Nat.le_of_ble_eq_true rfl) rfl ?_
          refine a_iload (pc := 486) (i := 11) dL_law_486 rfl ?_
          refine n_if_eq (pc := 488) (tgt := 502) dL_law_488 (by decide) (by omega) (fun c488 => ?_) (fun c488 => ?_)
          · skip
            refine a_aload_n (pc := 502) (i := 3) dL_law_502 rfl rfl ?_
            refine a_iload (pc := 503) (i := 13) dL_law_503 rfl ?_
            refine a_iload (pc := 505) (i := 14) dL_law_505 rfl ?_
            refine a_iload (pc := 507) (i := 15) dL_law_507 rfl ?_
            refine g_pX (pc := 509) (kc := kc) (ks := ks) (as := [.ref 0, .int (nI q0), .int (nI q1), .int (nI q2)]) dL_law_509 (lc_RL_199 rfl) ceL_snip (sL_snip (d := d + 3) m3.1) rfl rfl (Nat.le_of_ble_eq_true rfl) (by omega) (by omega) (fun H5 im5 f5 => ?_)
            have eo := os_not (t := t) (sd := q0) (p := q1) (m := q2) g0 (by omega) hq0 (by omega) ⟨by omega, by omega⟩ hs
            rw [eo] at im5 ⊢
            have m5 := m3.fw im5 f5 m3.2.1 m3.2.2.2.1
            refine a_top (show (.int (wn (.inr eIS)) : Value) = .int ((-2000000099)) from congrArg Value.int wn_E.2.2.1) ?_
            refine a_iload (pc := 512) (i := 11) dL_law_512 rfl ?_
            refine n_if_eq (pc := 514) (tgt := 525) dL_law_514 (by decide) (by omega) (fun c514 => ?_) (fun c514 => ?_)
            · skip
              refine a_iload (pc := 525) (i := 16) dL_law_525 rfl ?_
              refine n_if_ne (pc := 527) (tgt := 535) dL_law_527 (by decide) (by omega) (fun c527 => ?_) (fun c527 => ?_)
              · skip
                refine a_iload (pc := 535) (i := 15) dL_law_535 rfl ?_
                refine n_if_ne (pc := 537) (tgt := 545) dL_law_537 (by decide) (by omega) (fun c537 => ?_) (fun c537 => ?_)
                · skip
                  refine a_ldc (pc := 545) (v := (-2000000099)) dL_law_545 (li_RL_80 rfl) ?_
                  refine a_icmp_ne (pc := 547) (tgt := 554) dL_law_547 (by decide) (fun c547 => ?_) (fun c547 => ?_)
                  · skip
                    exact absurd rfl c547
                  · skip
                    refine a_iconst (pc := 550) (v := nI 1) dL_law_550 (by decide) ?_
                    refine a_goto (pc := 551) (tgt := 555) dL_law_551 (by decide) ?_
                    refine a_istore_n (pc := 555) (i := 1) (ls' := [(0, .ref 1000), (1, .int (nI 1)), (2, .int (nI i)), (3, .ref 0), (4, .ref 66), (5, .ref 67), (6, .ref (aN k)), (7, .ref (bfN kb)), (8, .int (nI dn)), (9, .int (nI n)), (10, .ref (aN kp)), (11, .int (nI 0)), (13, .int (nI q0)), (14, .int (nI q1)), (15, .int (nI q2)), (16, .int (nI 1))]) dL_law_555 rfl (Nat.le_of_ble_eq_true rfl) rfl ?_
                    refine a_goto (pc := 556) (tgt := 729) dL_law_556 (by decide) ?_
                    refine a_drop (ls' := [(0, .ref 1000), (1, .int (nI 1)), (2, .int (nI i)), (3, .ref 0), (4, .ref 66), (5, .ref 67), (6, .ref (aN k)), (7, .ref (bfN kb)), (8, .int (nI dn)), (9, .int (nI n)), (10, .ref (aN kp)), (11, .int (nI 0))]) (by simp) ?_
                    exact hZ _ _ m5 rfl
                · skip
                  exact absurd c537 (by omega)
              · skip
                first | exact absurd c527 (by decide) | exact absurd rfl c527
            · skip
              first | exact absurd c514 (by decide) | exact absurd rfl c514
          · skip
            first | exact absurd c488 (by decide) | exact absurd rfl c488
        · skip
          have hs : stripP (tC t) q0 q1 q2 := by first | exact c476 | exact Classical.not_not.mp c476
          refine a_iconst (pc := 479) (v := nI 1) dL_law_479 (by decide) ?_
          refine a_goto (pc := 480) (tgt := 484) dL_law_480 (by decide) ?_
          refine a_istore (pc := 484) (i := 11) (ls' := [(0, .ref 1000), (1, .int (nI 1)), (2, .int (nI i)), (3, .ref 0), (4, .ref 66), (5, .ref 67), (6, .ref (aN k)), (7, .ref (bfN kb)), (8, .int (nI dn)), (9, .int (nI n)), (10, .ref (aN kp)), (11, .int (nI 1)), (13, .int (nI q0)), (14, .int (nI q1)), (15, .int (nI q2)), (16, .int (nI 1))]) dL_law_484 (Nat.le_of_ble_eq_true rfl) rfl ?_
          refine a_iload (pc := 486) (i := 11) dL_law_486 rfl ?_
          refine n_if_eq (pc := 488) (tgt := 502) dL_law_488 (by decide) (by omega) (fun c488 => ?_) (fun c488 => ?_)
          · skip
            exact absurd c488 (by decide)
          · skip
            refine a_aload (pc := 491) (i := 6) dL_law_491 rfl ?_
            refine a_iload (pc := 493) (i := 13) dL_law_493 rfl ?_
            refine a_iload (pc := 495) (i := 14) dL_law_495 rfl ?_
            refine a_iload (pc := 497) (i := 15) dL_law_497 rfl ?_
            refine e_VW (pc := 499) (mc := 0) (ms := 0) (kc := kc + 1) (ks := ks + 6) (as := [.int (nI q0), .int (nI q1), .int (nI q2)]) (b := aN k) (ci := 6) dL_law_499 (lc_RL_235 rfl) ceX6_cutsOff kd_a m3.2.2.2.1.1.2.1 (x_cutsOff (d := d + 103) m3.2.2.2.1 hq0 (by omega) hs.1) rfl rfl (Nat.le_of_ble_eq_true rfl) Qu_nt (by omega) (by omega) (Or.inl (fun v h2 y => y.2.2.2)) (fun v2 H4 y => ?_)
            obtain ⟨ev, l4, d4, e4⟩ := y
            cases ev
            have im4 := m3.im d4 (fun a z => SK_SG c12 z)
            refine a_aload_n (pc := 502) (i := 3) dL_law_502 rfl rfl ?_
            refine a_iload (pc := 503) (i := 13) dL_law_503 rfl ?_
            refine a_iload (pc := 505) (i := 14) dL_law_505 rfl ?_
            refine a_iload (pc := 507) (i := 15) dL_law_507 rfl ?_
            refine g_pX (pc := 509) (kc := kc) (ks := ks) (as := [.ref 0, .int (nI q0), .int (nI q1), .int (nI q2)]) dL_law_509 (lc_RL_199 rfl) ceL_snip (sL_snip (d := d + 3) im4) rfl rfl (Nat.le_of_ble_eq_true rfl) (by omega) (by omega) (fun H5 im5 f5 => ?_)
            have eo := os_yes (t := t) (sd := q0) (p := q1) (m := q2) g0 (by omega) hq0 (by omega) ⟨by omega, by omega⟩ hs
            rw [eo] at im5 ⊢
            have m5 := m3.ch d4 (fun a z => SK_SG c12 z) im5 f5 ((tRem_b t).1.trans m3.2.1) l4
            refine a_iload (pc := 512) (i := 11) dL_law_512 rfl ?_
            refine n_if_eq (pc := 514) (tgt := 525) dL_law_514 (by decide) (by omega) (fun c514 => ?_) (fun c514 => ?_)
            · skip
              exact absurd c514 (by decide)
            · skip
              refine a_aload (pc := 517) (i := 6) dL_law_517 rfl ?_
              refine g_vV1 (pc := 519) (as := []) (b := aN k) (ci := 6) (v := .int (nI (nThere (tkS (tC t) (pcl (tC t) (pq (tC t) q0 q1) q2) 1 q2)))) (h' := H5) dL_law_519 (lc_RL_239 rfl) ceX6_there kd_a m5.2.2.2.1.1.2.1 (x_there (d := d + 104) m5.2.2.2.1) rfl rfl (Nat.le_of_ble_eq_true rfl) rfl ?_
              refine a_goto (pc := 522) (tgt := 547) dL_law_522 (by decide) ?_
              refine a_icmp_ne (pc := 547) (tgt := 554) dL_law_547 (by decide) (fun c547 => ?_) (fun c547 => ?_)
              · skip
                exact absurd rfl c547
              · skip
                refine a_iconst (pc := 550) (v := nI 1) dL_law_550 (by decide) ?_
                refine a_goto (pc := 551) (tgt := 555) dL_law_551 (by decide) ?_
                refine a_istore_n (pc := 555) (i := 1) (ls' := [(0, .ref 1000), (1, .int (nI 1)), (2, .int (nI i)), (3, .ref 0), (4, .ref 66), (5, .ref 67), (6, .ref (aN k)), (7, .ref (bfN kb)), (8, .int (nI dn)), (9, .int (nI n)), (10, .ref (aN kp)), (11, .int (nI 1)), (13, .int (nI q0)), (14, .int (nI q1)), (15, .int (nI q2)), (16, .int (nI 1))]) dL_law_555 rfl (Nat.le_of_ble_eq_true rfl) rfl ?_
                refine a_goto (pc := 556) (tgt := 729) dL_law_556 (by decide) ?_
                refine a_drop (ls' := [(0, .ref 1000), (1, .int (nI 1)), (2, .int (nI i)), (3, .ref 0), (4, .ref 66), (5, .ref 67), (6, .ref (aN k)), (7, .ref (bfN kb)), (8, .int (nI dn)), (9, .int (nI n)), (10, .ref (aN kp)), (11, .int (nI 1))]) (by simp) ?_
                exact hY _ _ m5 rfl
