/-! missing -/
theorem off13 {a : Nat} (h1 : 2 ≤ a) (h2 : a ≤ 2 + 3) : a ∉ [13, 14, 15] := by simp; omega
noncomputable def dMs (s : SH) : Nat → Nat → Prop := fun k => cwP s (msA s k)
theorem nMiss_eq (s : SH) : nMiss s = sLen s - (mset (dMs s) (sLen s)).1 := rfl
set_option maxHeartbeats 4000000 in
set_option maxRecDepth 100000 in
theorem sp_missing {d : Nat} {h : AH} {s : SH} (c : CB h) (g : GS s) (r : CR h 2 s) : AC mX4_missing (d + 60) 0 0 [.ref 0] h (Qf [13, 14, 15] (some (.int (nI (nMiss s)))) h (fun h2 => True)) := by
  have hn := c.1
  have gw := g.1
  have gh := g.2.1
  have gs := g.2.2.1
  have gl := g.2.2.2.2.2.1
  refine AC.of (by decide) rfl (Nat.le_of_ble_eq_true rfl) (fun X => ?_)
  show AW X mX4_missing (d + 60) 0 0 0 [(0, .ref 0)] [] h (Qf [13, 14, 15] (some (.int (nI (nMiss s)))) h (fun h2 => True))
  have LP : ∀ (fu : Nat) (i : Nat) (H : AH), i ≤ sLen s → Fr [13, 14, 15] h H → ML H 13 (mset (dMs s) i).1 (mset (dMs s) i).2 → sLen s - i < fu → AW X mX4_missing (d + 60) 0 0 11 [(0, .ref 0), (1, .int (nI (i - (mset (dMs s) i).1))), (2, .int (nI i))] [] H (Qf [13, 14, 15] (some (.int (nI (nMiss s)))) h (fun h2 => True)) := by
    intro fu
    induction fu with
    | zero => intro i H hi hf hm hz; exact absurd hz (Nat.not_lt_zero _)
    | succ fu ih =>
      intro i H hi hf hm hz
      have hc := c.fr hf
      have hr := r.fr hf (fun a => off13)
      have hn2 := hc.1
      have hle := mset_le (dMs s) i
      refine a_iload_n (pc := 11) (i := 2) dX4_missing_11 rfl rfl ?_
      refine a_aload_n (pc := 12) (i := 0) dX4_missing_12 rfl rfl ?_
      refine a_getR (pc := 13) (ci := 4) (k := 3) (b := 2) dX4_missing_13 (lf_RX4_23 rfl) (by decide) rfl rfl (lt90 hn2 (shK_lt (show shK 0 = _ from rfl))) hc.2.1.2.1 ?_
      refine a_getI (pc := 16) (ci := 3) (k := 7) dX4_missing_16 (lf_RX4_99 rfl) (by decide) rfl rfl (lt90 hn2 (shK_lt (show shK 2 = _ from rfl))) ?_
      refine a_top (show (.int (hI H 2 7) : Value) = .int (nI (sLen s)) from congrArg Value.int hr.1.2.2.2.2.1) ?_
      refine n_icmp_ge (pc := 19) (tgt := 56) dX4_missing_19 (by decide) (by omega) (by omega) (fun c19 => ?_) (fun c19 => ?_)
      · have e : i = sLen s := by omega
        subst e
        refine a_iload_n (pc := 56) (i := 1) dX4_missing_56 rfl rfl ?_
        exact a_ireturn (pc := 57) dX4_missing_57 rfl rfl (⟨rfl, hf, trivial⟩)
      · skip
        refine a_aload_n (pc := 22) (i := 0) dX4_missing_22 rfl rfl ?_
        refine a_getR (pc := 23) (ci := 4) (k := 7) (b := 13) dX4_missing_23 (lf_RX4_44 rfl) (by decide) rfl rfl (lt90 hn2 (shK_lt (show shK 0 = _ from rfl))) hc.2.1.2.2.2.2.1 ?_
        refine a_aload_n (pc := 26) (i := 0) dX4_missing_26 rfl rfl ?_
        refine a_getR (pc := 27) (ci := 4) (k := 3) (b := 2) dX4_missing_27 (lf_RX4_23 rfl) (by decide) rfl rfl (lt90 hn2 (shK_lt (show shK 0 = _ from rfl))) hc.2.1.2.1 ?_
        refine a_aload_n (pc := 30) (i := 0) dX4_missing_30 rfl rfl ?_
        refine a_getR (pc := 31) (ci := 4) (k := 3) (b := 2) dX4_missing_31 (lf_RX4_23 rfl) (by decide) rfl rfl (lt90 hn2 (shK_lt (show shK 0 = _ from rfl))) hc.2.1.2.1 ?_
        refine a_iload_n (pc := 34) (i := 2) dX4_missing_34 rfl rfl ?_
        refine a_vVN1 (pc := 35) (as := [.int (nI i)]) (b := 2) (ci := 3) (v := .int (msA s i)) (h' := H) dX4_missing_35 (lc_RX4_167 rfl) ceX3_messageAt rfl (lt90 hn2 (shK_lt (show shK 2 = _ from rfl))) (sp_messageAt hc g hr (by omega)) rfl rfl (Nat.le_of_ble_eq_true rfl) rfl ?_
        refine a_vVN1 (pc := 38) (as := [.int (msA s i)]) (b := 2) (ci := 3) (v := .long (mkL (dMs s i))) (h' := H) dX4_missing_38 (lc_RX4_151 rfl) ceX3_cellsWith rfl (lt90 hn2 (shK_lt (show shK 2 = _ from rfl))) (sp_cellsWith hc g hr) rfl rfl (Nat.le_of_ble_eq_true rfl) rfl ?_
        refine a_wVN1 (pc := 41) (as := [.long (mkL (dMs s i))]) (b := 13) (ci := 0) (v := .int (bi (SD ((mset (dMs s) i).1 + 1) (cset (mset (dMs s) i).2 (mset (dMs s) i).1 (dMs s i))))) dX4_missing_41 (lc_RX4_173 rfl) ceX0_give rfl (lt90 hn2 (shK_lt (show shK 13 = _ from rfl))) (sp_give (d := d + 10) hc (Or.inl rfl) (by omega) hm) rfl rfl (Nat.le_of_ble_eq_true rfl) (fun H2 f2 r2 => ?_)
        have f3 := hf.trans f2
        refine b_if_ne (pc := 44) (tgt := 50) dX4_missing_44 (by decide) (fun c44 => ?_) (fun c44 => ?_)
        · have e : mset (dMs s) (i + 1) = ((mset (dMs s) i).1 + 1, cset (mset (dMs s) i).2 (mset (dMs s) i).1 (dMs s i)) := cif_t c44
          refine n_iinc (pc := 50) (k := 1) (ls' := [(0, .ref 0), (1, .int (nI (i - (mset (dMs s) i).1))), (2, .int (nI (i + 1)))]) dX4_missing_50 rfl (by decide) (by decide) rfl ?_
          refine a_goto (pc := 53) (tgt := 11) dX4_missing_53 (by decide) ?_
          refine a_locs (ls' := [(0, .ref 0), (1, .int (nI (i + 1 - (mset (dMs s) (i + 1)).1))), (2, .int (nI (i + 1)))]) (by rw [show i + 1 - (mset (dMs s) (i + 1)).1 = i - (mset (dMs s) i).1 by rw [e]; show i + 1 - ((mset (dMs s) i).1 + 1) = _; omega]) ?_
          exact ih (i + 1) H2 (by omega) f3 (by rw [e]; exact r2.1 c44) (by omega)
        · have e : mset (dMs s) (i + 1) = mset (dMs s) i := cif_f c44
          refine n_iinc (pc := 47) (k := 1) (ls' := [(0, .ref 0), (1, .int (nI ((i - (mset (dMs s) i).1) + 1))), (2, .int (nI i))]) dX4_missing_47 rfl (by decide) (by decide) rfl ?_
          refine n_iinc (pc := 50) (k := 1) (ls' := [(0, .ref 0), (1, .int (nI ((i - (mset (dMs s) i).1) + 1))), (2, .int (nI (i + 1)))]) dX4_missing_50 rfl (by decide) (by decide) rfl ?_
          refine a_goto (pc := 53) (tgt := 11) dX4_missing_53 (by decide) ?_
          refine a_locs (ls' := [(0, .ref 0), (1, .int (nI (i + 1 - (mset (dMs s) (i + 1)).1))), (2, .int (nI (i + 1)))]) (by rw [show i + 1 - (mset (dMs s) (i + 1)).1 = i - (mset (dMs s) i).1 + 1 by rw [e]; omega]) ?_
          exact ih (i + 1) H2 (by omega) f3 (by rw [e]; exact r2.2 c44) (by omega)
  refine a_iconst (pc := 0) (v := nI 0) dX4_missing_0 (by decide) ?_
  refine a_istore_n (pc := 1) (i := 1) (ls' := [(0, .ref 0), (1, .int (nI 0))]) dX4_missing_1 rfl (by decide) rfl ?_
  refine a_aload_n (pc := 2) (i := 0) dX4_missing_2 rfl rfl ?_
  refine a_getR (pc := 3) (ci := 4) (k := 7) (b := 13) dX4_missing_3 (lf_RX4_44 rfl) (by decide) rfl rfl (lt90 hn (shK_lt (show shK 0 = _ from rfl))) c.2.1.2.2.2.2.1 ?_
  refine a_wVN0 (pc := 6) (as := []) (b := 13) (ci := 0) dX4_missing_6 (lc_RX4_170 rfl) ceX0_clear rfl (lt90 hn (shK_lt (show shK 13 = _ from rfl))) (sp_clear c (Or.inl rfl)) rfl rfl (Nat.le_of_ble_eq_true rfl) (fun H1 f1 r1 => ?_)
  refine a_iconst (pc := 9) (v := nI 0) dX4_missing_9 (by decide) ?_
  refine a_istore_n (pc := 10) (i := 2) (ls' := [(0, .ref 0), (1, .int (nI 0)), (2, .int (nI 0))]) dX4_missing_10 rfl (by decide) rfl ?_
  refine a_locs (ls' := [(0, .ref 0), (1, .int (nI (0 - (mset (dMs s) 0).1))), (2, .int (nI 0))]) rfl ?_
  exact LP (sLen s + 1) 0 H1 (by omega) (f1.mono (by simp)) (r1 _) (by omega)
