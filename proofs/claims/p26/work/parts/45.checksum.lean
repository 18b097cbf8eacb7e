/-! checksum -/
noncomputable def stL (s : SH) : List Int32 := [nI (sW s), nI (sH s), nI (sS s), nI (nThere s), nI (sLen s), nI (sCu s), nI (sTk s), nI (cnt (qcu s) 96)]
noncomputable def stV (s : SH) (k : Nat) : Int32 := (stL s).getD k 0
noncomputable def ck1 (s : SH) : Nat → Int64
  | 0 => 0
  | k + 1 => 31 * ck1 s k + (stV s k).toInt64
noncomputable def ck2 (s : SH) : Nat → Int64
  | 0 => ck1 s 8
  | q + 1 => cif (qhas s q) (31 * (31 * ck2 s q + (flet s q).toInt64) + (nI (qsz s q)).toInt64) (ck2 s q)
noncomputable def ck3 (s : SH) : Nat → Int64
  | 0 => ck2 s 96
  | k + 1 => 31 * ck3 s k + (nI (sMs s k)).toInt64
noncomputable def ckS (s : SH) : Int64 := 31 * (31 * (31 * ck3 s (sLen s) + (nI (nMiss s)).toInt64) + (bestR s).toInt64) + (nI (nClash s)).toInt64
theorem IM.scr {h h2 : AH} {t : ST} (m : IM h t) (f : Fr [13, 14, 15] h h2) : IM h2 t := by
  have z0 := (f.2.2 0 (by simp)).1
  refine ⟨m.1.row f.1 f.2.1 (fun j _ => congrFun z0 j) (fun a ha => f.2.2 a (by simp; omega)), ?_⟩
  rcases m.2 with hk | ⟨k1, k2, k3⟩
  · exact Or.inl ((congrFun z0 9).trans hk)
  · exact Or.inr ⟨(congrFun z0 9).trans k1, k2, k3.row (fun a h1 h3 => f.2.2 a (by simp; omega))⟩
set_option maxHeartbeats 1500000 in
set_option maxRecDepth 100000 in
theorem sp_state8 {d : Nat} {h : AH} {s : SH} (c : CB h) (g : GS s) (r : CR h 2 s) {k : Nat} (hk : k < 8) : AC mX4_state (d + 10) 0 0 [.ref 0, .int (nI k)] h (Qe (some (.int (stV s k))) h) := by
  have hn := c.1
  have gw := g.1
  have gh := g.2.1
  have gs := g.2.2.1
  have gl := g.2.2.2.2.2.1
  refine AC.of (by decide) rfl (Nat.le_of_ble_eq_true rfl) (fun X => ?_)
  show AW X mX4_state (d + 10) 0 0 0 [(0, .ref 0), (1, .int (nI k))] [] h (Qe (some (.int (stV s k))) h)
  refine a_iload_n (pc := 0) (i := 1) dX4_state_0 rfl rfl ?_
  rcases tb_7 (nI k) with e0 | e1 | e2 | e3 | e4 | e5 | e6 | e7 | e
  · refine a_tableIn (pc := 1) (tgt := 48) dX4_state_1 (by rw [e0]; decide) (by rw [e0]; decide) (by rw [e0]; rfl) (by decide) ?_
    refine a_aload_n (pc := 48) (i := 0) dX4_state_48 rfl rfl ?_
    refine a_getR (pc := 49) (ci := 4) (k := 3) (b := 2) dX4_state_49 (lf_RX4_23 rfl) (by decide) rfl rfl (lt90 hn (shK_lt (show shK 0 = _ from rfl))) c.2.1.2.1 ?_
    refine a_getI (pc := 52) (ci := 3) (k := 0) dX4_state_52 (lf_RX4_87 rfl) (by decide) rfl rfl (lt90 hn (shK_lt (show shK 2 = _ from rfl))) ?_
    refine a_top (show (.int (hI h 2 0) : Value) = .int (nI (sW s)) from congrArg Value.int r.1.1) ?_
    exact a_ireturn (pc := 55) dX4_state_55 rfl rfl (⟨by rw [show k = 0 from (nI_eq (by omega) (by omega)).mp e0]; rfl, rfl⟩)
  · refine a_tableIn (pc := 1) (tgt := 56) dX4_state_1 (by rw [e1]; decide) (by rw [e1]; decide) (by rw [e1]; rfl) (by decide) ?_
    refine a_aload_n (pc := 56) (i := 0) dX4_state_56 rfl rfl ?_
    refine a_getR (pc := 57) (ci := 4) (k := 3) (b := 2) dX4_state_57 (lf_RX4_23 rfl) (by decide) rfl rfl (lt90 hn (shK_lt (show shK 0 = _ from rfl))) c.2.1.2.1 ?_
    refine a_getI (pc := 60) (ci := 3) (k := 1) dX4_state_60 (lf_RX4_90 rfl) (by decide) rfl rfl (lt90 hn (shK_lt (show shK 2 = _ from rfl))) ?_
    refine a_top (show (.int (hI h 2 1) : Value) = .int (nI (sH s)) from congrArg Value.int r.1.2.1) ?_
    exact a_ireturn (pc := 63) dX4_state_63 rfl rfl (⟨by rw [show k = 1 from (nI_eq (by omega) (by omega)).mp e1]; rfl, rfl⟩)
  · refine a_tableIn (pc := 1) (tgt := 64) dX4_state_1 (by rw [e2]; decide) (by rw [e2]; decide) (by rw [e2]; rfl) (by decide) ?_
    refine a_aload_n (pc := 64) (i := 0) dX4_state_64 rfl rfl ?_
    refine a_getR (pc := 65) (ci := 4) (k := 3) (b := 2) dX4_state_65 (lf_RX4_23 rfl) (by decide) rfl rfl (lt90 hn (shK_lt (show shK 0 = _ from rfl))) c.2.1.2.1 ?_
    refine a_getI (pc := 68) (ci := 3) (k := 2) dX4_state_68 (lf_RX4_93 rfl) (by decide) rfl rfl (lt90 hn (shK_lt (show shK 2 = _ from rfl))) ?_
    refine a_top (show (.int (hI h 2 2) : Value) = .int (nI (sS s)) from congrArg Value.int r.1.2.2.1) ?_
    exact a_ireturn (pc := 71) dX4_state_71 rfl rfl (⟨by rw [show k = 2 from (nI_eq (by omega) (by omega)).mp e2]; rfl, rfl⟩)
  · refine a_tableIn (pc := 1) (tgt := 72) dX4_state_1 (by rw [e3]; decide) (by rw [e3]; decide) (by rw [e3]; rfl) (by decide) ?_
    refine a_aload_n (pc := 72) (i := 0) dX4_state_72 rfl rfl ?_
    refine a_getR (pc := 73) (ci := 4) (k := 3) (b := 2) dX4_state_73 (lf_RX4_23 rfl) (by decide) rfl rfl (lt90 hn (shK_lt (show shK 0 = _ from rfl))) c.2.1.2.1 ?_
    refine a_vVN1 (pc := 76) (as := []) (b := 2) (ci := 3) (v := .int (nI (nThere s))) (h' := h) dX4_state_76 (lc_RX4_96 rfl) ceX3_countThere rfl (lt90 hn (shK_lt (show shK 2 = _ from rfl))) (sp_countThere c g r) rfl rfl (Nat.le_of_ble_eq_true rfl) rfl ?_
    exact a_ireturn (pc := 79) dX4_state_79 rfl rfl (⟨by rw [show k = 3 from (nI_eq (by omega) (by omega)).mp e3]; rfl, rfl⟩)
  · refine a_tableIn (pc := 1) (tgt := 80) dX4_state_1 (by rw [e4]; decide) (by rw [e4]; decide) (by rw [e4]; rfl) (by decide) ?_
    refine a_aload_n (pc := 80) (i := 0) dX4_state_80 rfl rfl ?_
    refine a_getR (pc := 81) (ci := 4) (k := 3) (b := 2) dX4_state_81 (lf_RX4_23 rfl) (by decide) rfl rfl (lt90 hn (shK_lt (show shK 0 = _ from rfl))) c.2.1.2.1 ?_
    refine a_getI (pc := 84) (ci := 3) (k := 7) dX4_state_84 (lf_RX4_99 rfl) (by decide) rfl rfl (lt90 hn (shK_lt (show shK 2 = _ from rfl))) ?_
    refine a_top (show (.int (hI h 2 7) : Value) = .int (nI (sLen s)) from congrArg Value.int r.1.2.2.2.2.1) ?_
    exact a_ireturn (pc := 87) dX4_state_87 rfl rfl (⟨by rw [show k = 4 from (nI_eq (by omega) (by omega)).mp e4]; rfl, rfl⟩)
  · refine a_tableIn (pc := 1) (tgt := 88) dX4_state_1 (by rw [e5]; decide) (by rw [e5]; decide) (by rw [e5]; rfl) (by decide) ?_
    refine a_aload_n (pc := 88) (i := 0) dX4_state_88 rfl rfl ?_
    refine a_getR (pc := 89) (ci := 4) (k := 3) (b := 2) dX4_state_89 (lf_RX4_23 rfl) (by decide) rfl rfl (lt90 hn (shK_lt (show shK 0 = _ from rfl))) c.2.1.2.1 ?_
    refine a_getI (pc := 92) (ci := 3) (k := 8) dX4_state_92 (lf_RX4_102 rfl) (by decide) rfl rfl (lt90 hn (shK_lt (show shK 2 = _ from rfl))) ?_
    refine a_top (show (.int (hI h 2 8) : Value) = .int (nI (sCu s)) from congrArg Value.int r.1.2.2.2.2.2.1) ?_
    exact a_ireturn (pc := 95) dX4_state_95 rfl rfl (⟨by rw [show k = 5 from (nI_eq (by omega) (by omega)).mp e5]; rfl, rfl⟩)
  · refine a_tableIn (pc := 1) (tgt := 96) dX4_state_1 (by rw [e6]; decide) (by rw [e6]; decide) (by rw [e6]; rfl) (by decide) ?_
    refine a_aload_n (pc := 96) (i := 0) dX4_state_96 rfl rfl ?_
    refine a_getR (pc := 97) (ci := 4) (k := 3) (b := 2) dX4_state_97 (lf_RX4_23 rfl) (by decide) rfl rfl (lt90 hn (shK_lt (show shK 0 = _ from rfl))) c.2.1.2.1 ?_
    refine a_getI (pc := 100) (ci := 3) (k := 9) dX4_state_100 (lf_RX4_105 rfl) (by decide) rfl rfl (lt90 hn (shK_lt (show shK 2 = _ from rfl))) ?_
    refine a_top (show (.int (hI h 2 9) : Value) = .int (nI (sTk s)) from congrArg Value.int r.1.2.2.2.2.2.2) ?_
    exact a_ireturn (pc := 103) dX4_state_103 rfl rfl (⟨by rw [show k = 6 from (nI_eq (by omega) (by omega)).mp e6]; rfl, rfl⟩)
  · refine a_tableIn (pc := 1) (tgt := 104) dX4_state_1 (by rw [e7]; decide) (by rw [e7]; decide) (by rw [e7]; rfl) (by decide) ?_
    refine a_aload_n (pc := 104) (i := 0) dX4_state_104 rfl rfl ?_
    refine a_getR (pc := 105) (ci := 4) (k := 3) (b := 2) dX4_state_105 (lf_RX4_23 rfl) (by decide) rfl rfl (lt90 hn (shK_lt (show shK 0 = _ from rfl))) c.2.1.2.1 ?_
    refine a_vVN1 (pc := 108) (as := []) (b := 2) (ci := 3) (v := .int (nI (cnt (qcu s) 96))) (h' := h) dX4_state_108 (lc_RX4_108 rfl) ceX3_countUsable rfl (lt90 hn (shK_lt (show shK 2 = _ from rfl))) (sp_countUsable c g r) rfl rfl (Nat.le_of_ble_eq_true rfl) rfl ?_
    exact a_ireturn (pc := 111) dX4_state_111 rfl rfl (⟨by rw [show k = 7 from (nI_eq (by omega) (by omega)).mp e7]; rfl, rfl⟩)
  · refine a_tableOut (pc := 1) (tgt := 112) dX4_state_1 e (by decide) ?_
    exact absurd e (by rw [nI_toInt (by omega)]; omega)
set_option maxHeartbeats 1500000 in
set_option maxRecDepth 100000 in
theorem sp_checksum {d : Nat} {h : AH} {t : ST} (m : IM h t) : AC mX4_checksum (d + 100) 0 0 [.ref 0] h (Qw (.inl (some (.long (ckS (tC t))))) t h) := by
  have m0 := m.1
  have c := m0.1
  have g := m0.2.1.1
  have r := m0.2.2.1
  have hn := c.1
  have gl := g.2.2.2.2.2.1
  have gs := g.2.2.1
  have gw := g.1
  have gh := g.2.1
  refine AC.of (by decide) rfl (Nat.le_of_ble_eq_true rfl) (fun X => ?_)
  show AW X mX4_checksum (d + 100) 0 0 0 [(0, .ref 0)] [] h (Qw (.inl (some (.long (ckS (tC t))))) t h)
  have L3 : ∀ (fu : Nat) (k : Nat), k ≤ sLen (tC t) → sLen (tC t) - k < fu → AW X mX4_checksum (d + 100) 0 0 85 [(0, .ref 0), (1, .long (ck3 (tC t) k)), (3, .int (nI k))] [] h (Qw (.inl (some (.long (ckS (tC t))))) t h) := by
    intro fu
    induction fu with
    | zero => intro k _ hz; exact absurd hz (Nat.not_lt_zero _)
    | succ fu ih =>
      intro k hk hz
      refine a_iload_n (pc := 85) (i := 3) dX4_checksum_85 rfl rfl ?_
      refine a_aload_n (pc := 86) (i := 0) dX4_checksum_86 rfl rfl ?_
      refine a_getR (pc := 87) (ci := 4) (k := 3) (b := 2) dX4_checksum_87 (lf_RX4_23 rfl) (by decide) rfl rfl (lt90 hn (shK_lt (show shK 0 = _ from rfl))) c.2.1.2.1 ?_
      refine a_getI (pc := 90) (ci := 3) (k := 7) dX4_checksum_90 (lf_RX4_99 rfl) (by decide) rfl rfl (lt90 hn (shK_lt (show shK 2 = _ from rfl))) ?_
      refine a_top (show (.int (hI h 2 7) : Value) = .int (nI (sLen (tC t))) from congrArg Value.int r.1.2.2.2.2.1) ?_
      refine n_icmp_ge (pc := 93) (tgt := 118) dX4_checksum_93 (by decide) (by omega) (by omega) (fun c93 => ?_) (fun c93 => ?_)
      · have ek : k = sLen (tC t) := by omega
        subst ek
        refine a_ldc2 (pc := 118) (v := 31) dX4_checksum_118 (lj_RX4_248 rfl) ?_
        refine a_lload_n (pc := 121) (i := 1) dX4_checksum_121 rfl rfl ?_
        refine a_lmul (pc := 122) dX4_checksum_122 ?_
        refine a_aload_n (pc := 123) (i := 0) dX4_checksum_123 rfl rfl ?_
        refine a_wV1 (pc := 124) (as := []) (b := 0) (ci := 4) (v := .int (nI (nMiss (tC t)))) dX4_checksum_124 (lc_RX4_223 rfl) ceX4_missing rfl (lt90 hn (shK_lt (show shK 0 = _ from rfl))) (sp_missing (d := d + 39) c g r) rfl rfl (Nat.le_of_ble_eq_true rfl) (fun H1 f1 _ => ?_)
        have m1 := m.scr f1
        have hn1 := m1.1.1.1
        refine a_i2l (pc := 127) dX4_checksum_127 ?_
        refine a_ladd (pc := 128) dX4_checksum_128 ?_
        refine a_lstore_n (pc := 129) (i := 1) (ls' := [(0, .ref 0), (1, .long ((31 * (ck3 (tC t) (sLen (tC t)))) + ((nI (nMiss (tC t))).toInt64))), (3, .int (nI (sLen (tC t))))]) dX4_checksum_129 rfl (by decide) rfl ?_
        refine a_ldc2 (pc := 130) (v := 31) dX4_checksum_130 (lj_RX4_248 rfl) ?_
        refine a_lload_n (pc := 133) (i := 1) dX4_checksum_133 rfl rfl ?_
        refine a_lmul (pc := 134) dX4_checksum_134 ?_
        refine a_aload_n (pc := 135) (i := 0) dX4_checksum_135 rfl rfl ?_
        refine a_wV1 (pc := 136) (as := []) (b := 0) (ci := 4) (v := .int (bestR (tC t))) dX4_checksum_136 (lc_RX4_177 rfl) ceX4_bestCuts rfl (lt90 hn1 (shK_lt (show shK 0 = _ from rfl))) (sp_bestCuts (d := d + 9) m1) rfl rfl (Nat.le_of_ble_eq_true rfl) (fun H2 f2 r2 => ?_)
        obtain ⟨m2, -⟩ := r2
        have c2 := m2.1.1
        have hn2 := c2.1
        refine a_i2l (pc := 139) dX4_checksum_139 ?_
        refine a_ladd (pc := 140) dX4_checksum_140 ?_
        refine a_lstore_n (pc := 141) (i := 1) (ls' := [(0, .ref 0), (1, .long ((31 * ((31 * (ck3 (tC t) (sLen (tC t)))) + ((nI (nMiss (tC t))).toInt64))) + ((bestR (tC t)).toInt64))), (3, .int (nI (sLen (tC t))))]) dX4_checksum_141 rfl (by decide) rfl ?_
        refine a_ldc2 (pc := 142) (v := 31) dX4_checksum_142 (lj_RX4_248 rfl) ?_
        refine a_lload_n (pc := 145) (i := 1) dX4_checksum_145 rfl rfl ?_
        refine a_lmul (pc := 146) dX4_checksum_146 ?_
        refine a_aload_n (pc := 147) (i := 0) dX4_checksum_147 rfl rfl ?_
        refine a_vV1 (pc := 148) (as := []) (b := 0) (ci := 4) (v := .int (nI (nClash (tC t)))) (h' := H2) dX4_checksum_148 (lc_RX4_256 rfl) ceX4_clashes rfl (lt90 hn2 (shK_lt (show shK 0 = _ from rfl))) (sp_clashes c2 m2.1.2.1.1 m2.1.2.2.1) rfl rfl (Nat.le_of_ble_eq_true rfl) rfl ?_
        refine a_i2l (pc := 151) dX4_checksum_151 ?_
        refine a_ladd (pc := 152) dX4_checksum_152 ?_
        exact a_lreturn (pc := 153) dX4_checksum_153 rfl (⟨rfl, m2, (f1.w (by simp)).trans (f2.w (by intro a ha; simp at ha; omega))⟩)
      · skip
        refine a_ldc2 (pc := 96) (v := 31) dX4_checksum_96 (lj_RX4_248 rfl) ?_
        refine a_lload_n (pc := 99) (i := 1) dX4_checksum_99 rfl rfl ?_
        refine a_lmul (pc := 100) dX4_checksum_100 ?_
        refine a_aload_n (pc := 101) (i := 0) dX4_checksum_101 rfl rfl ?_
        refine a_getR (pc := 102) (ci := 4) (k := 3) (b := 2) dX4_checksum_102 (lf_RX4_23 rfl) (by decide) rfl rfl (lt90 hn (shK_lt (show shK 0 = _ from rfl))) c.2.1.2.1 ?_
        refine a_iload_n (pc := 105) (i := 3) dX4_checksum_105 rfl rfl ?_
        refine a_vVN1 (pc := 106) (as := [.int (nI k)]) (b := 2) (ci := 3) (v := .int (msA (tC t) k)) (h' := h) dX4_checksum_106 (lc_RX4_167 rfl) ceX3_messageAt rfl (lt90 hn (shK_lt (show shK 2 = _ from rfl))) (sp_messageAt c g r (by omega)) rfl rfl (Nat.le_of_ble_eq_true rfl) rfl ?_
        refine a_top (show (.int (msA (tC t) k) : Value) = .int (nI (sMs (tC t) k)) from congrArg Value.int (cif_t c93)) ?_
        refine a_i2l (pc := 109) dX4_checksum_109 ?_
        refine a_ladd (pc := 110) dX4_checksum_110 ?_
        refine a_lstore_n (pc := 111) (i := 1) (ls' := [(0, .ref 0), (1, .long ((31 * (ck3 (tC t) k)) + ((nI (sMs (tC t) k)).toInt64))), (3, .int (nI k))]) dX4_checksum_111 rfl (by decide) rfl ?_
        refine n_iinc (pc := 112) (k := 1) (ls' := [(0, .ref 0), (1, .long ((31 * (ck3 (tC t) k)) + ((nI (sMs (tC t) k)).toInt64))), (3, .int (nI (k + 1)))]) dX4_checksum_112 rfl (by decide) (by decide) rfl ?_
        refine a_goto (pc := 115) (tgt := 85) dX4_checksum_115 (by decide) ?_
        refine a_locs (ls' := [(0, .ref 0), (1, .long (ck3 (tC t) (k + 1))), (3, .int (nI (k + 1)))]) rfl ?_
        exact ih (k + 1) (by omega) (by omega)
  have L2 : ∀ (fu : Nat) (q : Nat), q ≤ 96 → 96 - q < fu → AW X mX4_checksum (d + 100) 0 0 31 [(0, .ref 0), (1, .long (ck2 (tC t) q)), (3, .int (nI q))] [] h (Qw (.inl (some (.long (ckS (tC t))))) t h) := by
    intro fu
    induction fu with
    | zero => intro q hq hz; exact absurd hz (Nat.not_lt_zero _)
    | succ fu ih =>
      intro q hq hz
      refine a_iload_n (pc := 31) (i := 3) dX4_checksum_31 rfl rfl ?_
      refine a_bipush (pc := 32) (v := nI 96) dX4_checksum_32 (by decide) ?_
      refine n_icmp_ge (pc := 34) (tgt := 83) dX4_checksum_34 (by decide) (by omega) (by omega) (fun c34 => ?_) (fun c34 => ?_)
      · have eq9 : q = 96 := by omega
        subst eq9
        refine a_iconst (pc := 83) (v := nI 0) dX4_checksum_83 (by decide) ?_
        refine a_istore_n (pc := 84) (i := 3) (ls' := [(0, .ref 0), (1, .long (ck2 (tC t) 96)), (3, .int (nI 0))]) dX4_checksum_84 rfl (by decide) rfl ?_
        refine a_locs (ls' := [(0, .ref 0), (1, .long (ck3 (tC t) 0)), (3, .int (nI 0))]) rfl ?_
        exact L3 (sLen (tC t) + 1) 0 (Nat.zero_le _) (by omega)
      · skip
        refine a_aload_n (pc := 37) (i := 0) dX4_checksum_37 rfl rfl ?_
        refine a_getR (pc := 38) (ci := 4) (k := 3) (b := 2) dX4_checksum_38 (lf_RX4_23 rfl) (by decide) rfl rfl (lt90 hn (shK_lt (show shK 0 = _ from rfl))) c.2.1.2.1 ?_
        refine a_iload_n (pc := 41) (i := 3) dX4_checksum_41 rfl rfl ?_
        refine a_vVN1 (pc := 42) (as := [.int (nI q)]) (b := 2) (ci := 3) (v := .int (bi (qhas (tC t) q))) (h' := h) dX4_checksum_42 (lc_RX4_253 rfl) ceX3_hasSpot rfl (lt90 hn (shK_lt (show shK 2 = _ from rfl))) (sp_hasSpot c g r c34) rfl rfl (Nat.le_of_ble_eq_true rfl) rfl ?_
        refine b_if_eq (pc := 45) (tgt := 77) dX4_checksum_45 (by decide) (fun c45 => ?_) (fun c45 => ?_)
        · skip
          refine n_iinc (pc := 77) (k := 1) (ls' := [(0, .ref 0), (1, .long (ck2 (tC t) q)), (3, .int (nI (q + 1)))]) dX4_checksum_77 rfl (by decide) (by decide) rfl ?_
          refine a_goto (pc := 80) (tgt := 31) dX4_checksum_80 (by decide) ?_
          refine a_locs (ls' := [(0, .ref 0), (1, .long (ck2 (tC t) (q + 1))), (3, .int (nI (q + 1)))]) (by rw [show ck2 (tC t) (q + 1) = ck2 (tC t) q from cif_f c45]) ?_
          exact ih (q + 1) (by omega) (by omega)
        · skip
          refine a_ldc2 (pc := 48) (v := 31) dX4_checksum_48 (lj_RX4_248 rfl) ?_
          refine a_lload_n (pc := 51) (i := 1) dX4_checksum_51 rfl rfl ?_
          refine a_lmul (pc := 52) dX4_checksum_52 ?_
          refine a_aload_n (pc := 53) (i := 0) dX4_checksum_53 rfl rfl ?_
          refine a_iload_n (pc := 54) (i := 3) dX4_checksum_54 rfl rfl ?_
          refine a_vV1 (pc := 55) (as := [.int (nI q)]) (b := 0) (ci := 4) (v := .int (flet (tC t) q)) (h' := h) dX4_checksum_55 (lc_RX4_122 rfl) ceX4_letterOrGone rfl (lt90 hn (shK_lt (show shK 0 = _ from rfl))) (sp_letterOrGone c g r c34 c45.2) rfl rfl (Nat.le_of_ble_eq_true rfl) rfl ?_
          refine a_i2l (pc := 58) dX4_checksum_58 ?_
          refine a_ladd (pc := 59) dX4_checksum_59 ?_
          refine a_lstore_n (pc := 60) (i := 1) (ls' := [(0, .ref 0), (1, .long ((31 * (ck2 (tC t) q)) + ((flet (tC t) q).toInt64))), (3, .int (nI q))]) dX4_checksum_60 rfl (by decide) rfl ?_
          refine a_ldc2 (pc := 61) (v := 31) dX4_checksum_61 (lj_RX4_248 rfl) ?_
          refine a_lload_n (pc := 64) (i := 1) dX4_checksum_64 rfl rfl ?_
          refine a_lmul (pc := 65) dX4_checksum_65 ?_
          refine a_aload_n (pc := 66) (i := 0) dX4_checksum_66 rfl rfl ?_
          refine a_getR (pc := 67) (ci := 4) (k := 3) (b := 2) dX4_checksum_67 (lf_RX4_23 rfl) (by decide) rfl rfl (lt90 hn (shK_lt (show shK 0 = _ from rfl))) c.2.1.2.1 ?_
          refine a_iload_n (pc := 70) (i := 3) dX4_checksum_70 rfl rfl ?_
          refine a_vVN1 (pc := 71) (as := [.int (nI q)]) (b := 2) (ci := 3) (v := .int (nI (qsz (tC t) q))) (h' := h) dX4_checksum_71 (lc_RX4_132 rfl) ceX3_sizeAt rfl (lt90 hn (shK_lt (show shK 2 = _ from rfl))) (sp_sizeAt c g r c34) rfl rfl (Nat.le_of_ble_eq_true rfl) rfl ?_
          refine a_i2l (pc := 74) dX4_checksum_74 ?_
          refine a_ladd (pc := 75) dX4_checksum_75 ?_
          refine a_lstore_n (pc := 76) (i := 1) (ls' := [(0, .ref 0), (1, .long ((31 * ((31 * (ck2 (tC t) q)) + ((flet (tC t) q).toInt64))) + ((nI (qsz (tC t) q)).toInt64))), (3, .int (nI q))]) dX4_checksum_76 rfl (by decide) rfl ?_
          refine n_iinc (pc := 77) (k := 1) (ls' := [(0, .ref 0), (1, .long ((31 * ((31 * (ck2 (tC t) q)) + ((flet (tC t) q).toInt64))) + ((nI (qsz (tC t) q)).toInt64))), (3, .int (nI (q + 1)))]) dX4_checksum_77 rfl (by decide) (by decide) rfl ?_
          refine a_goto (pc := 80) (tgt := 31) dX4_checksum_80 (by decide) ?_
          refine a_locs (ls' := [(0, .ref 0), (1, .long (ck2 (tC t) (q + 1))), (3, .int (nI (q + 1)))]) (by rw [show ck2 (tC t) (q + 1) = _ from cif_t c45]) ?_
          exact ih (q + 1) (by omega) (by omega)
  have L1 : ∀ (fu : Nat) (k : Nat), k ≤ 8 → 8 - k < fu → AW X mX4_checksum (d + 100) 0 0 4 [(0, .ref 0), (1, .long (ck1 (tC t) k)), (3, .int (nI k))] [] h (Qw (.inl (some (.long (ckS (tC t))))) t h) := by
    intro fu
    induction fu with
    | zero => intro k hk hz; exact absurd hz (Nat.not_lt_zero _)
    | succ fu ih =>
      intro k hk hz
      refine a_iload_n (pc := 4) (i := 3) dX4_checksum_4 rfl rfl ?_
      refine a_bipush (pc := 5) (v := nI 7) dX4_checksum_5 (by decide) ?_
      refine n_icmp_gt (pc := 7) (tgt := 29) dX4_checksum_7 (by decide) (by omega) (by omega) (fun c7 => ?_) (fun c7 => ?_)
      · have ek : k = 8 := by omega
        subst ek
        refine a_iconst (pc := 29) (v := nI 0) dX4_checksum_29 (by decide) ?_
        refine a_istore_n (pc := 30) (i := 3) (ls' := [(0, .ref 0), (1, .long (ck1 (tC t) 8)), (3, .int (nI 0))]) dX4_checksum_30 rfl (by decide) rfl ?_
        refine a_locs (ls' := [(0, .ref 0), (1, .long (ck2 (tC t) 0)), (3, .int (nI 0))]) rfl ?_
        exact L2 97 0 (Nat.zero_le _) (by omega)
      · skip
        refine a_ldc2 (pc := 10) (v := 31) dX4_checksum_10 (lj_RX4_248 rfl) ?_
        refine a_lload_n (pc := 13) (i := 1) dX4_checksum_13 rfl rfl ?_
        refine a_lmul (pc := 14) dX4_checksum_14 ?_
        refine a_aload_n (pc := 15) (i := 0) dX4_checksum_15 rfl rfl ?_
        refine a_iload_n (pc := 16) (i := 3) dX4_checksum_16 rfl rfl ?_
        refine a_vV1 (pc := 17) (as := [.int (nI k)]) (b := 0) (ci := 4) (v := .int (stV (tC t) k)) (h' := h) dX4_checksum_17 (lc_RX4_250 rfl) ceX4_state rfl (lt90 hn (shK_lt (show shK 0 = _ from rfl))) (sp_state8 c g r (by omega)) rfl rfl (Nat.le_of_ble_eq_true rfl) rfl ?_
        refine a_i2l (pc := 20) dX4_checksum_20 ?_
        refine a_ladd (pc := 21) dX4_checksum_21 ?_
        refine a_lstore_n (pc := 22) (i := 1) (ls' := [(0, .ref 0), (1, .long ((31 * (ck1 (tC t) k)) + ((stV (tC t) k).toInt64))), (3, .int (nI k))]) dX4_checksum_22 rfl (by decide) rfl ?_
        refine n_iinc (pc := 23) (k := 1) (ls' := [(0, .ref 0), (1, .long ((31 * (ck1 (tC t) k)) + ((stV (tC t) k).toInt64))), (3, .int (nI (k + 1)))]) dX4_checksum_23 rfl (by decide) (by decide) rfl ?_
        refine a_goto (pc := 26) (tgt := 4) dX4_checksum_26 (by decide) ?_
        refine a_locs (ls' := [(0, .ref 0), (1, .long (ck1 (tC t) (k + 1))), (3, .int (nI (k + 1)))]) rfl ?_
        exact ih (k + 1) (by omega) (by omega)
  refine a_lconst (pc := 0) (v := 0) dX4_checksum_0 (by decide) ?_
  refine a_lstore_n (pc := 1) (i := 1) (ls' := [(0, .ref 0), (1, .long 0)]) dX4_checksum_1 rfl (by decide) rfl ?_
  refine a_iconst (pc := 2) (v := nI 0) dX4_checksum_2 (by decide) ?_
  refine a_istore_n (pc := 3) (i := 3) (ls' := [(0, .ref 0), (1, .long 0), (3, .int (nI 0))]) dX4_checksum_3 rfl (by decide) rfl ?_
  refine a_locs (ls' := [(0, .ref 0), (1, .long (ck1 (tC t) 0)), (3, .int (nI 0))]) rfl ?_
  exact L1 9 0 (Nat.zero_le _) (by omega)
