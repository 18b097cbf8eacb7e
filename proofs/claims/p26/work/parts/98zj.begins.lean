/-! the law: its beginning -/
theorem u_T0 : oUndo T0 = (ri (-1), T0) := cif_t rfl
theorem c_T0 : oCut T0 = (.inr eIS, T0) := oc_no (Or.inr (fun ⟨q, hb, hne⟩ => hne (List.eq_nil_of_length_eq_zero (by
  have := plV_le (BP_V hb)
  have h : sLen (tC T0) = 0 := rfl
  omega))))
theorem s_T0 : ¬ stripP (tC T0) 0 0 1 := fun z => ((qcu_pq (s := tC T0) GT0.1 (sd := 0) (p := 0) (by decide) (by decide)).mp (z.2 0 (by decide))).1 rfl
theorem sn_T0 : oSnip T0 (nI 0) (nI 0) (nI 1) = (.inr eIS, T0) := os_not (sd := 0) (p := 0) (m := 1) GT0.1 (by decide) (by decide) (by decide) (by decide) s_T0
theorem so_T0 : oSnip T0 (nI 0) (nI 1) (nI 1) = (.inr eIO, T0) := os_off (sd := 0) (p := 1) (by decide) (by decide) (by decide)
theorem sa_T0 : oSnip T0 (nI 0) (nI 0) (nI 9) = (.inr eIA, T0) := os_arg (sd := 0) (p := 0) (m := 9) (by decide) (by decide) (by decide) (by decide)
theorem mn_T0 : oMend T0 (nI 0) = (.inr eIS, T0) := om_not (c := 0) (by decide) (by decide) (fun z => z)
theorem mo_T0 : oMend T0 (nI 1) = (.inr eIO, T0) := om_off (c := 1) (by decide) (by decide)
noncomputable def T1 : ST := (withS (tC T0) 2, (tRem T0).2)
theorem l_T0 : oLeast T0 (nI 2) = (ri (nI 1), T1) := ol_yes (t := T0) (n := 2) (by decide)
theorem n_T1 : tN T1 = 1 := (rem_past (t := T0) (Nat.zero_le _)).1
theorem b_T1 : tB T1 = 0 := (tRem_b T0).1
theorem u_T1 : (oUndo T1).1 = ri (nI 0) ∧ tB (oUndo T1).2 = 0 := by
  rw [ou_yes (by rw [n_T1]; decide), n_T1]
  exact ⟨rfl, b_T1⟩
set_option maxHeartbeats 1500000 in
set_option maxRecDepth 100000 in
theorem lw_beg2 {X : XT} {nm : String} {hh : List (Nat × Nat × Nat × Nat)} {d i kc ks : Nat} (hi : i < 2) {H0 H : AH} (hD : ∀ (H : AH) (t : ST), IM H t → tB t = 0 → BZ H → dl (hN H) = dl (hN H0) → AW X (mLaw nm hh) (d + 105) kc ks 184 [(0, .ref 1000), (1, .int (nI 1)), (2, .int (nI i)), (3, .ref 0), (4, .ref 66), (5, .ref 67)] [] H QL) (hH0 : hN H = hN H0) (m : IM H T0) (bz : BZ H) : AW X (mLaw nm hh) (d + 105) (kc + 9) (ks + 54) 59 [(0, .ref 1000), (1, .int (nI 1)), (2, .int (nI i)), (3, .ref 0), (4, .ref 66), (5, .ref 67)] [] H QL := by
  refine a_aload_n (pc := 59) (i := 3) dL_law_59 rfl rfl ?_
  refine e_VW (pc := 60) (mc := 0) (ms := 0) (kc := kc + 9) (ks := ks + 54) (as := []) (b := 0) (ci := 4) dL_law_60 (lc_RL_190 rfl) ceX4_errorOffset k0 (prN_st (Nat.lt_of_lt_of_le (by decide) m.1.1.1) (by decide)) (sp_errorOffset (d := d + 4) m) rfl rfl (Nat.le_of_ble_eq_true rfl) (fun E h2 y => by have z := y.1; rw [(rfl : ri (tE T0) = ri (-1))] at z; cases z) rfl rfl (Or.inl (fun v h2 y => y.2.2.1)) (fun v2 H60 y => ?_)
  obtain ⟨ev, m60, f60⟩ := y
  have ev2 : v2 = some (.int ((-1))) := by rw [(rfl : ri (tE T0) = ri (-1))] at ev; exact Sum.inl.inj ev
  subst ev2
  refine a_iconst (pc := 63) (v := (-1)) dL_law_63 (by decide) ?_
  refine a_icmp_ne (pc := 64) (tgt := 182) dL_law_64 (by decide) (fun c64 => ?_) (fun c64 => ?_)
  · skip
    first | exact absurd rfl c64 | exact absurd c64 (by decide)
  · skip
    refine a_aload_n (pc := 67) (i := 3) dL_law_67 rfl rfl ?_
    refine e_VW (pc := 68) (mc := 0) (ms := 0) (kc := kc + 9) (ks := ks + 54) (as := []) (b := 0) (ci := 4) dL_law_68 (lc_RL_193 rfl) ceX4_undo k0 (prN_st (Nat.lt_of_lt_of_le (by decide) m60.1.1.1) (by decide)) (sp_undo (d := d + 4) m60) rfl rfl (Nat.le_of_ble_eq_true rfl) (fun E h2 y => by have z := y.1; rw [u_T0] at z; cases z) rfl rfl (Or.inl (fun v h2 y => y.2.2.1)) (fun v2 H68 y => ?_)
    obtain ⟨ev, m68, f68⟩ := y
    have ev2 : v2 = some (.int ((-1))) := by rw [u_T0] at ev; exact Sum.inl.inj ev
    subst ev2
    rw [u_T0] at m68
    refine a_iconst (pc := 71) (v := (-1)) dL_law_71 (by decide) ?_
    refine a_icmp_ne (pc := 72) (tgt := 182) dL_law_72 (by decide) (fun c72 => ?_) (fun c72 => ?_)
    · skip
      first | exact absurd rfl c72 | exact absurd c72 (by decide)
    · skip
      refine a_aload_n (pc := 75) (i := 3) dL_law_75 rfl rfl ?_
      refine a_iconst (pc := 76) (v := nI 1) dL_law_76 (by decide) ?_
      refine g_pX (pc := 77) (kc := kc + 8) (ks := ks + 48) (as := [.ref 0, .int (nI 1)]) dL_law_77 (lc_RL_94 rfl) ceL_tell (sL_tell (d := d + 3) m68) rfl rfl (Nat.le_of_ble_eq_true rfl) (by omega) (by omega) (fun H77 m77 f77 => ?_)
      have e77 := z_tell (t := T0) (m := 1) (by decide) (by decide) (Or.inr (by decide))
      rw [e77] at m77 ⊢
      refine a_top (show (.int (wn (.inr eIA)) : Value) = .int ((-2000000098)) from congrArg Value.int wn_E.2.1) ?_
      refine a_ldc (pc := 80) (v := (-2000000098)) dL_law_80 (li_RL_42 rfl) ?_
      refine a_icmp_ne (pc := 82) (tgt := 182) dL_law_82 (by decide) (fun c82 => ?_) (fun c82 => ?_)
      · skip
        exact absurd rfl c82
      · skip
        refine a_aload_n (pc := 85) (i := 3) dL_law_85 rfl rfl ?_
        refine g_pX (pc := 86) (kc := kc + 7) (ks := ks + 42) (as := [.ref 0]) dL_law_86 (lc_RL_196 rfl) ceL_cut (sL_cut (d := d + 3) m77) rfl rfl (Nat.le_of_ble_eq_true rfl) (by omega) (by omega) (fun H86 m86 f86 => ?_)
        have e86 := c_T0
        rw [e86] at m86 ⊢
        refine a_top (show (.int (wn (.inr eIS)) : Value) = .int ((-2000000099)) from congrArg Value.int wn_E.2.2.1) ?_
        refine a_ldc (pc := 89) (v := (-2000000099)) dL_law_89 (li_RL_80 rfl) ?_
        refine a_icmp_ne (pc := 91) (tgt := 182) dL_law_91 (by decide) (fun c91 => ?_) (fun c91 => ?_)
        · skip
          exact absurd rfl c91
        · skip
          refine a_aload_n (pc := 94) (i := 3) dL_law_94 rfl rfl ?_
          refine a_iconst (pc := 95) (v := nI 0) dL_law_95 (by decide) ?_
          refine a_iconst (pc := 96) (v := nI 0) dL_law_96 (by decide) ?_
          refine a_iconst (pc := 97) (v := nI 1) dL_law_97 (by decide) ?_
          refine g_pX (pc := 98) (kc := kc + 6) (ks := ks + 36) (as := [.ref 0, .int (nI 0), .int (nI 0), .int (nI 1)]) dL_law_98 (lc_RL_199 rfl) ceL_snip (sL_snip (d := d + 3) m86) rfl rfl (Nat.le_of_ble_eq_true rfl) (by omega) (by omega) (fun H98 m98 f98 => ?_)
          have e98 := sn_T0
          rw [e98] at m98 ⊢
          refine a_top (show (.int (wn (.inr eIS)) : Value) = .int ((-2000000099)) from congrArg Value.int wn_E.2.2.1) ?_
          refine a_ldc (pc := 101) (v := (-2000000099)) dL_law_101 (li_RL_80 rfl) ?_
          refine a_icmp_ne (pc := 103) (tgt := 182) dL_law_103 (by decide) (fun c103 => ?_) (fun c103 => ?_)
          · skip
            exact absurd rfl c103
          · skip
            refine a_aload_n (pc := 106) (i := 3) dL_law_106 rfl rfl ?_
            refine a_iconst (pc := 107) (v := nI 0) dL_law_107 (by decide) ?_
            refine a_iconst (pc := 108) (v := nI 1) dL_law_108 (by decide) ?_
            refine a_iconst (pc := 109) (v := nI 1) dL_law_109 (by decide) ?_
            refine g_pX (pc := 110) (kc := kc + 5) (ks := ks + 30) (as := [.ref 0, .int (nI 0), .int (nI 1), .int (nI 1)]) dL_law_110 (lc_RL_199 rfl) ceL_snip (sL_snip (d := d + 3) m98) rfl rfl (Nat.le_of_ble_eq_true rfl) (by omega) (by omega) (fun H110 m110 f110 => ?_)
            have e110 := so_T0
            rw [e110] at m110 ⊢
            refine a_top (show (.int (wn (.inr eIO)) : Value) = .int ((-2000000097)) from congrArg Value.int wn_E.1) ?_
            refine a_ldc (pc := 113) (v := (-2000000097)) dL_law_113 (li_RL_52 rfl) ?_
            refine a_icmp_ne (pc := 115) (tgt := 182) dL_law_115 (by decide) (fun c115 => ?_) (fun c115 => ?_)
            · skip
              exact absurd rfl c115
            · skip
              refine a_aload_n (pc := 118) (i := 3) dL_law_118 rfl rfl ?_
              refine a_iconst (pc := 119) (v := nI 0) dL_law_119 (by decide) ?_
              refine a_iconst (pc := 120) (v := nI 0) dL_law_120 (by decide) ?_
              refine a_bipush (pc := 121) (v := nI 9) dL_law_121 (by decide) ?_
              refine g_pX (pc := 123) (kc := kc + 4) (ks := ks + 24) (as := [.ref 0, .int (nI 0), .int (nI 0), .int (nI 9)]) dL_law_123 (lc_RL_199 rfl) ceL_snip (sL_snip (d := d + 3) m110) rfl rfl (Nat.le_of_ble_eq_true rfl) (by omega) (by omega) (fun H123 m123 f123 => ?_)
              have e123 := sa_T0
              rw [e123] at m123 ⊢
              refine a_top (show (.int (wn (.inr eIA)) : Value) = .int ((-2000000098)) from congrArg Value.int wn_E.2.1) ?_
              refine a_ldc (pc := 126) (v := (-2000000098)) dL_law_126 (li_RL_42 rfl) ?_
              refine a_icmp_ne (pc := 128) (tgt := 182) dL_law_128 (by decide) (fun c128 => ?_) (fun c128 => ?_)
              · skip
                exact absurd rfl c128
              · skip
                refine a_aload_n (pc := 131) (i := 3) dL_law_131 rfl rfl ?_
                refine a_bipush (pc := 132) (v := nI 10) dL_law_132 (by decide) ?_
                refine g_pX (pc := 134) (kc := kc + 3) (ks := ks + 18) (as := [.ref 0, .int (nI 10)]) dL_law_134 (lc_RL_202 rfl) ceL_least (sL_least (d := d + 3) m123) rfl rfl (Nat.le_of_ble_eq_true rfl) (by omega) (by omega) (fun H134 m134 f134 => ?_)
                have e134 := ol_no (t := T0) (n := 10) (Or.inr (by decide))
                rw [e134] at m134 ⊢
                refine a_top (show (.int (wn (.inr eIA)) : Value) = .int ((-2000000098)) from congrArg Value.int wn_E.2.1) ?_
                refine a_ldc (pc := 137) (v := (-2000000098)) dL_law_137 (li_RL_42 rfl) ?_
                refine a_icmp_ne (pc := 139) (tgt := 182) dL_law_139 (by decide) (fun c139 => ?_) (fun c139 => ?_)
                · skip
                  exact absurd rfl c139
                · skip
                  refine a_aload_n (pc := 142) (i := 3) dL_law_142 rfl rfl ?_
                  refine a_iconst (pc := 143) (v := nI 0) dL_law_143 (by decide) ?_
                  refine g_pX (pc := 144) (kc := kc + 2) (ks := ks + 12) (as := [.ref 0, .int (nI 0)]) dL_law_144 (lc_RL_204 rfl) ceL_mend (sL_mend (d := d + 3) m134) rfl rfl (Nat.le_of_ble_eq_true rfl) (by omega) (by omega) (fun H144 m144 f144 => ?_)
                  have e144 := mn_T0
                  rw [e144] at m144 ⊢
                  refine a_top (show (.int (wn (.inr eIS)) : Value) = .int ((-2000000099)) from congrArg Value.int wn_E.2.2.1) ?_
                  refine a_ldc (pc := 147) (v := (-2000000099)) dL_law_147 (li_RL_80 rfl) ?_
                  refine a_icmp_ne (pc := 149) (tgt := 182) dL_law_149 (by decide) (fun c149 => ?_) (fun c149 => ?_)
                  · skip
                    exact absurd rfl c149
                  · skip
                    refine a_aload_n (pc := 152) (i := 3) dL_law_152 rfl rfl ?_
                    refine a_iconst (pc := 153) (v := nI 1) dL_law_153 (by decide) ?_
                    refine g_pX (pc := 154) (kc := kc + 1) (ks := ks + 6) (as := [.ref 0, .int (nI 1)]) dL_law_154 (lc_RL_204 rfl) ceL_mend (sL_mend (d := d + 3) m144) rfl rfl (Nat.le_of_ble_eq_true rfl) (by omega) (by omega) (fun H154 m154 f154 => ?_)
                    have e154 := mo_T0
                    rw [e154] at m154 ⊢
                    refine a_top (show (.int (wn (.inr eIO)) : Value) = .int ((-2000000097)) from congrArg Value.int wn_E.1) ?_
                    refine a_ldc (pc := 157) (v := (-2000000097)) dL_law_157 (li_RL_52 rfl) ?_
                    refine a_icmp_ne (pc := 159) (tgt := 182) dL_law_159 (by decide) (fun c159 => ?_) (fun c159 => ?_)
                    · skip
                      exact absurd rfl c159
                    · skip
                      refine a_aload_n (pc := 162) (i := 3) dL_law_162 rfl rfl ?_
                      refine a_iconst (pc := 163) (v := nI 2) dL_law_163 (by decide) ?_
                      refine g_pX (pc := 164) (kc := kc) (ks := ks) (as := [.ref 0, .int (nI 2)]) dL_law_164 (lc_RL_202 rfl) ceL_least (sL_least (d := d + 3) m154) rfl rfl (Nat.le_of_ble_eq_true rfl) (by omega) (by omega) (fun H164 m164 f164 => ?_)
                      have e164 := l_T0
                      rw [e164] at m164 ⊢
                      refine a_top (show (.int (wn (ri (nI 1))) : Value) = .int (nI 1) from rfl) ?_
                      refine a_iconst (pc := 167) (v := nI 1) dL_law_167 (by decide) ?_
                      refine a_icmp_ne (pc := 168) (tgt := 182) dL_law_168 (by decide) (fun c168 => ?_) (fun c168 => ?_)
                      · skip
                        exact absurd rfl c168
                      · skip
                        have mm := m164
                        refine a_aload_n (pc := 171) (i := 3) dL_law_171 rfl rfl ?_
                        refine e_VW (pc := 172) (mc := 0) (ms := 0) (kc := kc) (ks := ks) (as := []) (b := 0) (ci := 4) dL_law_172 (lc_RL_193 rfl) ceX4_undo k0 (prN_st (Nat.lt_of_lt_of_le (by decide) m164.1.1.1) (by decide)) (sp_undo (d := d + 4) m164) rfl rfl (Nat.le_of_ble_eq_true rfl) (fun E h2 y => by have z := y.1; rw [u_T1.1] at z; cases z) rfl rfl (Or.inl (fun v h2 y => y.2.2.1)) (fun v2 H172 y => ?_)
                        obtain ⟨ev, m172, f172⟩ := y
                        have ev2 : v2 = some (.int (nI 0)) := by rw [u_T1.1] at ev; exact Sum.inl.inj ev
                        subst ev2
                        refine a_if_ne (pc := 175) (tgt := 182) dL_law_175 (by decide) (fun c175 => ?_) (fun c175 => ?_)
                        · skip
                          first | exact absurd rfl c175 | exact absurd c175 (by decide)
                        · skip
                          refine a_iconst (pc := 178) (v := nI 1) dL_law_178 (by decide) ?_
                          refine a_goto (pc := 179) (tgt := 183) dL_law_179 (by decide) ?_
                          refine a_istore_n (pc := 183) (i := 1) (ls' := [(0, .ref 1000), (1, .int (nI 1)), (2, .int (nI i)), (3, .ref 0), (4, .ref 66), (5, .ref 67)]) dL_law_183 rfl (Nat.le_of_ble_eq_true rfl) rfl ?_
                          have eN : hN H172 = hN H := (f172.1.trans (f164.1.trans (f154.1.trans (f144.1.trans (f134.1.trans (f123.1.trans (f110.1.trans (f98.1.trans (f86.1.trans (f77.1.trans (f68.1.trans f60.1)))))))))))
                          have bzz : BZ H172 := by
                            have z0 := bz
                            have z0 := z0.dq m.1.1.1 (f60.dq m.1.1.1) (Nat.lt_irrefl 66)
                            have z0 := z0.dq m60.1.1.1 (f68.dq m60.1.1.1) (Nat.lt_irrefl 66)
                            have z0 := z0.dq m68.1.1.1 (f77.dq m68.1.1.1) (Nat.lt_irrefl 66)
                            have z0 := z0.dq m77.1.1.1 (f86.dq m77.1.1.1) (Nat.lt_irrefl 66)
                            have z0 := z0.dq m86.1.1.1 (f98.dq m86.1.1.1) (Nat.lt_irrefl 66)
                            have z0 := z0.dq m98.1.1.1 (f110.dq m98.1.1.1) (Nat.lt_irrefl 66)
                            have z0 := z0.dq m110.1.1.1 (f123.dq m110.1.1.1) (Nat.lt_irrefl 66)
                            have z0 := z0.dq m123.1.1.1 (f134.dq m123.1.1.1) (Nat.lt_irrefl 66)
                            have z0 := z0.dq m134.1.1.1 (f144.dq m134.1.1.1) (Nat.lt_irrefl 66)
                            have z0 := z0.dq m144.1.1.1 (f154.dq m144.1.1.1) (Nat.lt_irrefl 66)
                            have z0 := z0.dq m154.1.1.1 (f164.dq m154.1.1.1) (Nat.lt_irrefl 66)
                            have z0 := z0.dq m164.1.1.1 (f172.dq m164.1.1.1) (Nat.lt_irrefl 66)
                            exact z0
                          exact hD H172 _ m172 u_T1.2 bzz (by rw [eN, hH0])
set_option maxHeartbeats 1500000 in
set_option maxRecDepth 100000 in
theorem lw_beg3 {X : XT} {nm : String} {hh : List (Nat × Nat × Nat × Nat)} {d i kc ks : Nat} (hi : i < 2) {H : AH} {t : ST} (hR233 : ∀ (H : AH) (t : ST) (k kb : Nat), LI H t k kb 0 (fun _ => 0) → AW X (mLaw nm hh) (d + 105) kc ks 233 [(0, .ref 1000), (1, .int (nI 1)), (2, .int (nI i)), (3, .ref 0), (4, .ref 66), (5, .ref 67), (6, .ref (aN k)), (7, .ref (bfN kb)), (8, .int (nI 0)), (9, .int (nI 0))] [] H QL) (m : IM H t) (hb : tB t = 0) (bz : BZ H) : AW X (mLaw nm hh) (d + 105) (kc + 123) (ks + 1181) 184 [(0, .ref 1000), (1, .int (nI 1)), (2, .int (nI i)), (3, .ref 0), (4, .ref 66), (5, .ref 67)] [] H QL := by
  refine a_aload_n (pc := 184) (i := 3) dL_law_184 rfl rfl ?_
  refine a_aload (pc := 185) (i := 4) dL_law_185 rfl ?_
  refine a_aload (pc := 187) (i := 5) dL_law_187 rfl ?_
  obtain ⟨k, hk⟩ : ∃ k, dl (hN H) = k := ⟨_, rfl⟩
  refine e_SW (pc := 189) (mc := 110) (ms := 1100) (kc := kc + 13) (ks := ks + 81) (as := [.ref 0, .ref 66, .ref 67]) dL_law_189 (lc_RL_206 rfl) ceL_randomSheet (w_randomSheet (d := d) m hb bz hk) rfl rfl (Nat.le_of_ble_eq_true rfl) (fun E h2 y => by cases y.1) rfl rfl (Or.inr ⟨(okc (okd_x (by unfold ext; omega)) (okc okd_i (okc okd_i (okc (okd_r (prN_st (Nat.lt_of_lt_of_le (by decide) m.1.1.1) (by decide))) (okc (okd_r (prN_st (Nat.lt_of_lt_of_le (by decide) m.1.1.1) (by decide))) (okc (okd_r (prN_st (Nat.lt_of_lt_of_le (by decide) m.1.1.1) (by decide))) okz)))))), okz⟩) (fun v2 H1 y => ?_)
  obtain ⟨ev, t1, m1, hb1, bz1, l1, c1, d1⟩ := y
  cases ev
  refine a_astore (pc := 192) (i := 6) (ls' := [(0, .ref 1000), (1, .int (nI 1)), (2, .int (nI i)), (3, .ref 0), (4, .ref 66), (5, .ref 67), (6, .ref (aN k))]) dL_law_192 (Nat.le_of_ble_eq_true rfl) rfl ?_
  refine a_aload (pc := 194) (i := 6) dL_law_194 rfl ?_
  refine a_ifnonnull (pc := 196) (tgt := 201) dL_law_196 (by decide) ?_
  refine a_iload_n (pc := 201) (i := 1) dL_law_201 rfl rfl ?_
  refine n_if_eq (pc := 202) (tgt := 218) dL_law_202 (by decide) (by omega) (fun c202 => ?_) (fun c202 => ?_)
  · skip
    exact absurd c202 (by decide)
  · skip
    refine a_aload_n (pc := 205) (i := 3) dL_law_205 rfl rfl ?_
    refine a_aload (pc := 206) (i := 6) dL_law_206 rfl ?_
    refine e_SW (pc := 208) (mc := 12) (ms := 72) (kc := kc + 1) (ks := ks + 9) (as := [.ref 0, .ref (aN k)]) dL_law_208 (lc_RL_186 rfl) ceL_agrees (w_agrees (d := d + 2) m1 l1) rfl rfl (Nat.le_of_ble_eq_true rfl) (fun E h2 y => by cases y.1) rfl rfl (Or.inl (fun v h2 y => y.2.2.2.2)) (fun v2 H2 y => ?_)
    obtain ⟨ev, m2, l2, d2, e2⟩ := y
    cases ev
    refine n_if_eq (pc := 211) (tgt := 218) dL_law_211 (by decide) (by omega) (fun c211 => ?_) (fun c211 => ?_)
    · skip
      exact absurd c211 (by decide)
    · skip
      refine a_iconst (pc := 214) (v := nI 1) dL_law_214 (by decide) ?_
      refine a_goto (pc := 215) (tgt := 219) dL_law_215 (by decide) ?_
      refine a_istore_n (pc := 219) (i := 1) (ls' := [(0, .ref 1000), (1, .int (nI 1)), (2, .int (nI i)), (3, .ref 0), (4, .ref 66), (5, .ref 67), (6, .ref (aN k))]) dL_law_219 rfl (Nat.le_of_ble_eq_true rfl) rfl ?_
      refine a_bipush (pc := 220) (v := nI 9) dL_law_220 (by decide) ?_
      refine a_wf (fun hw => ?_)
      obtain ⟨kb, hkb⟩ : ∃ x, dl (hN H2) = x := ⟨_, rfl⟩
      have nB : newC (hN H2) (bfN kb) kb (qA 7 9) := newC_0 m2.1.1.1 hkb (by decide)
      have noB : ¬ prN (hN H2) (bfN kb) := (nB.no hw.1).1
      refine d_newref (pc := 222) (t := 7) (n := 9) (kc := kc) (ks := ks) dL_law_222 (by omega) nB (Or.inr ⟨rfl, rfl⟩) (show Cond.classLink RL 116 "LetterCutsLaw$Sheet" ∈ lw_tb2 from tbi 262 (by decide +kernel)) rfl (okc (okd_x (by unfold ext; omega)) (okc okd_i (okc okd_i (okc (okd_r (prN_st (Nat.lt_of_lt_of_le (by decide) m2.1.1.1) (by decide))) (okc (okd_r (prN_st (Nat.lt_of_lt_of_le (by decide) m2.1.1.1) (by decide))) (okc (okd_r (prN_st (Nat.lt_of_lt_of_le (by decide) m2.1.1.1) (by decide))) (okc (okd_r l2.1.2.1) okz))))))) okz ?_
      have d3 : Dq noS 1 H2 (nwD H2 (bfN kb)) := (Dq.refl m2.1.1.1 : Dq noS 0 H2 H2).nwD nB noB
      refine a_astore (pc := 225) (i := 7) (ls' := [(0, .ref 1000), (1, .int (nI 1)), (2, .int (nI i)), (3, .ref 0), (4, .ref 66), (5, .ref 67), (6, .ref (aN k)), (7, .ref (bfN kb))]) dL_law_225 (Nat.le_of_ble_eq_true rfl) rfl ?_
      refine a_iconst (pc := 227) (v := nI 0) dL_law_227 (by decide) ?_
      refine a_istore (pc := 228) (i := 8) (ls' := [(0, .ref 1000), (1, .int (nI 1)), (2, .int (nI i)), (3, .ref 0), (4, .ref 66), (5, .ref 67), (6, .ref (aN k)), (7, .ref (bfN kb)), (8, .int (nI 0))]) dL_law_228 (Nat.le_of_ble_eq_true rfl) rfl ?_
      refine a_iconst (pc := 230) (v := nI 0) dL_law_230 (by decide) ?_
      refine a_istore (pc := 231) (i := 9) (ls' := [(0, .ref 1000), (1, .int (nI 1)), (2, .int (nI i)), (3, .ref 0), (4, .ref 66), (5, .ref 67), (6, .ref (aN k)), (7, .ref (bfN kb)), (8, .int (nI 0)), (9, .int (nI 0))]) dL_law_231 (Nat.le_of_ble_eq_true rfl) rfl ?_
      exact hR233 _ t1 k kb ⟨m2.dq d3 (fun a z => z.elim), hb1, (bz1.dq m1.1.1.1 d2 S66k_66).dq m2.1.1.1 d3 id, l2.dq d3 okS_no id id, (prN_adn m2.1.1.1).mpr (Or.inr rfl), fun j hj => Or.inl (by rw [nwD_row.2.2]), fun j hj => absurd hj (Nat.not_lt_zero j), fun i j _ hj => absurd hj (Nat.not_lt_zero j)⟩
