/-! the class SetupReader: hasMore, numbers -/
/-- a number from place a on, beginning with v; held at 1000 -/
noncomputable def numF (Y : Nat → Int32) : Nat → Nat → Nat → Nat × Nat
  | 0, a, v => (a, v)
  | m + 1, a, v => cif (¬ Y a < nI 48 ∧ ¬ nI 57 < Y a) (numF Y m (a + 1) (min 1000 (v * 10 + i2n (Y a) - 48))) (a, v)
theorem numF_le {Y : Nat → Int32} : ∀ m a v, v ≤ 1000 → a ≤ (numF Y m a v).1 ∧ (numF Y m a v).1 ≤ a + m ∧ (numF Y m a v).2 ≤ 1000
  | 0, a, v, h => ⟨Nat.le_refl _, Nat.le_refl _, h⟩
  | m + 1, a, v, h => by
    have := numF_le (Y := Y) m (a + 1) (min 1000 (v * 10 + i2n (Y a) - 48)) (by omega)
    unfold numF
    rcases Classical.em (¬ Y a < nI 48 ∧ ¬ nI 57 < Y a) with q | q
    · rw [cif_t q]; omega
    · rw [cif_f q]; show a ≤ a ∧ a ≤ a + (m + 1) ∧ v ≤ 1000; omega
set_option maxHeartbeats 1500000 in
set_option maxRecDepth 100000 in
theorem sp_hasMore {d : Nat} {h : AH} {n : Nat} {Y : Nat → Int32} {q : PS} (x : TX h n Y) (r : R7 h q) (ha : q.1 ≤ n) : AC mX2_hasMore (d + 3) 0 0 [.ref 7] h (Qf [7] (some (.int (bi ((pSp n Y q).1 < n)))) h (fun h2 => K7 h h2 ∧ R7 h2 (pSp n Y q))) := by
  refine AC.of (by decide) rfl (Nat.le_of_ble_eq_true rfl) (fun X => ?_)
  show AW X mX2_hasMore (d + 3) 0 0 0 [(0, .ref 7)] [] h (Qf [7] (some (.int (bi ((pSp n Y q).1 < n)))) h (fun h2 => K7 h h2 ∧ R7 h2 (pSp n Y q)))
  have hn := x.1.1
  have hn4 := x.2.1
  refine a_aload_n (pc := 0) (i := 0) dX2_hasMore_0 rfl rfl ?_
  refine a_uV (pc := 1) (as := []) (b := 7) (ci := 2) dX2_hasMore_1 (lc_RX2_73 rfl) ceX2_skipSpaces rfl (lt90 hn (shK_lt (show shK 7 = _ from rfl))) (sp_skipSpaces (d := d) x r.1 ha) rfl rfl (Nat.le_of_ble_eq_true rfl) (fun h2 y => y.1.1) (fun H y => ?_)
  have x1 := x.at y
  have hn1 := x1.1.1
  have r1 : R7 H (pSp n Y q) := y.r r
  have hle : (pSp n Y q).1 ≤ n := by have := (skp_le (P := fun z => z = nI 32) (Y := Y) (n - q.1) q.1).2; show skp _ _ _ _ ≤ n; omega
  refine a_aload_n (pc := 4) (i := 0) dX2_hasMore_4 rfl rfl ?_
  refine a_getI (pc := 5) (ci := 2) (k := 3) dX2_hasMore_5 (lf_RX2_44 rfl) (by decide) rfl rfl (lt90 hn1 (shK_lt (show shK 7 = _ from rfl))) ?_
  refine a_top (show (.int (hI H 7 3) : Value) = .int (nI ((pSp n Y q).1)) from congrArg Value.int r1.1) ?_
  refine a_aload_n (pc := 8) (i := 0) dX2_hasMore_8 rfl rfl ?_
  refine a_getI (pc := 9) (ci := 2) (k := 2) dX2_hasMore_9 (lf_RX2_35 rfl) (by decide) rfl rfl (lt90 hn1 (shK_lt (show shK 7 = _ from rfl))) ?_
  refine a_top (show (.int (hI H 7 2) : Value) = .int (nI n) from congrArg Value.int x1.2.2.1) ?_
  refine n_icmp_ge (pc := 12) (tgt := 19) dX2_hasMore_12 (by decide) (by omega) (by omega) (fun c12 => ?_) (fun c12 => ?_)
  · skip
    refine a_iconst (pc := 19) (v := nI 0) dX2_hasMore_19 (by decide) ?_
    exact a_ireturn (pc := 20) dX2_hasMore_20 rfl rfl (⟨by rw [bi_f (by omega)]; rfl, y.1, y.k, r1⟩)
  · skip
    refine a_iconst (pc := 15) (v := nI 1) dX2_hasMore_15 (by decide) ?_
    refine a_goto (pc := 16) (tgt := 20) dX2_hasMore_16 (by decide) ?_
    exact a_ireturn (pc := 20) dX2_hasMore_20 rfl rfl (⟨by rw [bi_t c12]; rfl, y.1, y.k, r1⟩)
noncomputable def pNn (n : Nat) (Y : Nat → Int32) (q : PS) : Nat × Nat := numF Y (n - (pSp n Y q).1) (pSp n Y q).1 0
noncomputable def pN (n : Nat) (Y : Nat → Int32) (most : Nat) (q : PS) : PS := cif ((pNn n Y q).1 = (pSp n Y q).1) (pF ((pNn n Y q).1, q.2) (-2) (pSp n Y q).1) (cif ((pNn n Y q).2 < 1 ∨ most < (pNn n Y q).2) (pF ((pNn n Y q).1, q.2) (-3) (pSp n Y q).1) ((pNn n Y q).1, q.2))
set_option maxHeartbeats 1500000 in
set_option maxRecDepth 100000 in
theorem sp_readNumber {d : Nat} {h : AH} {n most : Nat} {Y : Nat → Int32} {q : PS} (x : TX h n Y) (r : R7 h q) (ha : q.1 ≤ n) (hmost : most < 100) : AC mX2_readNumber (d + 3) 0 0 [.ref 7, .int (nI most)] h (Qf [7] (some (.int (nI (pNn n Y q).2))) h (fun h2 => K7 h h2 ∧ R7 h2 (pN n Y most q))) := by
  refine AC.of (by decide) rfl (Nat.le_of_ble_eq_true rfl) (fun X => ?_)
  show AW X mX2_readNumber (d + 3) 0 0 0 [(0, .ref 7), (1, .int (nI most))] [] h (Qf [7] (some (.int (nI (pNn n Y q).2))) h (fun h2 => K7 h h2 ∧ R7 h2 (pN n Y most q)))
  have hn := x.1.1
  have hn4 := x.2.1
  refine a_aload_n (pc := 0) (i := 0) dX2_readNumber_0 rfl rfl ?_
  refine a_uV (pc := 1) (as := []) (b := 7) (ci := 2) dX2_readNumber_1 (lc_RX2_73 rfl) ceX2_skipSpaces rfl (lt90 hn (shK_lt (show shK 7 = _ from rfl))) (sp_skipSpaces (d := d) x r.1 ha) rfl rfl (Nat.le_of_ble_eq_true rfl) (fun h2 y => y.1.1) (fun H y => ?_)
  have x1 := x.at y
  have hn1 := x1.1.1
  have r1 : R7 H (pSp n Y q) := y.r r
  have hle : (pSp n Y q).1 ≤ n := by have := (skp_le (P := fun z => z = nI 32) (Y := Y) (n - q.1) q.1).2; show skp _ _ _ _ ≤ n; omega
  obtain ⟨a, hae⟩ : ∃ a, a = (pSp n Y q).1 := ⟨_, rfl⟩
  have hN : pNn n Y q = numF Y (n - a) a 0 := by rw [hae]; rfl
  have e0 : pN n Y most q = cif ((pNn n Y q).1 = a) (pF ((pNn n Y q).1, q.2) (-2) a) (cif ((pNn n Y q).2 < 1 ∨ most < (pNn n Y q).2) (pF ((pNn n Y q).1, q.2) (-3) a) ((pNn n Y q).1, q.2)) := by rw [hae]; rfl
  rw [← hae] at hle
  have r10 : hI H 7 3 = nI a := by rw [hae]; exact r1.1
  have LP : ∀ (fu : Nat) (b v : Nat) (H2 : AH), a ≤ b ∧ b ≤ n → v ≤ 1000 → At7 H H2 b → numF Y (n - b) b v = pNn n Y q → n - b < fu → AW X mX2_readNumber (d + 3) 0 0 11 [(0, .ref 7), (1, .int (nI most)), (2, .int (nI a)), (3, .int (nI v))] [] H2 (Qf [7] (some (.int (nI (pNn n Y q).2))) h (fun h2 => K7 h h2 ∧ R7 h2 (pN n Y most q))) := by
    intro fu
    induction fu with
    | zero => intro b v H2 hb hv hz2 hs hz; exact absurd hz (Nat.not_lt_zero _)
    | succ fu ih =>
      intro b v H2 hb hv hz2 hs hz
      have xx := x1.at hz2
      have hn2 := xx.1.1
      have rr : R7 H2 (b, q.2) := hz2.r (q := pSp n Y q) r1
      refine a_aload_n (pc := 11) (i := 0) dX2_readNumber_11 rfl rfl ?_
      refine a_getI (pc := 12) (ci := 2) (k := 3) dX2_readNumber_12 (lf_RX2_44 rfl) (by decide) rfl rfl (lt90 hn2 (shK_lt (show shK 7 = _ from rfl))) ?_
      refine a_top (show (.int (hI H2 7 3) : Value) = .int (nI b) from congrArg Value.int hz2.2.1) ?_
      refine a_aload_n (pc := 15) (i := 0) dX2_readNumber_15 rfl rfl ?_
      refine a_getI (pc := 16) (ci := 2) (k := 2) dX2_readNumber_16 (lf_RX2_35 rfl) (by decide) rfl rfl (lt90 hn2 (shK_lt (show shK 7 = _ from rfl))) ?_
      refine a_top (show (.int (hI H2 7 2) : Value) = .int (nI n) from congrArg Value.int xx.2.2.1) ?_
      refine n_icmp_ge (pc := 19) (tgt := 87) dX2_readNumber_19 (by decide) (by omega) (by omega) (fun c19 => ?_) (fun c19 => ?_)
      · skip
        have ef : pNn n Y q = (b, v) := by rw [← hs, show n - b = 0 by omega]; rfl
        rw [ef] at e0
        have e0 : pN n Y most q = cif (b = a) (pF (b, q.2) (-2) a) (cif (v < 1 ∨ most < v) (pF (b, q.2) (-3) a) (b, q.2)) := e0
        refine a_aload_n (pc := 87) (i := 0) dX2_readNumber_87 rfl rfl ?_
        refine a_getI (pc := 88) (ci := 2) (k := 3) dX2_readNumber_88 (lf_RX2_44 rfl) (by decide) rfl rfl (lt90 hn2 (shK_lt (show shK 7 = _ from rfl))) ?_
        refine a_top (show (.int (hI H2 7 3) : Value) = .int (nI b) from congrArg Value.int hz2.2.1) ?_
        refine a_iload_n (pc := 91) (i := 2) dX2_readNumber_91 rfl rfl ?_
        refine n_icmp_ne (pc := 92) (tgt := 105) dX2_readNumber_92 (by decide) (by omega) (by omega) (fun c92 => ?_) (fun c92 => ?_)
        · have e : pN n Y most q = _ := e0.trans (cif_f c92)
          refine a_iload_n (pc := 105) (i := 3) dX2_readNumber_105 rfl rfl ?_
          refine a_iconst (pc := 106) (v := nI 1) dX2_readNumber_106 (by decide) ?_
          refine n_icmp_lt (pc := 107) (tgt := 115) dX2_readNumber_107 (by decide) (by omega) (by omega) (fun c107 => ?_) (fun c107 => ?_)
          · skip
            have e9 : pN n Y most q = pF (b, q.2) (-3) a := e.trans (cif_t (Or.inl c107))
            refine a_aload_n (pc := 115) (i := 0) dX2_readNumber_115 rfl rfl ?_
            refine a_bipush (pc := 116) (v := (-3)) dX2_readNumber_116 (by decide) ?_
            refine a_iload_n (pc := 118) (i := 2) dX2_readNumber_118 rfl rfl ?_
            refine a_uV (pc := 119) (as := [.int ((-3)), .int (nI a)]) (b := 7) (ci := 2) dX2_readNumber_119 (lc_RX2_85 rfl) ceX2_fail rfl (lt90 hn2 (shK_lt (show shK 7 = _ from rfl))) (sp_fail (d := d + 1) xx.1 rr) rfl rfl (Nat.le_of_ble_eq_true rfl) (fun h2 z => z.1.1.1) (fun H3 z => ?_)
            refine a_iload_n (pc := 122) (i := 3) dX2_readNumber_122 rfl rfl ?_
            exact a_ireturn (pc := 123) dX2_readNumber_123 rfl rfl (⟨by rw [ef], (y.1.trans hz2.1).trans z.1.1, (y.k.trans hz2.k).trans z.1, by rw [e9]; exact z.2⟩)
          · skip
            refine a_iload_n (pc := 110) (i := 3) dX2_readNumber_110 rfl rfl ?_
            refine a_iload_n (pc := 111) (i := 1) dX2_readNumber_111 rfl rfl ?_
            refine n_icmp_le (pc := 112) (tgt := 122) dX2_readNumber_112 (by decide) (by omega) (by omega) (fun c112 => ?_) (fun c112 => ?_)
            · have e9 : pN n Y most q = (b, q.2) := e.trans (cif_f (by omega))
              refine a_iload_n (pc := 122) (i := 3) dX2_readNumber_122 rfl rfl ?_
              exact a_ireturn (pc := 123) dX2_readNumber_123 rfl rfl (⟨by rw [ef], y.1.trans hz2.1, y.k.trans hz2.k, by rw [e9]; exact rr⟩)
            · skip
              have e9 : pN n Y most q = pF (b, q.2) (-3) a := e.trans (cif_t (Or.inr c112))
              refine a_aload_n (pc := 115) (i := 0) dX2_readNumber_115 rfl rfl ?_
              refine a_bipush (pc := 116) (v := (-3)) dX2_readNumber_116 (by decide) ?_
              refine a_iload_n (pc := 118) (i := 2) dX2_readNumber_118 rfl rfl ?_
              refine a_uV (pc := 119) (as := [.int ((-3)), .int (nI a)]) (b := 7) (ci := 2) dX2_readNumber_119 (lc_RX2_85 rfl) ceX2_fail rfl (lt90 hn2 (shK_lt (show shK 7 = _ from rfl))) (sp_fail (d := d + 1) xx.1 rr) rfl rfl (Nat.le_of_ble_eq_true rfl) (fun h2 z => z.1.1.1) (fun H3 z => ?_)
              refine a_iload_n (pc := 122) (i := 3) dX2_readNumber_122 rfl rfl ?_
              exact a_ireturn (pc := 123) dX2_readNumber_123 rfl rfl (⟨by rw [ef], (y.1.trans hz2.1).trans z.1.1, (y.k.trans hz2.k).trans z.1, by rw [e9]; exact z.2⟩)
        · have e9 : pN n Y most q = pF (b, q.2) (-2) a := e0.trans (cif_t c92)
          refine a_aload_n (pc := 95) (i := 0) dX2_readNumber_95 rfl rfl ?_
          refine a_bipush (pc := 96) (v := (-2)) dX2_readNumber_96 (by decide) ?_
          refine a_iload_n (pc := 98) (i := 2) dX2_readNumber_98 rfl rfl ?_
          refine a_uV (pc := 99) (as := [.int ((-2)), .int (nI a)]) (b := 7) (ci := 2) dX2_readNumber_99 (lc_RX2_85 rfl) ceX2_fail rfl (lt90 hn2 (shK_lt (show shK 7 = _ from rfl))) (sp_fail (d := d + 1) xx.1 rr) rfl rfl (Nat.le_of_ble_eq_true rfl) (fun h2 z => z.1.1.1) (fun H3 z => ?_)
          refine a_goto (pc := 102) (tgt := 122) dX2_readNumber_102 (by decide) ?_
          refine a_iload_n (pc := 122) (i := 3) dX2_readNumber_122 rfl rfl ?_
          exact a_ireturn (pc := 123) dX2_readNumber_123 rfl rfl (⟨by rw [ef], (y.1.trans hz2.1).trans z.1.1, (y.k.trans hz2.k).trans z.1, by rw [e9]; exact z.2⟩)
      · obtain ⟨m, hm⟩ : ∃ m, n - b = m + 1 := ⟨n - b - 1, by omega⟩
        rw [hm] at hs
        refine a_aload_n (pc := 22) (i := 0) dX2_readNumber_22 rfl rfl ?_
        refine a_getR (pc := 23) (ci := 2) (k := 1) (b := 12) dX2_readNumber_23 (lf_RX2_18 rfl) (by decide) rfl rfl (lt90 hn2 (shK_lt (show shK 7 = _ from rfl))) xx.1.2.2.2.1.2 ?_
        refine a_aload_n (pc := 26) (i := 0) dX2_readNumber_26 rfl rfl ?_
        refine a_getI (pc := 27) (ci := 2) (k := 3) dX2_readNumber_27 (lf_RX2_44 rfl) (by decide) rfl rfl (lt90 hn2 (shK_lt (show shK 7 = _ from rfl))) ?_
        refine a_top (show (.int (hI H2 7 3) : Value) = .int (nI b) from congrArg Value.int hz2.2.1) ?_
        refine a_bald (pc := 30) (j := b) dX2_readNumber_30 rfl (lt90 hn2 (shK_lt (show shK 12 = _ from rfl))) rfl (by omega) ?_
        refine a_top (show (.int (hI H2 12 b) : Value) = .int (Y b) from congrArg Value.int (xx.2.2.2 b c19)) ?_
        refine a_bipush (pc := 31) (v := nI 48) dX2_readNumber_31 (by decide) ?_
        refine a_icmp_lt (pc := 33) (tgt := 87) dX2_readNumber_33 (by decide) (fun c33 => ?_) (fun c33 => ?_)
        · skip
          have ef : pNn n Y q = (b, v) := by rw [← hs]; exact cif_f (fun z => z.1 c33)
          rw [ef] at e0
          have e0 : pN n Y most q = cif (b = a) (pF (b, q.2) (-2) a) (cif (v < 1 ∨ most < v) (pF (b, q.2) (-3) a) (b, q.2)) := e0
          refine a_aload_n (pc := 87) (i := 0) dX2_readNumber_87 rfl rfl ?_
          refine a_getI (pc := 88) (ci := 2) (k := 3) dX2_readNumber_88 (lf_RX2_44 rfl) (by decide) rfl rfl (lt90 hn2 (shK_lt (show shK 7 = _ from rfl))) ?_
          refine a_top (show (.int (hI H2 7 3) : Value) = .int (nI b) from congrArg Value.int hz2.2.1) ?_
          refine a_iload_n (pc := 91) (i := 2) dX2_readNumber_91 rfl rfl ?_
          refine n_icmp_ne (pc := 92) (tgt := 105) dX2_readNumber_92 (by decide) (by omega) (by omega) (fun c92 => ?_) (fun c92 => ?_)
          · have e : pN n Y most q = _ := e0.trans (cif_f c92)
            refine a_iload_n (pc := 105) (i := 3) dX2_readNumber_105 rfl rfl ?_
            refine a_iconst (pc := 106) (v := nI 1) dX2_readNumber_106 (by decide) ?_
            refine n_icmp_lt (pc := 107) (tgt := 115) dX2_readNumber_107 (by decide) (by omega) (by omega) (fun c107 => ?_) (fun c107 => ?_)
            · skip
              have e9 : pN n Y most q = pF (b, q.2) (-3) a := e.trans (cif_t (Or.inl c107))
              refine a_aload_n (pc := 115) (i := 0) dX2_readNumber_115 rfl rfl ?_
              refine a_bipush (pc := 116) (v := (-3)) dX2_readNumber_116 (by decide) ?_
              refine a_iload_n (pc := 118) (i := 2) dX2_readNumber_118 rfl rfl ?_
              refine a_uV (pc := 119) (as := [.int ((-3)), .int (nI a)]) (b := 7) (ci := 2) dX2_readNumber_119 (lc_RX2_85 rfl) ceX2_fail rfl (lt90 hn2 (shK_lt (show shK 7 = _ from rfl))) (sp_fail (d := d + 1) xx.1 rr) rfl rfl (Nat.le_of_ble_eq_true rfl) (fun h2 z => z.1.1.1) (fun H3 z => ?_)
              refine a_iload_n (pc := 122) (i := 3) dX2_readNumber_122 rfl rfl ?_
              exact a_ireturn (pc := 123) dX2_readNumber_123 rfl rfl (⟨by rw [ef], (y.1.trans hz2.1).trans z.1.1, (y.k.trans hz2.k).trans z.1, by rw [e9]; exact z.2⟩)
            · skip
              refine a_iload_n (pc := 110) (i := 3) dX2_readNumber_110 rfl rfl ?_
              refine a_iload_n (pc := 111) (i := 1) dX2_readNumber_111 rfl rfl ?_
              refine n_icmp_le (pc := 112) (tgt := 122) dX2_readNumber_112 (by decide) (by omega) (by omega) (fun c112 => ?_) (fun c112 => ?_)
              · have e9 : pN n Y most q = (b, q.2) := e.trans (cif_f (by omega))
                refine a_iload_n (pc := 122) (i := 3) dX2_readNumber_122 rfl rfl ?_
                exact a_ireturn (pc := 123) dX2_readNumber_123 rfl rfl (⟨by rw [ef], y.1.trans hz2.1, y.k.trans hz2.k, by rw [e9]; exact rr⟩)
              · skip
                have e9 : pN n Y most q = pF (b, q.2) (-3) a := e.trans (cif_t (Or.inr c112))
                refine a_aload_n (pc := 115) (i := 0) dX2_readNumber_115 rfl rfl ?_
                refine a_bipush (pc := 116) (v := (-3)) dX2_readNumber_116 (by decide) ?_
                refine a_iload_n (pc := 118) (i := 2) dX2_readNumber_118 rfl rfl ?_
                refine a_uV (pc := 119) (as := [.int ((-3)), .int (nI a)]) (b := 7) (ci := 2) dX2_readNumber_119 (lc_RX2_85 rfl) ceX2_fail rfl (lt90 hn2 (shK_lt (show shK 7 = _ from rfl))) (sp_fail (d := d + 1) xx.1 rr) rfl rfl (Nat.le_of_ble_eq_true rfl) (fun h2 z => z.1.1.1) (fun H3 z => ?_)
                refine a_iload_n (pc := 122) (i := 3) dX2_readNumber_122 rfl rfl ?_
                exact a_ireturn (pc := 123) dX2_readNumber_123 rfl rfl (⟨by rw [ef], (y.1.trans hz2.1).trans z.1.1, (y.k.trans hz2.k).trans z.1, by rw [e9]; exact z.2⟩)
          · have e9 : pN n Y most q = pF (b, q.2) (-2) a := e0.trans (cif_t c92)
            refine a_aload_n (pc := 95) (i := 0) dX2_readNumber_95 rfl rfl ?_
            refine a_bipush (pc := 96) (v := (-2)) dX2_readNumber_96 (by decide) ?_
            refine a_iload_n (pc := 98) (i := 2) dX2_readNumber_98 rfl rfl ?_
            refine a_uV (pc := 99) (as := [.int ((-2)), .int (nI a)]) (b := 7) (ci := 2) dX2_readNumber_99 (lc_RX2_85 rfl) ceX2_fail rfl (lt90 hn2 (shK_lt (show shK 7 = _ from rfl))) (sp_fail (d := d + 1) xx.1 rr) rfl rfl (Nat.le_of_ble_eq_true rfl) (fun h2 z => z.1.1.1) (fun H3 z => ?_)
            refine a_goto (pc := 102) (tgt := 122) dX2_readNumber_102 (by decide) ?_
            refine a_iload_n (pc := 122) (i := 3) dX2_readNumber_122 rfl rfl ?_
            exact a_ireturn (pc := 123) dX2_readNumber_123 rfl rfl (⟨by rw [ef], (y.1.trans hz2.1).trans z.1.1, (y.k.trans hz2.k).trans z.1, by rw [e9]; exact z.2⟩)
        · skip
          refine a_aload_n (pc := 36) (i := 0) dX2_readNumber_36 rfl rfl ?_
          refine a_getR (pc := 37) (ci := 2) (k := 1) (b := 12) dX2_readNumber_37 (lf_RX2_18 rfl) (by decide) rfl rfl (lt90 hn2 (shK_lt (show shK 7 = _ from rfl))) xx.1.2.2.2.1.2 ?_
          refine a_aload_n (pc := 40) (i := 0) dX2_readNumber_40 rfl rfl ?_
          refine a_getI (pc := 41) (ci := 2) (k := 3) dX2_readNumber_41 (lf_RX2_44 rfl) (by decide) rfl rfl (lt90 hn2 (shK_lt (show shK 7 = _ from rfl))) ?_
          refine a_top (show (.int (hI H2 7 3) : Value) = .int (nI b) from congrArg Value.int hz2.2.1) ?_
          refine a_bald (pc := 44) (j := b) dX2_readNumber_44 rfl (lt90 hn2 (shK_lt (show shK 12 = _ from rfl))) rfl (by omega) ?_
          refine a_top (show (.int (hI H2 12 b) : Value) = .int (Y b) from congrArg Value.int (xx.2.2.2 b c19)) ?_
          refine a_bipush (pc := 45) (v := nI 57) dX2_readNumber_45 (by decide) ?_
          refine a_icmp_gt (pc := 47) (tgt := 87) dX2_readNumber_47 (by decide) (fun c47 => ?_) (fun c47 => ?_)
          · skip
            have ef : pNn n Y q = (b, v) := by rw [← hs]; exact cif_f (fun z => z.2 c47)
            rw [ef] at e0
            have e0 : pN n Y most q = cif (b = a) (pF (b, q.2) (-2) a) (cif (v < 1 ∨ most < v) (pF (b, q.2) (-3) a) (b, q.2)) := e0
            refine a_aload_n (pc := 87) (i := 0) dX2_readNumber_87 rfl rfl ?_
            refine a_getI (pc := 88) (ci := 2) (k := 3) dX2_readNumber_88 (lf_RX2_44 rfl) (by decide) rfl rfl (lt90 hn2 (shK_lt (show shK 7 = _ from rfl))) ?_
            refine a_top (show (.int (hI H2 7 3) : Value) = .int (nI b) from congrArg Value.int hz2.2.1) ?_
            refine a_iload_n (pc := 91) (i := 2) dX2_readNumber_91 rfl rfl ?_
            refine n_icmp_ne (pc := 92) (tgt := 105) dX2_readNumber_92 (by decide) (by omega) (by omega) (fun c92 => ?_) (fun c92 => ?_)
            · have e : pN n Y most q = _ := e0.trans (cif_f c92)
              refine a_iload_n (pc := 105) (i := 3) dX2_readNumber_105 rfl rfl ?_
              refine a_iconst (pc := 106) (v := nI 1) dX2_readNumber_106 (by decide) ?_
              refine n_icmp_lt (pc := 107) (tgt := 115) dX2_readNumber_107 (by decide) (by omega) (by omega) (fun c107 => ?_) (fun c107 => ?_)
              · skip
                have e9 : pN n Y most q = pF (b, q.2) (-3) a := e.trans (cif_t (Or.inl c107))
                refine a_aload_n (pc := 115) (i := 0) dX2_readNumber_115 rfl rfl ?_
                refine a_bipush (pc := 116) (v := (-3)) dX2_readNumber_116 (by decide) ?_
                refine a_iload_n (pc := 118) (i := 2) dX2_readNumber_118 rfl rfl ?_
                refine a_uV (pc := 119) (as := [.int ((-3)), .int (nI a)]) (b := 7) (ci := 2) dX2_readNumber_119 (lc_RX2_85 rfl) ceX2_fail rfl (lt90 hn2 (shK_lt (show shK 7 = _ from rfl))) (sp_fail (d := d + 1) xx.1 rr) rfl rfl (Nat.le_of_ble_eq_true rfl) (fun h2 z => z.1.1.1) (fun H3 z => ?_)
                refine a_iload_n (pc := 122) (i := 3) dX2_readNumber_122 rfl rfl ?_
                exact a_ireturn (pc := 123) dX2_readNumber_123 rfl rfl (⟨by rw [ef], (y.1.trans hz2.1).trans z.1.1, (y.k.trans hz2.k).trans z.1, by rw [e9]; exact z.2⟩)
              · skip
                refine a_iload_n (pc := 110) (i := 3) dX2_readNumber_110 rfl rfl ?_
                refine a_iload_n (pc := 111) (i := 1) dX2_readNumber_111 rfl rfl ?_
                refine n_icmp_le (pc := 112) (tgt := 122) dX2_readNumber_112 (by decide) (by omega) (by omega) (fun c112 => ?_) (fun c112 => ?_)
                · have e9 : pN n Y most q = (b, q.2) := e.trans (cif_f (by omega))
                  refine a_iload_n (pc := 122) (i := 3) dX2_readNumber_122 rfl rfl ?_
                  exact a_ireturn (pc := 123) dX2_readNumber_123 rfl rfl (⟨by rw [ef], y.1.trans hz2.1, y.k.trans hz2.k, by rw [e9]; exact rr⟩)
                · skip
                  have e9 : pN n Y most q = pF (b, q.2) (-3) a := e.trans (cif_t (Or.inr c112))
                  refine a_aload_n (pc := 115) (i := 0) dX2_readNumber_115 rfl rfl ?_
                  refine a_bipush (pc := 116) (v := (-3)) dX2_readNumber_116 (by decide) ?_
                  refine a_iload_n (pc := 118) (i := 2) dX2_readNumber_118 rfl rfl ?_
                  refine a_uV (pc := 119) (as := [.int ((-3)), .int (nI a)]) (b := 7) (ci := 2) dX2_readNumber_119 (lc_RX2_85 rfl) ceX2_fail rfl (lt90 hn2 (shK_lt (show shK 7 = _ from rfl))) (sp_fail (d := d + 1) xx.1 rr) rfl rfl (Nat.le_of_ble_eq_true rfl) (fun h2 z => z.1.1.1) (fun H3 z => ?_)
                  refine a_iload_n (pc := 122) (i := 3) dX2_readNumber_122 rfl rfl ?_
                  exact a_ireturn (pc := 123) dX2_readNumber_123 rfl rfl (⟨by rw [ef], (y.1.trans hz2.1).trans z.1.1, (y.k.trans hz2.k).trans z.1, by rw [e9]; exact z.2⟩)
            · have e9 : pN n Y most q = pF (b, q.2) (-2) a := e0.trans (cif_t c92)
              refine a_aload_n (pc := 95) (i := 0) dX2_readNumber_95 rfl rfl ?_
              refine a_bipush (pc := 96) (v := (-2)) dX2_readNumber_96 (by decide) ?_
              refine a_iload_n (pc := 98) (i := 2) dX2_readNumber_98 rfl rfl ?_
              refine a_uV (pc := 99) (as := [.int ((-2)), .int (nI a)]) (b := 7) (ci := 2) dX2_readNumber_99 (lc_RX2_85 rfl) ceX2_fail rfl (lt90 hn2 (shK_lt (show shK 7 = _ from rfl))) (sp_fail (d := d + 1) xx.1 rr) rfl rfl (Nat.le_of_ble_eq_true rfl) (fun h2 z => z.1.1.1) (fun H3 z => ?_)
              refine a_goto (pc := 102) (tgt := 122) dX2_readNumber_102 (by decide) ?_
              refine a_iload_n (pc := 122) (i := 3) dX2_readNumber_122 rfl rfl ?_
              exact a_ireturn (pc := 123) dX2_readNumber_123 rfl rfl (⟨by rw [ef], (y.1.trans hz2.1).trans z.1.1, (y.k.trans hz2.k).trans z.1, by rw [e9]; exact z.2⟩)
          · obtain ⟨g, hg31, hg48, hgY⟩ := ge_n (by omega) c33
            have hgi : i2n (Y b) = g := by rw [hgY]; exact i2n_nI hg31
            have hg57 : g ≤ 57 := Nat.le_of_not_lt fun z => c47 (by rw [hgY]; exact (nI_ltI (by omega) hg31).mpr z)
            have hs2 : numF Y m (b + 1) (min 1000 (v * 10 + g - 48)) = pNn n Y q := by rw [← hs, ← hgi]; exact (cif_t (a := numF Y m (b + 1) (min 1000 (v * 10 + i2n (Y b) - 48))) (b := (b, v)) (P := ¬ Y b < nI 48 ∧ ¬ nI 57 < Y b) ⟨c33, c47⟩).symm
            refine a_sipush (pc := 50) (v := nI 1000) dX2_readNumber_50 (by decide) ?_
            refine a_iload_n (pc := 53) (i := 3) dX2_readNumber_53 rfl rfl ?_
            refine a_bipush (pc := 54) (v := nI 10) dX2_readNumber_54 (by decide) ?_
            refine n_imul (pc := 56) dX2_readNumber_56 ?_
            refine a_aload_n (pc := 57) (i := 0) dX2_readNumber_57 rfl rfl ?_
            refine a_getR (pc := 58) (ci := 2) (k := 1) (b := 12) dX2_readNumber_58 (lf_RX2_18 rfl) (by decide) rfl rfl (lt90 hn2 (shK_lt (show shK 7 = _ from rfl))) xx.1.2.2.2.1.2 ?_
            refine a_aload_n (pc := 61) (i := 0) dX2_readNumber_61 rfl rfl ?_
            refine a_getI (pc := 62) (ci := 2) (k := 3) dX2_readNumber_62 (lf_RX2_44 rfl) (by decide) rfl rfl (lt90 hn2 (shK_lt (show shK 7 = _ from rfl))) ?_
            refine a_top (show (.int (hI H2 7 3) : Value) = .int (nI b) from congrArg Value.int hz2.2.1) ?_
            refine a_bald (pc := 65) (j := b) dX2_readNumber_65 rfl (lt90 hn2 (shK_lt (show shK 12 = _ from rfl))) rfl (by omega) ?_
            refine a_top (show (.int (hI H2 12 b) : Value) = .int (nI g) from congrArg Value.int ((xx.2.2.2 b c19).trans hgY)) ?_
            refine n_iadd (pc := 66) dX2_readNumber_66 ?_
            refine a_bipush (pc := 67) (v := nI 48) dX2_readNumber_67 (by decide) ?_
            refine n_isub (pc := 69) dX2_readNumber_69 (by omega) ?_
            refine n_mmin (pc := 70) dX2_readNumber_70 (lm_RX2_26 rfl) (Nat.le_of_ble_eq_true rfl) (by omega) (by omega) ?_
            refine a_istore_n (pc := 73) (i := 3) (ls' := [(0, .ref 7), (1, .int (nI most)), (2, .int (nI a)), (3, .int (nI (min 1000 (((v * 10) + g) - 48))))]) dX2_readNumber_73 rfl (by decide) rfl ?_
            refine a_aload_n (pc := 74) (i := 0) dX2_readNumber_74 rfl rfl ?_
            refine a_dup (pc := 75) dX2_readNumber_75 rfl ?_
            refine a_getI (pc := 76) (ci := 2) (k := 3) dX2_readNumber_76 (lf_RX2_44 rfl) (by decide) rfl rfl (lt90 hn2 (shK_lt (show shK 7 = _ from rfl))) ?_
            refine a_top (show (.int (hI H2 7 3) : Value) = .int (nI b) from congrArg Value.int hz2.2.1) ?_
            refine a_iconst (pc := 79) (v := nI 1) dX2_readNumber_79 (by decide) ?_
            refine n_iadd (pc := 80) dX2_readNumber_80 ?_
            refine a_putI (pc := 81) (ci := 2) (k := 3) dX2_readNumber_81 (lf_RX2_44 rfl) (by decide) (Or.inl rfl) rfl (lt90 hn2 (shK_lt (show shK 7 = _ from rfl))) rfl ?_
            refine a_goto (pc := 84) (tgt := 11) dX2_readNumber_84 (by decide) ?_
            refine a_locs (ls' := [(0, .ref 7), (1, .int (nI most)), (2, .int (nI a)), (3, .int (nI (min 1000 (v * 10 + g - 48))))]) rfl ?_
            exact ih (b + 1) (min 1000 (v * 10 + g - 48)) _ (by omega) (by omega) (hz2.trans ⟨Fr.refl.sI (by simp), rd2 ⟨rfl, rfl⟩, fun j hj => rd1 (by omega)⟩) (by rw [show n - (b + 1) = m by omega]; exact hs2) (by omega)
  refine a_aload_n (pc := 4) (i := 0) dX2_readNumber_4 rfl rfl ?_
  refine a_getI (pc := 5) (ci := 2) (k := 3) dX2_readNumber_5 (lf_RX2_44 rfl) (by decide) rfl rfl (lt90 hn1 (shK_lt (show shK 7 = _ from rfl))) ?_
  refine a_top (show (.int (hI H 7 3) : Value) = .int (nI a) from congrArg Value.int r10) ?_
  refine a_istore_n (pc := 8) (i := 2) (ls' := [(0, .ref 7), (1, .int (nI most)), (2, .int (nI a))]) dX2_readNumber_8 rfl (by decide) rfl ?_
  refine a_iconst (pc := 9) (v := nI 0) dX2_readNumber_9 (by decide) ?_
  refine a_istore_n (pc := 10) (i := 3) (ls' := [(0, .ref 7), (1, .int (nI most)), (2, .int (nI a)), (3, .int (nI 0))]) dX2_readNumber_10 rfl (by decide) rfl ?_
  exact LP (n + 1) a 0 H (by omega) (by omega) ⟨Fr.refl, r10, fun _ _ => rfl⟩ hN.symm (by omega)
