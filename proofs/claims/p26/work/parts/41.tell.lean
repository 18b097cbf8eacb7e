/-! tell -/
def isLt (x : Int32) : Prop := ¬ x < nI 97 ∧ ¬ nI 122 < x
theorem isLt_n {x : Int32} (h : isLt x) : ∃ n, n < 26 ∧ x - nI 97 = nI n ∧ i2n (x - nI 97) = n := by
  obtain ⟨k, hk, h1, rfl⟩ := ge_n (by omega) h.1
  have h2 : k ≤ 122 := Nat.le_of_not_lt fun z => h.2 ((nI_ltI (by omega) hk).mpr z)
  rw [pk_sub h1]
  exact ⟨k - 97, by omega, rfl, i2n_nI (by omega)⟩
/-- the message of n letters that the bytes Y tell -/
noncomputable def msOf (s : SH) (n : Nat) (Y : Nat → Int32) : SH := (s.1, s.2.1, s.2.2.1, s.2.2.2.1, (n, fun k => cif (isLt (Y k)) (i2n (Y k - nI 97)) 0), s.2.2.2.2.2)
theorem GS_ms {s : SH} (g : GS s) {n : Nat} {Y : Nat → Int32} (hn : n ≤ 24) : GS (msOf s n Y) := ⟨g.1, g.2.1, g.2.2.1, g.2.2.2.1, g.2.2.2.2.1, hn, fun k => by
  show cif (isLt (Y k)) (i2n (Y k - nI 97)) 0 < 26
  rcases Classical.em (isLt (Y k)) with h | h
  · rw [cif_t h]; obtain ⟨m, h1, -, h3⟩ := isLt_n h; omega
  · rw [cif_f h]; omega⟩
theorem tRem_b (t : ST) : tB (tRem t) = tB t ∧ tY (tRem t) = tY t ∧ tE (tRem t) = tE t := by unfold tRem; split <;> exact ⟨rfl, rfl, rfl⟩
noncomputable def oTell (t : ST) (x : Int32) : Res × ST := cif (∃ n, (1 ≤ n ∧ n ≤ 24 ∧ n ≤ tB t) ∧ x = nI n ∧ ∀ i, i < n → isLt (tY t i)) (ri (nI (nMiss (msOf (tC t) (i2n x) (tY t)))), (msOf (tC t) (i2n x) (tY t), (0, tY t), (tRem t).2.2)) (.inr eIA, t)
set_option maxHeartbeats 1500000 in
set_option maxRecDepth 100000 in
theorem sp_isLetter {d : Nat} {h : AH} {x : Int32} : AC mX4_isLetter (d + 1) 0 0 [.int x] h (Qe (some (.int (bi (isLt x)))) h) := by
  refine AC.of (by decide) rfl (Nat.le_of_ble_eq_true rfl) (fun X => ?_)
  show AW X mX4_isLetter (d + 1) 0 0 0 [(0, .int x)] [] h (Qe (some (.int (bi (isLt x)))) h)
  refine a_iload_n (pc := 0) (i := 0) dX4_isLetter_0 rfl rfl ?_
  refine a_bipush (pc := 1) (v := nI 97) dX4_isLetter_1 (by decide) ?_
  refine a_icmp_lt (pc := 3) (tgt := 16) dX4_isLetter_3 (by decide) (fun c3 => ?_) (fun c3 => ?_)
  · skip
    refine a_iconst (pc := 16) (v := nI 0) dX4_isLetter_16 (by decide) ?_
    exact a_ireturn (pc := 17) dX4_isLetter_17 rfl rfl (⟨by rw [bi_f (fun z => z.1 c3)]; rfl, rfl⟩)
  · skip
    refine a_iload_n (pc := 6) (i := 0) dX4_isLetter_6 rfl rfl ?_
    refine a_bipush (pc := 7) (v := nI 122) dX4_isLetter_7 (by decide) ?_
    refine a_icmp_gt (pc := 9) (tgt := 16) dX4_isLetter_9 (by decide) (fun c9 => ?_) (fun c9 => ?_)
    · skip
      refine a_iconst (pc := 16) (v := nI 0) dX4_isLetter_16 (by decide) ?_
      exact a_ireturn (pc := 17) dX4_isLetter_17 rfl rfl (⟨by rw [bi_f (fun z => z.2 c9)]; rfl, rfl⟩)
    · skip
      refine a_iconst (pc := 12) (v := nI 1) dX4_isLetter_12 (by decide) ?_
      refine a_goto (pc := 13) (tgt := 17) dX4_isLetter_13 (by decide) ?_
      exact a_ireturn (pc := 17) dX4_isLetter_17 rfl rfl (⟨by rw [bi_t ⟨c3, c9⟩]; rfl, rfl⟩)
set_option maxHeartbeats 1500000 in
set_option maxRecDepth 100000 in
theorem sp_startsWith {d : Nat} {h : AH} {n : Nat} {Y : Nat → Int32} (c : CB h) (hn4 : n ≤ 400) (hY : ∀ j, j < n → hI h 1 j = Y j) : AC mX4_startsWithLetters (d + 2) 0 0 [.ref 0, .int (nI n)] h (Qe (some (.int (bi (∀ i, i < n → isLt (Y i))))) h) := by
  refine AC.of (by decide) rfl (Nat.le_of_ble_eq_true rfl) (fun X => ?_)
  show AW X mX4_startsWithLetters (d + 2) 0 0 0 [(0, .ref 0), (1, .int (nI n))] [] h (Qe (some (.int (bi (∀ i, i < n → isLt (Y i))))) h)
  have hn := c.1
  have LP : ∀ (fu : Nat) (i : Nat), i ≤ n → (∀ j, j < i → isLt (Y j)) → n - i < fu → AW X mX4_startsWithLetters (d + 2) 0 0 2 [(0, .ref 0), (1, .int (nI n)), (2, .int (nI i))] [] h (Qe (some (.int (bi (∀ i, i < n → isLt (Y i))))) h) := by
    intro fu
    induction fu with
    | zero => intro i hi hall hz; exact absurd hz (Nat.not_lt_zero _)
    | succ fu ih =>
      intro i hi hall hz
      refine a_iload_n (pc := 2) (i := 2) dX4_startsWithLetters_2 rfl rfl ?_
      refine a_iload_n (pc := 3) (i := 1) dX4_startsWithLetters_3 rfl rfl ?_
      refine n_icmp_ge (pc := 4) (tgt := 34) dX4_startsWithLetters_4 (by decide) (by omega) (by omega) (fun c4 => ?_) (fun c4 => ?_)
      · have e : i = n := by omega
        subst e
        refine a_iconst (pc := 34) (v := nI 1) dX4_startsWithLetters_34 (by decide) ?_
        exact a_ireturn (pc := 35) dX4_startsWithLetters_35 rfl rfl (⟨by rw [bi_t hall]; rfl, rfl⟩)
      · skip
        refine a_iload_n (pc := 7) (i := 2) dX4_startsWithLetters_7 rfl rfl ?_
        refine a_sipush (pc := 8) (v := nI 400) dX4_startsWithLetters_8 (by decide) ?_
        refine n_icmp_ge (pc := 11) (tgt := 34) dX4_startsWithLetters_11 (by decide) (by omega) (by omega) (fun c11 => ?_) (fun c11 => ?_)
        · exact absurd c11 (by omega)
        · skip
          refine a_aload_n (pc := 14) (i := 0) dX4_startsWithLetters_14 rfl rfl ?_
          refine a_getR (pc := 15) (ci := 4) (k := 0) (b := 1) dX4_startsWithLetters_15 (lf_RX4_9 rfl) (by decide) rfl rfl (lt90 hn (shK_lt (show shK 0 = _ from rfl))) c.2.1.1 ?_
          refine a_iload_n (pc := 18) (i := 2) dX4_startsWithLetters_18 rfl rfl ?_
          refine a_bald (pc := 19) (j := i) dX4_startsWithLetters_19 rfl (lt90 hn (shK_lt (show shK 1 = _ from rfl))) rfl (by omega) ?_
          refine a_top (show (.int (hI h 1 i) : Value) = .int (Y i) from congrArg Value.int (hY i c4)) ?_
          refine a_vS1 (pc := 20) (as := [.int (Y i)]) (v := .int (bi (isLt (Y i)))) (h' := h) dX4_startsWithLetters_20 (lc_RX4_259 rfl) ceX4_isLetter sp_isLetter rfl rfl (Nat.le_of_ble_eq_true rfl) rfl ?_
          refine b_if_ne (pc := 23) (tgt := 28) dX4_startsWithLetters_23 (by decide) (fun c23 => ?_) (fun c23 => ?_)
          · skip
            refine n_iinc (pc := 28) (k := 1) (ls' := [(0, .ref 0), (1, .int (nI n)), (2, .int (nI (i + 1)))]) dX4_startsWithLetters_28 rfl (by decide) (by decide) rfl ?_
            refine a_goto (pc := 31) (tgt := 2) dX4_startsWithLetters_31 (by decide) ?_
            exact ih (i + 1) (by omega) (fun j hj => by
      rcases Nat.lt_or_ge j i with w | w
      · exact hall j w
      · rw [show j = i by omega]; exact c23) (by omega)
          · skip
            refine a_iconst (pc := 26) (v := nI 0) dX4_startsWithLetters_26 (by decide) ?_
            exact a_ireturn (pc := 27) dX4_startsWithLetters_27 rfl rfl (⟨by rw [bi_f (fun z => c23 (z i c4))]; rfl, rfl⟩)
  refine a_iconst (pc := 0) (v := nI 0) dX4_startsWithLetters_0 (by decide) ?_
  refine a_istore_n (pc := 1) (i := 2) (ls' := [(0, .ref 0), (1, .int (nI n)), (2, .int (nI 0))]) dX4_startsWithLetters_1 rfl (by decide) rfl ?_
  exact LP (n + 1) 0 (by omega) (fun j hj => absurd hj (Nat.not_lt_zero _)) (by omega)
set_option maxHeartbeats 1500000 in
set_option maxRecDepth 100000 in
theorem sp_tell {d : Nat} {h : AH} {t : ST} {x : Int32} (m : IM h t) : AC mX4_tell (d + 100) 1 6 [.ref 0, .int x] h (Qw (oTell t x).1 (oTell t x).2 h) := by
  have m0 := m.1
  have c := m0.1
  have g := m0.2.1.1
  have r := m0.2.2.1
  have hn := c.1
  have gl := g.2.2.2.2.2.1
  have gs := g.2.2.1
  have gw := g.1
  have gh := g.2.1
  refine AC.of (by decide) rfl (Nat.le_of_ble_eq_true rfl) (fun X => ?_)
  show AW X mX4_tell (d + 100) 1 6 0 [(0, .ref 0), (1, .int x)] [] h (Qw (oTell t x).1 (oTell t x).2 h)
  have hb4 := m0.2.1.2.1
  have b0 := m0.2.2.2.1
  refine a_iload_n (pc := 0) (i := 1) dX4_tell_0 rfl rfl ?_
  refine a_iconst (pc := 1) (v := nI 1) dX4_tell_1 (by decide) ?_
  refine a_icmp_lt (pc := 2) (tgt := 27) dX4_tell_2 (by decide) (fun c2 => ?_) (fun c2 => ?_)
  · have e : oTell t x = _ := cif_f (fun ⟨n, h1, h2, h3⟩ => by rw [h2] at c2; have := (nI_ltI (by omega) (by omega)).mp c2; omega)
    exact a_throw (kc := 0) (ks := 0) th_X4_tell_27 (by omega) (Nat.le_of_ble_eq_true rfl) (⟨by rw [e], by rw [e]; exact m, Fw.refl⟩)
  · obtain ⟨n, hn31, hn1, rfl⟩ := ge_n (by omega) c2
    refine a_iload_n (pc := 5) (i := 1) dX4_tell_5 rfl rfl ?_
    refine a_bipush (pc := 6) (v := nI 24) dX4_tell_6 (by decide) ?_
    refine n_icmp_gt (pc := 8) (tgt := 27) dX4_tell_8 (by decide) (by omega) (by omega) (fun c8 => ?_) (fun c8 => ?_)
    · have e : oTell t (nI n) = _ := cif_f (fun ⟨k, h1, h2, h3⟩ => by have := (nI_eq hn31 (by omega)).mp h2; omega)
      exact a_throw (kc := 0) (ks := 0) th_X4_tell_27 (by omega) (Nat.le_of_ble_eq_true rfl) (⟨by rw [e], by rw [e]; exact m, Fw.refl⟩)
    · skip
      refine a_iload_n (pc := 11) (i := 1) dX4_tell_11 rfl rfl ?_
      refine a_aload_n (pc := 12) (i := 0) dX4_tell_12 rfl rfl ?_
      refine a_getI (pc := 13) (ci := 4) (k := 1) dX4_tell_13 (lf_RX4_13 rfl) (by decide) rfl rfl (lt90 hn (shK_lt (show shK 0 = _ from rfl))) ?_
      refine a_top (show (.int (hI h 0 1) : Value) = .int (nI (tB t)) from congrArg Value.int b0.1) ?_
      refine n_icmp_gt (pc := 16) (tgt := 27) dX4_tell_16 (by decide) (by omega) (by omega) (fun c16 => ?_) (fun c16 => ?_)
      · have e : oTell t (nI n) = _ := cif_f (fun ⟨k, h1, h2, h3⟩ => by have := (nI_eq hn31 (by omega)).mp h2; omega)
        exact a_throw (kc := 0) (ks := 0) th_X4_tell_27 (by omega) (Nat.le_of_ble_eq_true rfl) (⟨by rw [e], by rw [e]; exact m, Fw.refl⟩)
      · skip
        refine a_aload_n (pc := 19) (i := 0) dX4_tell_19 rfl rfl ?_
        refine a_iload_n (pc := 20) (i := 1) dX4_tell_20 rfl rfl ?_
        refine a_vV1 (pc := 21) (as := [.int (nI n)]) (b := 0) (ci := 4) (v := .int (bi (∀ i, i < n → isLt (tY t i)))) (h' := h) dX4_tell_21 (lc_RX4_216 rfl) ceX4_startsWithLetters rfl (lt90 hn (shK_lt (show shK 0 = _ from rfl))) (sp_startsWith (d := d + 97) c (by omega) (fun j hj => b0.2 j (by omega))) rfl rfl (Nat.le_of_ble_eq_true rfl) rfl ?_
        refine b_if_ne (pc := 24) (tgt := 35) dX4_tell_24 (by decide) (fun c24 => ?_) (fun c24 => ?_)
        · have e : oTell t (nI n) = _ := cif_t ⟨n, ⟨hn1, c8, c16⟩, rfl, c24⟩
          rw [i2n_nI hn31] at e
          refine a_aload_n (pc := 35) (i := 0) dX4_tell_35 rfl rfl ?_
          refine a_uV (pc := 36) (as := []) (b := 0) (ci := 4) dX4_tell_36 (lc_RX4_73 rfl) ceX4_remember rfl (lt90 hn (shK_lt (show shK 0 = _ from rfl))) (sp_remember m0) rfl rfl (Nat.le_of_ble_eq_true rfl) (fun h2 y => y.2.1.1) (fun H y => ?_)
          obtain ⟨m1, fw1, h91, fv1⟩ := y
          have c1 := m1.1
          have r1 := m1.2.2.1
          rw [tRem_c] at r1
          have hnr := c1.1
          have b1 := m1.2.2.2.1
          rw [(tRem_b t).1, (tRem_b t).2.1] at b1
          have LP : ∀ (fu : Nat) (k : Nat) (H2 : AH), k ≤ n → Fr [5] H H2 → (∀ j, j < k → hI H2 5 j = tY t j - nI 97) → n - k < fu → AW X mX4_tell (d + 100) 1 6 41 [(0, .ref 0), (1, .int (nI n)), (2, .int (nI k))] [] H2 (Qw (oTell t (nI n)).1 (oTell t (nI n)).2 h) := by
            intro fu
            induction fu with
            | zero => intro k H2 hk hf hms hz; exact absurd hz (Nat.not_lt_zero _)
            | succ fu ih =>
              intro k H2 hk hf hms hz
              have ca2 := c1.fr hf
              have hn2 := ca2.1
              refine a_iload_n (pc := 41) (i := 2) dX4_tell_41 rfl rfl ?_
              refine a_iload_n (pc := 42) (i := 1) dX4_tell_42 rfl rfl ?_
              refine n_icmp_ge (pc := 43) (tgt := 70) dX4_tell_43 (by decide) (by omega) (by omega) (fun c43 => ?_) (fun c43 => ?_)
              · have ek : k = n := by omega
                refine a_aload_n (pc := 70) (i := 0) dX4_tell_70 rfl rfl ?_
                refine a_getR (pc := 71) (ci := 4) (k := 3) (b := 2) dX4_tell_71 (lf_RX4_23 rfl) (by decide) rfl rfl (lt90 hn2 (shK_lt (show shK 0 = _ from rfl))) ca2.2.1.2.1 ?_
                refine a_iload_n (pc := 74) (i := 1) dX4_tell_74 rfl rfl ?_
                refine a_putI (pc := 75) (ci := 3) (k := 7) dX4_tell_75 (lf_RX4_99 rfl) (by decide) (Or.inl rfl) rfl (lt90 hn2 (shK_lt (show shK 2 = _ from rfl))) rfl ?_
                refine a_aload_n (pc := 78) (i := 0) dX4_tell_78 rfl rfl ?_
                refine a_iconst (pc := 79) (v := nI 0) dX4_tell_79 (by decide) ?_
                refine a_putI (pc := 80) (ci := 4) (k := 1) dX4_tell_80 (lf_RX4_13 rfl) (by decide) (Or.inl rfl) rfl (lt90 hn2 (shK_lt (show shK 0 = _ from rfl))) rfl ?_
                obtain ⟨H3, hH3⟩ : ∃ Hx, Hx = sI (sI H2 2 7 (nI n)) 0 1 (nI 0) := ⟨_, rfl⟩
                have f3 : Fr [0, 2, 5] H H3 := by rw [hH3]; exact ((hf.mono (by simp)).sI (by simp)).sI (by simp)
                have z3 : ∀ j, j ≠ 1 → hI H3 0 j = hI H 0 j := fun j hj => by rw [hH3, rd1 (by omega), rd1 (by omega)]; exact congrFun (hf.2.2 0 (by simp)).1 j
                have e3 : hI H3 0 1 = nI 0 := by rw [hH3]; exact rd2 ⟨rfl, rfl⟩
                have q2 : ∀ j, j ≠ 7 → hI H3 2 j = hI H 2 j := fun j hj => by rw [hH3, rd1 (by omega), rd1 (by omega)]; exact congrFun (hf.2.2 2 (by simp)).1 j
                have q7 : hI H3 2 7 = nI n := by rw [hH3, rd1 (by omega)]; exact rd2 ⟨rfl, rfl⟩
                have q5 : hI H3 5 = hI H2 5 := by rw [hH3]; funext j; rw [rd1 (by omega), rd1 (by omega)]
                have l3 : hL H3 2 = hL H 2 := by rw [hH3]; exact (hf.2.2 2 (by simp)).2
                have r3 : CR H3 2 (msOf (tC t) n (tY t)) := CR_of ((q2 0 (by omega)).trans r1.1.1) ((q2 1 (by omega)).trans r1.1.2.1) ((q2 2 (by omega)).trans r1.1.2.2.1) ((congrFun l3 5).trans r1.1.2.2.2.1) q7 ((q2 8 (by omega)).trans r1.1.2.2.2.2.2.1) ((q2 9 (by omega)).trans r1.1.2.2.2.2.2.2) (fun q a1 a2 => by rw [(f3.2.2 (2 + 1) (by simp)).1]; exact r1.2.1 q a1 a2) (fun x y a1 a2 => by rw [(f3.2.2 (2 + 2) (by simp)).1]; exact r1.2.2.1 x y a1 a2) (fun j hj => by show hI H3 5 j = nI (cif (isLt (tY t j)) (i2n (tY t j - nI 97)) 0); have hj : j < n := hj; rw [q5, hms j (by omega), cif_t (c24 j hj)]; obtain ⟨m, a1, a2, a3⟩ := isLt_n (c24 j hj); rw [a3, a2])
                refine a_heap (h' := H3) hH3.symm ?_
                have c3 := c1.fr f3
                have hn3 := c3.1
                refine a_aload_n (pc := 83) (i := 0) dX4_tell_83 rfl rfl ?_
                refine a_wV1 (pc := 84) (as := []) (b := 0) (ci := 4) (v := .int (nI (nMiss (msOf (tC t) n (tY t))))) dX4_tell_84 (lc_RX4_223 rfl) ceX4_missing rfl (lt90 hn3 (shK_lt (show shK 0 = _ from rfl))) (sp_missing (d := d + 39) c3 (GS_ms g c8) r3) rfl rfl (Nat.le_of_ble_eq_true rfl) (fun H4 f4 r4 => ?_)
                have c4 := c3.fr f4
                have z4 : hI H4 0 = hI H3 0 := (f4.2.2 0 (by simp)).1
                obtain ⟨-, gt1, -, -, e21, e51, w, w1, w2⟩ := m1
                have m4 : IM0 H4 (msOf (tC t) n (tY t), (0, tY t), (tRem t).2.2) := ⟨c4, ⟨GS_ms g c8, Nat.zero_le _, m0.2.1.2.2.1, gt1.2.2.2⟩, r3.fr f4 (fun a => off13), ⟨(congrFun z4 1).trans e3, fun j hj => absurd hj (Nat.not_lt_zero _)⟩, (congrFun z4 2).trans ((z3 2 (by omega)).trans e21), (congrFun z4 5).trans ((z3 5 (by omega)).trans e51), w, ⟨fun i hi => by rw [f4.2.1, f3.2.1]; exact w1.1 i hi, w1.2⟩, fun i hi => ((w2 i hi).fr f3 (fun a h1 h3 => by simp; omega)).fr f4 (fun a h1 h3 => by simp; omega)⟩
                exact a_ireturn (pc := 87) dX4_tell_87 rfl rfl (⟨by rw [e]; rfl, by rw [e]; exact IM.z m4 ((congrFun z4 9).trans ((z3 9 (by omega)).trans h91)), (fw1.trans (f3.w (by simp))).trans (f4.w (by simp))⟩)
              · skip
                refine a_aload_n (pc := 46) (i := 0) dX4_tell_46 rfl rfl ?_
                refine a_getR (pc := 47) (ci := 4) (k := 3) (b := 2) dX4_tell_47 (lf_RX4_23 rfl) (by decide) rfl rfl (lt90 hn2 (shK_lt (show shK 0 = _ from rfl))) ca2.2.1.2.1 ?_
                refine a_getR (pc := 50) (ci := 3) (k := 6) (b := 5) dX4_tell_50 (lf_RX4_219 rfl) (by decide) rfl rfl (lt90 hn2 (shK_lt (show shK 2 = _ from rfl))) (ca2.2.2.1 2 (Or.inl rfl)).2.2 ?_
                refine a_iload_n (pc := 53) (i := 2) dX4_tell_53 rfl rfl ?_
                refine a_aload_n (pc := 54) (i := 0) dX4_tell_54 rfl rfl ?_
                refine a_getR (pc := 55) (ci := 4) (k := 0) (b := 1) dX4_tell_55 (lf_RX4_9 rfl) (by decide) rfl rfl (lt90 hn2 (shK_lt (show shK 0 = _ from rfl))) ca2.2.1.1 ?_
                refine a_iload_n (pc := 58) (i := 2) dX4_tell_58 rfl rfl ?_
                refine a_bald (pc := 59) (j := k) dX4_tell_59 rfl (lt90 hn2 (shK_lt (show shK 1 = _ from rfl))) rfl (by omega) ?_
                refine a_top (show (.int (hI H2 1 k) : Value) = .int (tY t k) from congrArg Value.int ((congrFun (hf.2.2 1 (by simp)).1 k).trans (b1.2 k (by omega)))) ?_
                refine a_bipush (pc := 60) (v := nI 97) dX4_tell_60 (by decide) ?_
                refine a_isub (pc := 62) dX4_tell_62 ?_
                refine a_iast (pc := 63) (j := k) dX4_tell_63 rfl (lt90 hn2 (shK_lt (show shK 5 = _ from rfl))) rfl (by omega) ?_
                refine n_iinc (pc := 64) (k := 1) (ls' := [(0, .ref 0), (1, .int (nI n)), (2, .int (nI (k + 1)))]) dX4_tell_64 rfl (by decide) (by decide) rfl ?_
                refine a_goto (pc := 67) (tgt := 41) dX4_tell_67 (by decide) ?_
                exact ih (k + 1) _ (by omega) (hf.sI (by simp)) (fun j hj => by
      rcases Nat.lt_or_ge j k with w | w
      · rw [rd1 (by omega)]; exact hms j w
      · have ej : j = k := by omega
        subst ej
        exact rd2 ⟨rfl, rfl⟩) (by omega)
          refine a_iconst (pc := 39) (v := nI 0) dX4_tell_39 (by decide) ?_
          refine a_istore_n (pc := 40) (i := 2) (ls' := [(0, .ref 0), (1, .int (nI n)), (2, .int (nI 0))]) dX4_tell_40 rfl (by decide) rfl ?_
          exact LP (n + 1) 0 H (by omega) Fr.refl (fun j hj => absurd hj (Nat.not_lt_zero _)) (by omega)
        · have e : oTell t (nI n) = _ := cif_f (fun ⟨k, h1, h2, h3⟩ => c24 (by have := (nI_eq hn31 (by omega)).mp h2; subst this; exact h3))
          exact a_throw (kc := 0) (ks := 0) th_X4_tell_27 (by omega) (Nat.le_of_ble_eq_true rfl) (⟨by rw [e], by rw [e]; exact m, Fw.refl⟩)
