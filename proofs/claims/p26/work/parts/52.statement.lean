/-! the class SetupReader: sizes, the page, a statement -/
/-- the state behind so many numbers; the numbers -/
noncomputable def pNi (n : Nat) (Y : Nat → Int32) : Nat → PS → PS
  | 0, q => q
  | k + 1, q => pN n Y 9 (pNi n Y k q)
theorem pNi_le {n : Nat} {Y : Nat → Int32} {q : PS} (h : q.1 ≤ n) : ∀ k, (pNi n Y k q).1 ≤ n
  | 0 => h
  | k + 1 => pN_le (pNi_le h k)
theorem pNi_0 {n : Nat} {Y : Nat → Int32} {q : PS} : ∀ k, (pNi n Y k q).2.1 = 0 → ∀ j, j ≤ k → (pNi n Y j q).2.1 = 0
  | 0, h, j, hj => by have : j = 0 := by omega
                      subst this; exact h
  | k + 1, h, j, hj => by
    rcases (by omega : j = k + 1 ∨ j ≤ k) with rfl | hj
    · exact h
    · exact pNi_0 k (pN_0 h).1 j hj
noncomputable def nbv (n : Nat) (Y : Nat → Int32) (q : PS) (k : Nat) : Nat := (pNn n Y (pNi n Y k q)).2
theorem nbv_r {n : Nat} {Y : Nat → Int32} {q : PS} {m : Nat} (h : (pNi n Y m q).2.1 = 0) {k : Nat} (hk : k < m) : 1 ≤ nbv n Y q k ∧ nbv n Y q k ≤ 9 := (pN_0 (pNi_0 m h (k + 1) hk)).2.2.2
set_option maxHeartbeats 1500000 in
set_option maxRecDepth 100000 in
theorem sp_readSizes {d : Nat} {h : AH} {n hh : Nat} {Y : Nat → Int32} {q : PS} (x : TX h n Y) (r : R7 h q) (ha : q.1 ≤ n) (hh8 : hI h 8 1 = nI hh) (hhb : hh ≤ 6) : AC mX2_readSizes (d + 4) 0 0 [.ref 7] h (Qu (fun h2 => KS [7, 10] h h2 ∧ R7 h2 (pNi n Y (hh + hh) q) ∧ ∀ r, r < hh → hI h2 10 r = nI (nbv n Y q r) ∧ hI h2 10 (6 + r) = nI (nbv n Y q (hh + r)))) := by
  refine AC.of (by decide) rfl (Nat.le_of_ble_eq_true rfl) (fun X => ?_)
  show AW X mX2_readSizes (d + 4) 0 0 0 [(0, .ref 7)] [] h (Qu (fun h2 => KS [7, 10] h h2 ∧ R7 h2 (pNi n Y (hh + hh) q) ∧ ∀ r, r < hh → hI h2 10 r = nI (nbv n Y q r) ∧ hI h2 10 (6 + r) = nI (nbv n Y q (hh + r))))
  have hn := x.1.1
  have hn4 := x.2.1
  have LQ1 : ∀ (fu : Nat) (r : Nat) (H : AH), r ≤ hh → KS [7, 10] h H → R7 H (pNi n Y (hh + r) q) → ((∀ k, k < hh → hI H 10 k = nI (nbv n Y q k)) ∧ ∀ k, k < r → hI H 10 (6 + k) = nI (nbv n Y q (hh + k))) → hh - r < fu → AW X mX2_readSizes (d + 4) 0 0 9 [(0, .ref 7), (1, .int (nI 1)), (2, .int (nI r))] [] H (Qu (fun h2 => KS [7, 10] h h2 ∧ R7 h2 (pNi n Y (hh + hh) q) ∧ ∀ r, r < hh → hI h2 10 r = nI (nbv n Y q r) ∧ hI h2 10 (6 + r) = nI (nbv n Y q (hh + r)))) := by
    intro fu
    induction fu with
    | zero => intro r H hr y rr hc hz; exact absurd hz (Nat.not_lt_zero _)
    | succ fu ih =>
      intro r H hr y rr hc hz
      have xx := x.ks y (by simp)
      have hn1 := xx.1.1
      have e8 : hI H 8 = hI h 8 := (y.1.2.2 8 (by simp)).1
      refine a_iload_n (pc := 9) (i := 2) dX2_readSizes_9 rfl rfl ?_
      refine a_aload_n (pc := 10) (i := 0) dX2_readSizes_10 rfl rfl ?_
      refine a_getR (pc := 11) (ci := 2) (k := 0) (b := 8) dX2_readSizes_11 (lf_RX2_12 rfl) (by decide) rfl rfl (lt90 hn1 (shK_lt (show shK 7 = _ from rfl))) xx.1.2.2.2.1.1 ?_
      refine a_getI (pc := 14) (ci := 3) (k := 1) dX2_readSizes_14 (lf_RX2_117 rfl) (by decide) rfl rfl (lt90 hn1 (shK_lt (show shK 8 = _ from rfl))) ?_
      refine a_top (show (.int (hI H 8 1) : Value) = .int (nI hh) from congrArg Value.int (by rw [e8]; exact hh8 : hI H 8 1 = nI hh)) ?_
      refine n_icmp_ge (pc := 17) (tgt := 52) dX2_readSizes_17 (by decide) (by omega) (by omega) (fun c17 => ?_) (fun c17 => ?_)
      · have er : r = hh := by omega
        subst er
        refine n_iinc (pc := 52) (k := 1) (ls' := [(0, .ref 7), (1, .int (nI (1 + 1))), (2, .int (nI r))]) dX2_readSizes_52 rfl (by decide) (by decide) rfl ?_
        refine a_goto (pc := 55) (tgt := 2) dX2_readSizes_55 (by decide) ?_
        refine a_iload_n (pc := 2) (i := 1) dX2_readSizes_2 rfl rfl ?_
        refine a_iconst (pc := 3) (v := nI 1) dX2_readSizes_3 (by decide) ?_
        refine n_icmp_gt (pc := 4) (tgt := 58) dX2_readSizes_4 (by decide) (by omega) (by omega) (fun c4 => ?_) (fun c4 => ?_)
        · skip
          exact a_return (pc := 58) dX2_readSizes_58 rfl (⟨rfl, y, rr, fun k hk => ⟨hc.1 k hk, hc.2 k hk⟩⟩)
        · exact absurd c4 (by omega)
      · skip
        refine a_iload_n (pc := 20) (i := 2) dX2_readSizes_20 rfl rfl ?_
        refine a_bipush (pc := 21) (v := nI 6) dX2_readSizes_21 (by decide) ?_
        refine n_icmp_ge (pc := 23) (tgt := 52) dX2_readSizes_23 (by decide) (by omega) (by omega) (fun c23 => ?_) (fun c23 => ?_)
        · exact absurd c23 (by omega)
        · skip
          refine a_aload_n (pc := 26) (i := 0) dX2_readSizes_26 rfl rfl ?_
          refine a_getR (pc := 27) (ci := 2) (k := 0) (b := 8) dX2_readSizes_27 (lf_RX2_12 rfl) (by decide) rfl rfl (lt90 hn1 (shK_lt (show shK 7 = _ from rfl))) xx.1.2.2.2.1.1 ?_
          refine a_getR (pc := 30) (ci := 3) (k := 4) (b := 10) dX2_readSizes_30 (lf_RX2_134 rfl) (by decide) rfl rfl (lt90 hn1 (shK_lt (show shK 8 = _ from rfl))) (xx.1.2.2.1 8 (Or.inr (Or.inl rfl))).2.1 ?_
          refine a_iload_n (pc := 33) (i := 1) dX2_readSizes_33 rfl rfl ?_
          refine a_bipush (pc := 34) (v := nI 6) dX2_readSizes_34 (by decide) ?_
          refine n_imul (pc := 36) dX2_readSizes_36 ?_
          refine a_iload_n (pc := 37) (i := 2) dX2_readSizes_37 rfl rfl ?_
          refine n_iadd (pc := 38) dX2_readSizes_38 ?_
          refine a_aload_n (pc := 39) (i := 0) dX2_readSizes_39 rfl rfl ?_
          refine a_bipush (pc := 40) (v := nI 9) dX2_readSizes_40 (by decide) ?_
          refine a_wV1 (pc := 42) (as := [.int (nI 9)]) (b := 7) (ci := 2) (v := .int (nI (nbv n Y q (hh + r)))) dX2_readSizes_42 (lc_RX2_89 rfl) ceX2_readNumber rfl (lt90 hn1 (shK_lt (show shK 7 = _ from rfl))) (sp_readNumber (d := d) xx rr (pNi_le ha _) (by omega)) rfl rfl (Nat.le_of_ble_eq_true rfl) (fun H2 f2 z => ?_)
          have x2 := xx.k z.1
          have hn2 := x2.1.1
          refine a_iast (pc := 45) (j := ((1 * 6) + r)) dX2_readSizes_45 rfl (lt90 hn2 (shK_lt (show shK 10 = _ from rfl))) rfl (by omega) ?_
          refine n_iinc (pc := 46) (k := 1) (ls' := [(0, .ref 7), (1, .int (nI 1)), (2, .int (nI (r + 1)))]) dX2_readSizes_46 rfl (by decide) (by decide) rfl ?_
          refine a_goto (pc := 49) (tgt := 9) dX2_readSizes_49 (by decide) ?_
          exact ih (r + 1) _ (by omega) (y.trans ⟨(z.1.1.mono (by intro b hb; simp at hb ⊢; omega)).sI (by simp), fun j hj => by rw [rd1 (by omega)]; exact z.1.2 j hj⟩) ⟨by rw [rd1 (by omega)]; exact z.2.1, by rw [rd1 (by omega)]; exact z.2.2.1, by rw [rd1 (by omega)]; exact z.2.2.2⟩ ⟨fun k hk => by rw [rd1 (by omega), (z.1.1.2.2 10 (by simp)).1]; exact hc.1 k hk, fun k hk => by
              by_cases ek : k = r
              · rw [rd2 ⟨rfl, by omega⟩, ek]
              · rw [rd1 (by omega), (z.1.1.2.2 10 (by simp)).1]; exact hc.2 k (by omega)⟩ (by omega)
  have LQ0 : ∀ (fu : Nat) (r : Nat) (H : AH), r ≤ hh → KS [7, 10] h H → R7 H (pNi n Y (r) q) → (∀ k, k < r → hI H 10 k = nI (nbv n Y q k)) → hh - r < fu → AW X mX2_readSizes (d + 4) 0 0 9 [(0, .ref 7), (1, .int (nI 0)), (2, .int (nI r))] [] H (Qu (fun h2 => KS [7, 10] h h2 ∧ R7 h2 (pNi n Y (hh + hh) q) ∧ ∀ r, r < hh → hI h2 10 r = nI (nbv n Y q r) ∧ hI h2 10 (6 + r) = nI (nbv n Y q (hh + r)))) := by
    intro fu
    induction fu with
    | zero => intro r H hr y rr hc hz; exact absurd hz (Nat.not_lt_zero _)
    | succ fu ih =>
      intro r H hr y rr hc hz
      have xx := x.ks y (by simp)
      have hn1 := xx.1.1
      have e8 : hI H 8 = hI h 8 := (y.1.2.2 8 (by simp)).1
      refine a_iload_n (pc := 9) (i := 2) dX2_readSizes_9 rfl rfl ?_
      refine a_aload_n (pc := 10) (i := 0) dX2_readSizes_10 rfl rfl ?_
      refine a_getR (pc := 11) (ci := 2) (k := 0) (b := 8) dX2_readSizes_11 (lf_RX2_12 rfl) (by decide) rfl rfl (lt90 hn1 (shK_lt (show shK 7 = _ from rfl))) xx.1.2.2.2.1.1 ?_
      refine a_getI (pc := 14) (ci := 3) (k := 1) dX2_readSizes_14 (lf_RX2_117 rfl) (by decide) rfl rfl (lt90 hn1 (shK_lt (show shK 8 = _ from rfl))) ?_
      refine a_top (show (.int (hI H 8 1) : Value) = .int (nI hh) from congrArg Value.int (by rw [e8]; exact hh8 : hI H 8 1 = nI hh)) ?_
      refine n_icmp_ge (pc := 17) (tgt := 52) dX2_readSizes_17 (by decide) (by omega) (by omega) (fun c17 => ?_) (fun c17 => ?_)
      · have er : r = hh := by omega
        subst er
        refine n_iinc (pc := 52) (k := 1) (ls' := [(0, .ref 7), (1, .int (nI (0 + 1))), (2, .int (nI r))]) dX2_readSizes_52 rfl (by decide) (by decide) rfl ?_
        refine a_goto (pc := 55) (tgt := 2) dX2_readSizes_55 (by decide) ?_
        refine a_iload_n (pc := 2) (i := 1) dX2_readSizes_2 rfl rfl ?_
        refine a_iconst (pc := 3) (v := nI 1) dX2_readSizes_3 (by decide) ?_
        refine n_icmp_gt (pc := 4) (tgt := 58) dX2_readSizes_4 (by decide) (by omega) (by omega) (fun c4 => ?_) (fun c4 => ?_)
        · exact absurd c4 (by omega)
        · skip
          refine a_iconst (pc := 7) (v := nI 0) dX2_readSizes_7 (by decide) ?_
          refine a_istore_n (pc := 8) (i := 2) (ls' := [(0, .ref 7), (1, .int (nI (0 + 1))), (2, .int (nI 0))]) dX2_readSizes_8 rfl (by decide) rfl ?_
          refine a_locs (ls' := [(0, .ref 7), (1, .int (nI 1)), (2, .int (nI 0))]) rfl ?_
          exact LQ1 (r + 1) 0 H (Nat.zero_le _) y rr ⟨hc, fun k hk => absurd hk (by omega)⟩ (by omega)
      · skip
        refine a_iload_n (pc := 20) (i := 2) dX2_readSizes_20 rfl rfl ?_
        refine a_bipush (pc := 21) (v := nI 6) dX2_readSizes_21 (by decide) ?_
        refine n_icmp_ge (pc := 23) (tgt := 52) dX2_readSizes_23 (by decide) (by omega) (by omega) (fun c23 => ?_) (fun c23 => ?_)
        · exact absurd c23 (by omega)
        · skip
          refine a_aload_n (pc := 26) (i := 0) dX2_readSizes_26 rfl rfl ?_
          refine a_getR (pc := 27) (ci := 2) (k := 0) (b := 8) dX2_readSizes_27 (lf_RX2_12 rfl) (by decide) rfl rfl (lt90 hn1 (shK_lt (show shK 7 = _ from rfl))) xx.1.2.2.2.1.1 ?_
          refine a_getR (pc := 30) (ci := 3) (k := 4) (b := 10) dX2_readSizes_30 (lf_RX2_134 rfl) (by decide) rfl rfl (lt90 hn1 (shK_lt (show shK 8 = _ from rfl))) (xx.1.2.2.1 8 (Or.inr (Or.inl rfl))).2.1 ?_
          refine a_iload_n (pc := 33) (i := 1) dX2_readSizes_33 rfl rfl ?_
          refine a_bipush (pc := 34) (v := nI 6) dX2_readSizes_34 (by decide) ?_
          refine n_imul (pc := 36) dX2_readSizes_36 ?_
          refine a_iload_n (pc := 37) (i := 2) dX2_readSizes_37 rfl rfl ?_
          refine n_iadd (pc := 38) dX2_readSizes_38 ?_
          refine a_aload_n (pc := 39) (i := 0) dX2_readSizes_39 rfl rfl ?_
          refine a_bipush (pc := 40) (v := nI 9) dX2_readSizes_40 (by decide) ?_
          refine a_wV1 (pc := 42) (as := [.int (nI 9)]) (b := 7) (ci := 2) (v := .int (nI (nbv n Y q (r)))) dX2_readSizes_42 (lc_RX2_89 rfl) ceX2_readNumber rfl (lt90 hn1 (shK_lt (show shK 7 = _ from rfl))) (sp_readNumber (d := d) xx rr (pNi_le ha _) (by omega)) rfl rfl (Nat.le_of_ble_eq_true rfl) (fun H2 f2 z => ?_)
          have x2 := xx.k z.1
          have hn2 := x2.1.1
          refine a_iast (pc := 45) (j := ((0 * 6) + r)) dX2_readSizes_45 rfl (lt90 hn2 (shK_lt (show shK 10 = _ from rfl))) rfl (by omega) ?_
          refine n_iinc (pc := 46) (k := 1) (ls' := [(0, .ref 7), (1, .int (nI 0)), (2, .int (nI (r + 1)))]) dX2_readSizes_46 rfl (by decide) (by decide) rfl ?_
          refine a_goto (pc := 49) (tgt := 9) dX2_readSizes_49 (by decide) ?_
          exact ih (r + 1) _ (by omega) (y.trans ⟨(z.1.1.mono (by intro b hb; simp at hb ⊢; omega)).sI (by simp), fun j hj => by rw [rd1 (by omega)]; exact z.1.2 j hj⟩) ⟨by rw [rd1 (by omega)]; exact z.2.1, by rw [rd1 (by omega)]; exact z.2.2.1, by rw [rd1 (by omega)]; exact z.2.2.2⟩ (fun k hk => by
              by_cases ek : k = r
              · rw [rd2 ⟨rfl, by omega⟩, ek]
              · rw [rd1 (by omega), (z.1.1.2.2 10 (by simp)).1]; exact hc k (by omega)) (by omega)
  refine a_iconst (pc := 0) (v := nI 0) dX2_readSizes_0 (by decide) ?_
  refine a_istore_n (pc := 1) (i := 1) (ls' := [(0, .ref 7), (1, .int (nI 0))]) dX2_readSizes_1 rfl (by decide) rfl ?_
  refine a_iload_n (pc := 2) (i := 1) dX2_readSizes_2 rfl rfl ?_
  refine a_iconst (pc := 3) (v := nI 1) dX2_readSizes_3 (by decide) ?_
  refine n_icmp_gt (pc := 4) (tgt := 58) dX2_readSizes_4 (by decide) (by omega) (by omega) (fun c4 => ?_) (fun c4 => ?_)
  · exact absurd c4 (by omega)
  · skip
    refine a_iconst (pc := 7) (v := nI 0) dX2_readSizes_7 (by decide) ?_
    refine a_istore_n (pc := 8) (i := 2) (ls' := [(0, .ref 7), (1, .int (nI 0)), (2, .int (nI 0))]) dX2_readSizes_8 rfl (by decide) rfl ?_
    exact LQ0 (hh + 1) 0 h (Nat.zero_le _) KS.refl r (fun k hk => absurd hk (by omega)) (by omega)
noncomputable def pPg3 (n : Nat) (Y : Nat → Int32) (q : PS) : PS := cif (wd 0 Y (pSp n Y q).1 (pW n Y (pSp n Y q)).1) (pW n Y (pSp n Y q)) (pF (pW n Y (pSp n Y q)) (-2) (pSp n Y q).1)
noncomputable def pPage (n : Nat) (Y : Nat → Int32) (q : PS) : PS := pSc n Y (pN n Y 6 (pN n Y 8 (pPg3 n Y q)))
noncomputable def pPw (n : Nat) (Y : Nat → Int32) (q : PS) : Nat := (pNn n Y (pPg3 n Y q)).2
noncomputable def pPh (n : Nat) (Y : Nat → Int32) (q : PS) : Nat := (pNn n Y (pN n Y 8 (pPg3 n Y q))).2
theorem pPg3_le {n : Nat} {Y : Nat → Int32} {q : PS} (h : q.1 ≤ n) : (pPg3 n Y q).1 ≤ n := by
  have h2 := (pW_le (Y := Y) (pSp_le (Y := Y) h).2).2
  unfold pPg3
  rcases Classical.em (wd 0 Y (pSp n Y q).1 (pW n Y (pSp n Y q)).1) with e | e
  · rw [cif_t e]; exact h2
  · rw [cif_f e, pF_1]; exact h2
theorem pPage_le {n : Nat} {Y : Nat → Int32} {q : PS} (h : q.1 ≤ n) : (pPage n Y q).1 ≤ n := pSc_le (pN_le (pN_le (pPg3_le h)))
theorem pPage_0 {n : Nat} {Y : Nat → Int32} {q : PS} (h : (pPage n Y q).2.1 = 0) : (1 ≤ pPw n Y q ∧ pPw n Y q ≤ 8) ∧ (1 ≤ pPh n Y q ∧ pPh n Y q ≤ 6) := by
  have h1 := pN_0 (pSc_0 h).1
  have h2 := pN_0 h1.1
  exact ⟨h2.2.2.2, h1.2.2.2⟩
set_option maxHeartbeats 1500000 in
set_option maxRecDepth 100000 in
theorem sp_readPage {d : Nat} {h : AH} {n : Nat} {Y : Nat → Int32} {q : PS} (x : TX h n Y) (r : R7 h q) (ha : q.1 ≤ n) : AC mX2_readPage (d + 5) 0 0 [.ref 7] h (Qu (fun h2 => KS [7, 8, 9, 10] h h2 ∧ R7 h2 (pPage n Y q) ∧ ((pPage n Y q).2.1 = 0 → CR h2 8 (newS (pPw n Y q) (pPh n Y q))))) := by
  refine AC.of (by decide) rfl (Nat.le_of_ble_eq_true rfl) (fun X => ?_)
  show AW X mX2_readPage (d + 5) 0 0 0 [(0, .ref 7)] [] h (Qu (fun h2 => KS [7, 8, 9, 10] h h2 ∧ R7 h2 (pPage n Y q) ∧ ((pPage n Y q).2.1 = 0 → CR h2 8 (newS (pPw n Y q) (pPh n Y q)))))
  have hn := x.1.1
  have hn4 := x.2.1
  obtain ⟨a, hae⟩ : ∃ a, a = (pSp n Y q).1 := ⟨_, rfl⟩
  have hle := (pSp_le (Y := Y) ha).2
  have TL : ∀ (H : AH), K7 h H → R7 H (pPg3 n Y q) → AW X mX2_readPage (d + 5) 0 0 30 [(0, .ref 7), (1, .int (nI a))] [] H (Qu (fun h2 => KS [7, 8, 9, 10] h h2 ∧ R7 h2 (pPage n Y q) ∧ ((pPage n Y q).2.1 = 0 → CR h2 8 (newS (pPw n Y q) (pPh n Y q))))) := by
    intro H y rr
    have xx := x.k y
    have hn1 := xx.1.1
    refine a_aload_n (pc := 30) (i := 0) dX2_readPage_30 rfl rfl ?_
    refine a_bipush (pc := 31) (v := nI 8) dX2_readPage_31 (by decide) ?_
    refine a_wV1 (pc := 33) (as := [.int (nI 8)]) (b := 7) (ci := 2) (v := .int (nI (pPw n Y q))) dX2_readPage_33 (lc_RX2_89 rfl) ceX2_readNumber rfl (lt90 hn1 (shK_lt (show shK 7 = _ from rfl))) (sp_readNumber (d := d + 1) xx rr (pPg3_le ha) (by omega)) rfl rfl (Nat.le_of_ble_eq_true rfl) (fun H2 f2 z2 => ?_)
    have x2 := xx.k z2.1
    have hn2 := x2.1.1
    refine a_istore_n (pc := 36) (i := 2) (ls' := [(0, .ref 7), (1, .int (nI a)), (2, .int (nI (pPw n Y q)))]) dX2_readPage_36 rfl (by decide) rfl ?_
    refine a_aload_n (pc := 37) (i := 0) dX2_readPage_37 rfl rfl ?_
    refine a_bipush (pc := 38) (v := nI 6) dX2_readPage_38 (by decide) ?_
    refine a_wV1 (pc := 40) (as := [.int (nI 6)]) (b := 7) (ci := 2) (v := .int (nI (pPh n Y q))) dX2_readPage_40 (lc_RX2_89 rfl) ceX2_readNumber rfl (lt90 hn2 (shK_lt (show shK 7 = _ from rfl))) (sp_readNumber (d := d + 1) x2 z2.2 (pN_le (pPg3_le ha)) (by omega)) rfl rfl (Nat.le_of_ble_eq_true rfl) (fun H3 f3 z3 => ?_)
    have x3 := x2.k z3.1
    have hn3 := x3.1.1
    refine a_istore_n (pc := 43) (i := 3) (ls' := [(0, .ref 7), (1, .int (nI a)), (2, .int (nI (pPw n Y q))), (3, .int (nI (pPh n Y q)))]) dX2_readPage_43 rfl (by decide) rfl ?_
    refine a_aload_n (pc := 44) (i := 0) dX2_readPage_44 rfl rfl ?_
    refine a_uV (pc := 45) (as := []) (b := 7) (ci := 2) dX2_readPage_45 (lc_RX2_93 rfl) ceX2_readSemicolon rfl (lt90 hn3 (shK_lt (show shK 7 = _ from rfl))) (sp_readSemicolon (d := d + 1) x3 z3.2 (pN_le (pN_le (pPg3_le ha)))) rfl rfl (Nat.le_of_ble_eq_true rfl) (fun h2 z => z.1.1.1) (fun H4 z4 => ?_)
    have x4 := x3.k z4.1
    have hn4b := x4.1.1
    have kk := ((y.trans z2.1).trans z3.1).trans z4.1
    have r4 : R7 H4 (pPage n Y q) := z4.2
    refine a_aload_n (pc := 48) (i := 0) dX2_readPage_48 rfl rfl ?_
    refine a_getI (pc := 49) (ci := 2) (k := 4) dX2_readPage_49 (lf_RX2_47 rfl) (by decide) rfl rfl (lt90 hn4b (shK_lt (show shK 7 = _ from rfl))) ?_
    refine a_top (show (.int (hI H4 7 4) : Value) = .int ((pPage n Y q).2.1) from congrArg Value.int r4.2.1) ?_
    refine a_if_ne (pc := 52) (tgt := 64) dX2_readPage_52 (by decide) (fun c52 => ?_) (fun c52 => ?_)
    · skip
      exact a_return (pc := 64) dX2_readPage_64 rfl (⟨rfl, kk.s (by simp), r4, fun z => absurd z c52⟩)
    · skip
      refine a_aload_n (pc := 55) (i := 0) dX2_readPage_55 rfl rfl ?_
      refine a_getR (pc := 56) (ci := 2) (k := 0) (b := 8) dX2_readPage_56 (lf_RX2_12 rfl) (by decide) rfl rfl (lt90 hn4b (shK_lt (show shK 7 = _ from rfl))) x4.1.2.2.2.1.1 ?_
      refine a_iload_n (pc := 59) (i := 2) dX2_readPage_59 rfl rfl ?_
      refine a_iload_n (pc := 60) (i := 3) dX2_readPage_60 rfl rfl ?_
      refine a_wVN0 (pc := 61) (as := [.int (nI (pPw n Y q)), .int (nI (pPh n Y q))]) (b := 8) (ci := 3) dX2_readPage_61 (lc_RX2_96 rfl) ceX3_startAnew rfl (lt90 hn4b (shK_lt (show shK 8 = _ from rfl))) (sp_startAnew (d := d + 3) x4.1 (k := 8) (Or.inr (Or.inl rfl)) (pPage_0 c52).2.2) rfl rfl (Nat.le_of_ble_eq_true rfl) (fun H5 f5 z5 => ?_)
      exact a_return (pc := 64) dX2_readPage_64 rfl (⟨rfl, (kk.s (by simp)).trans ⟨f5.mono (by intro b hb; simp at hb ⊢; omega), fun j hj => by rw [(f5.2.2 7 (by simp)).1]⟩, ⟨by rw [(f5.2.2 7 (by simp)).1]; exact r4.1, by rw [(f5.2.2 7 (by simp)).1]; exact r4.2.1, by rw [(f5.2.2 7 (by simp)).1]; exact r4.2.2⟩, fun _ => z5⟩)
  refine a_aload_n (pc := 0) (i := 0) dX2_readPage_0 rfl rfl ?_
  refine a_uV (pc := 1) (as := []) (b := 7) (ci := 2) dX2_readPage_1 (lc_RX2_73 rfl) ceX2_skipSpaces rfl (lt90 hn (shK_lt (show shK 7 = _ from rfl))) (sp_skipSpaces (d := d + 2) x r.1 ha) rfl rfl (Nat.le_of_ble_eq_true rfl) (fun h2 y => y.1.1) (fun H y => ?_)
  have x1 := x.at y
  have hn1 := x1.1.1
  have r1 : R7 H (pSp n Y q) := y.r r
  refine a_aload_n (pc := 4) (i := 0) dX2_readPage_4 rfl rfl ?_
  refine a_getI (pc := 5) (ci := 2) (k := 3) dX2_readPage_5 (lf_RX2_44 rfl) (by decide) rfl rfl (lt90 hn1 (shK_lt (show shK 7 = _ from rfl))) ?_
  refine a_top (show (.int (hI H 7 3) : Value) = .int (nI a) from congrArg Value.int (by rw [hae]; exact r1.1 : hI H 7 3 = nI a)) ?_
  refine a_istore_n (pc := 8) (i := 1) (ls' := [(0, .ref 7), (1, .int (nI a))]) dX2_readPage_8 rfl (by decide) rfl ?_
  refine a_aload_n (pc := 9) (i := 0) dX2_readPage_9 rfl rfl ?_
  refine a_uV (pc := 10) (as := []) (b := 7) (ci := 2) dX2_readPage_10 (lc_RX2_76 rfl) ceX2_skipWord rfl (lt90 hn1 (shK_lt (show shK 7 = _ from rfl))) (sp_skipWord (d := d + 2) x1 r1.1 hle) rfl rfl (Nat.le_of_ble_eq_true rfl) (fun h2 y => y.1.1) (fun H2 y2 => ?_)
  have x2 := x1.at y2
  have hn2 := x2.1.1
  have r2 : R7 H2 (pW n Y (pSp n Y q)) := y2.r r1
  have hw2 := pW_le (Y := Y) hle
  rw [← hae] at hw2
  have e3 : pPg3 n Y q = cif (wd 0 Y a (pW n Y (pSp n Y q)).1) (pW n Y (pSp n Y q)) (pF (pW n Y (pSp n Y q)) (-2) a) := by rw [hae]; rfl
  refine a_aload_n (pc := 13) (i := 0) dX2_readPage_13 rfl rfl ?_
  refine a_iload_n (pc := 14) (i := 1) dX2_readPage_14 rfl rfl ?_
  refine a_ldcS (pc := 15) (i := 0) (tx := "page") dX2_readPage_15 (by decide) (by decide) ?_
  refine a_vV1 (pc := 17) (as := [.int (nI a), .ref (1001 + 0)]) (b := 7) (ci := 2) (v := .int (bi (wd 0 Y a (pW n Y (pSp n Y q)).1))) (h' := H2) dX2_readPage_17 (lc_RX2_81 rfl) ceX2_isWord rfl (lt90 hn2 (shK_lt (show shK 7 = _ from rfl))) (sp_isWord (i := 0) x2 (by omega) r2.1 hw2.1 hw2.2) rfl rfl (Nat.le_of_ble_eq_true rfl) rfl ?_
  refine b_if_ne (pc := 20) (tgt := 30) dX2_readPage_20 (by decide) (fun c20 => ?_) (fun c20 => ?_)
  · skip
    exact TL H2 (y.k.trans y2.k) (by rw [e3, cif_t c20]; exact r2)
  · skip
    refine a_aload_n (pc := 23) (i := 0) dX2_readPage_23 rfl rfl ?_
    refine a_bipush (pc := 24) (v := (-2)) dX2_readPage_24 (by decide) ?_
    refine a_iload_n (pc := 26) (i := 1) dX2_readPage_26 rfl rfl ?_
    refine a_uV (pc := 27) (as := [.int ((-2)), .int (nI a)]) (b := 7) (ci := 2) dX2_readPage_27 (lc_RX2_85 rfl) ceX2_fail rfl (lt90 hn2 (shK_lt (show shK 7 = _ from rfl))) (sp_fail (d := d + 3) x2.1 r2) rfl rfl (Nat.le_of_ble_eq_true rfl) (fun h2 z => z.1.1.1) (fun H3 z => ?_)
    exact TL H3 ((y.k.trans y2.k).trans z.1) (by rw [e3, cif_f c20]; exact z.2)
/-- place, error, offset; which statements were seen; the draft -/
abbrev PQZ : Type := PS × (Nat → Nat) × SH
def flS (fl : Nat → Nat) (k : Nat) : Nat → Nat := fun i => if i = k then 1 else fl i
def FL7 (h : AH) (fl : Nat → Nat) : Prop := ∀ i, i < 4 → hI h 7 (6 + i) = nI (fl i)
def dSizes (s : SH) (f : Nat → Nat) : SH := (s.1, s.2.1, (fun y r => max 1 (min 9 (f (y * sH s + r)))), s.2.2.2)
def dLeast (s : SH) (v : Nat) : SH := withS s (max 1 (min 9 v))
noncomputable def pStA (n : Nat) (Y : Nat → Int32) (z : PQZ) : PQZ :=
  cif (wd 1 Y z.1.1 (pW n Y z.1).1 ∧ z.2.1 0 = 0) (pLi n Y (sW z.2.2) (sH z.2.2) (pW n Y z.1), flS z.2.1 0, dSide z.2.2 0 (lnv n Y (sW z.2.2) (pW n Y z.1)))
  (cif (wd 2 Y z.1.1 (pW n Y z.1).1 ∧ z.2.1 1 = 0) (pLi n Y (sW z.2.2) (sH z.2.2) (pW n Y z.1), flS z.2.1 1, dSide z.2.2 1 (lnv n Y (sW z.2.2) (pW n Y z.1)))
  (cif (wd 3 Y z.1.1 (pW n Y z.1).1 ∧ z.2.1 2 = 0) (pNi n Y (sH z.2.2 + sH z.2.2) (pW n Y z.1), flS z.2.1 2, dSizes z.2.2 (nbv n Y (pW n Y z.1)))
  (cif (wd 4 Y z.1.1 (pW n Y z.1).1 ∧ z.2.1 3 = 0) (pN n Y 9 (pW n Y z.1), flS z.2.1 3, dLeast z.2.2 (pNn n Y (pW n Y z.1)).2)
  (pF (pW n Y z.1) (-2) z.1.1, z.2.1, z.2.2))))
noncomputable def pSt (n : Nat) (Y : Nat → Int32) (z : PQZ) : PQZ := (pSc n Y (pStA n Y z).1, (pStA n Y z).2)
theorem GS_dSide {s : SH} (g : GS s) {x : Nat} {n w : Nat} {Y : Nat → Int32} {q : PS} : GS (dSide s x (lnv n Y w q)) := by
  obtain ⟨g1, g2, g3, g4, g5⟩ := g
  refine ⟨g1, g2, g3, fun y p => ?_, g5⟩
  show (if y = x then _ else _) = -1 ∨ ∃ n, n < 26 ∧ (if y = x then _ else _) = nI n
  by_cases e : y = x
  · rw [if_pos e]; exact ltv_r _
  · rw [if_neg e]; exact g4 y p
theorem GS_dSizes {s : SH} (g : GS s) {f : Nat → Nat} : GS (dSizes s f) := by
  obtain ⟨g1, g2, g3, g4, g5, g6⟩ := g
  refine ⟨g1, g2, g3, g4, fun y r => ?_, g6⟩
  show 1 ≤ max 1 (min 9 _) ∧ max 1 (min 9 _) ≤ 9
  omega
theorem GS_dLeast {s : SH} (g : GS s) {v : Nat} : GS (dLeast s v) := GS_withS g (by omega)
def KT (h h2 : AH) : Prop := Fr [7, 8, 9, 10] h h2 ∧ ∀ j, j < 3 → hI h2 7 j = hI h 7 j
theorem KT.trans {h h2 h3 : AH} (a : KT h h2) (b : KT h2 h3) : KT h h3 := ⟨a.1.trans b.1, fun j hj => (b.2 j hj).trans (a.2 j hj)⟩
theorem KT.refl {h : AH} : KT h h := ⟨Fr.refl, fun _ _ => rfl⟩
theorem KS.t {S : List Nat} {h h2 : AH} (a : KS S h h2) (hs : ∀ b, b ∈ S → b ∈ [7, 8, 9, 10]) : KT h h2 := ⟨a.1.mono hs, fun j hj => a.2 j (by omega)⟩
theorem K7.t {h h2 : AH} (a : K7 h h2) : KT h h2 := ⟨a.1.mono (by intro b hb; simp at hb ⊢; omega), fun j hj => a.2 j (by omega)⟩
theorem TX.t {h h2 : AH} {n : Nat} {Y : Nat → Int32} (x : TX h n Y) (a : KT h h2) : TX h2 n Y := ⟨x.1.fr a.1, x.2.1, (a.2 2 (by omega)).trans x.2.2.1, fun j hj => by rw [(a.1.2.2 12 (by simp)).1]; exact x.2.2.2 j hj⟩
theorem FL7.k {h h2 : AH} {fl : Nat → Nat} (x : FL7 h fl) (a : ∀ j, j < 3 ∨ 5 < j → hI h2 7 j = hI h 7 j) : FL7 h2 fl := fun i hi => (a (6 + i) (by omega)).trans (x i hi)
theorem FL7.set {h : AH} {fl : Nat → Nat} (x : FL7 h fl) {k : Nat} (hk : k < 4) : FL7 (sI h 7 (6 + k) (nI 1)) (flS fl k) := fun i hi => by
  show _ = nI (if i = k then 1 else fl i)
  by_cases e : i = k
  · rw [rd2 ⟨rfl, by omega⟩, if_pos e]
  · rw [rd1 (by omega), if_neg e]; exact x i hi
theorem CR_side {h h2 : AH} {s : SH} (r : CR h 8 s) (g : GS s) {x : Nat} {f : Nat → Nat → Int32} (e8 : hI h2 8 = hI h 8 ∧ hL h2 8 = hL h 8) (e10 : hI h2 10 = hI h 10) (e11 : hI h2 11 = hI h 11) (e9 : ∀ j, j < 96 → hI h2 9 j = if j / 48 = x ∧ j % 48 / 8 < sH s ∧ j % 8 < sW s then f (j % 48 / 8) (j % 8) else hI h 9 j) : CR h2 8 (dSide s x f) := by
  obtain ⟨r1, r2, r3, r4⟩ := r
  refine ⟨by rw [e8.1, e8.2]; exact r1, fun q hq hh => ?_, fun y k h1 h2 => by rw [show 8 + 2 = 10 from rfl, e10]; exact r3 y k h1 h2, fun j hj => by rw [show 8 + 3 = 11 from rfl, e11]; exact r4 j hj⟩
  have hh2 : q % 48 / 8 < sH s ∧ q % 8 < sW s := hh
  have gw := g.1
  rw [show 8 + 1 = 9 from rfl, e9 q hq]
  show _ = if q / 48 = x then f (qpl s q / sW s) (qpl s q % sW s) else sLt s (q / 48) (qpl s q)
  have ed : qpl s q / sW s = q % 48 / 8 := by unfold qpl; rw [Nat.mul_comm, Nat.mul_add_div (by omega), Nat.div_eq_of_lt hh2.2]; omega
  have em : qpl s q % sW s = q % 8 := by unfold qpl; rw [Nat.mul_comm, Nat.mul_add_mod, Nat.mod_eq_of_lt hh2.2]
  by_cases e : q / 48 = x
  · rw [if_pos ⟨e, hh2⟩, if_pos e, ed, em]
  · rw [if_neg (fun z => e z.1), if_neg e]; exact r2 q hq hh
theorem CR_sizes {h h2 : AH} {s : SH} (r : CR h 8 s) {f : Nat → Nat} (hf : ∀ k, k < sH s + sH s → 1 ≤ f k ∧ f k ≤ 9) (e8 : hI h2 8 = hI h 8 ∧ hL h2 8 = hL h 8) (e9 : hI h2 9 = hI h 9) (e11 : hI h2 11 = hI h 11) (e10 : ∀ r, r < sH s → hI h2 10 r = nI (f r) ∧ hI h2 10 (6 + r) = nI (f (sH s + r))) : CR h2 8 (dSizes s f) := by
  obtain ⟨r1, r2, r3, r4⟩ := r
  refine ⟨by rw [e8.1, e8.2]; exact r1, fun q hq hh => by rw [show 8 + 1 = 9 from rfl, e9]; exact r2 q hq hh, fun y k h1 h3 => ?_, fun j hj => by rw [show 8 + 3 = 11 from rfl, e11]; exact r4 j hj⟩
  have h3 : k < sH s := h3
  show hI h2 10 (6 * y + k) = nI (max 1 (min 9 (f (y * sH s + k))))
  rcases (by omega : y = 0 ∨ y = 1) with rfl | rfl
  · have := hf k (by omega)
    rw [show 6 * 0 + k = k by omega, show 0 * sH s + k = k by omega, (e10 k h3).1, show max 1 (min 9 (f k)) = f k by omega]
  · have := hf (sH s + k) (by omega)
    rw [show 6 * 1 + k = 6 + k by omega, show 1 * sH s + k = sH s + k by omega, (e10 k h3).2, show max 1 (min 9 (f (sH s + k))) = f (sH s + k) by omega]
theorem CR_least {h : AH} {s : SH} (r : CR h 8 s) {v : Nat} (hv : 1 ≤ v ∧ v ≤ 9) : CR (sI h 8 2 (nI v)) 8 (dLeast s v) := by
  unfold dLeast
  rw [show max 1 (min 9 v) = v by omega]
  refine CR_of ?_ ?_ ?_ ?_ ?_ ?_ ?_ ?_ ?_ ?_
  · simp (disch := omega) only [rd1, rd2, rd3, rd4, rd5, rd6, rd7, hI_sL, hL_sI, hL_rI]; exact r.1.1
  · simp (disch := omega) only [rd1, rd2, rd3, rd4, rd5, rd6, rd7, hI_sL, hL_sI, hL_rI]; exact r.1.2.1
  · simp (disch := omega) only [rd1, rd2, rd3, rd4, rd5, rd6, rd7, hI_sL, hL_sI, hL_rI]; rfl
  · simp (disch := omega) only [rd1, rd2, rd3, rd4, rd5, rd6, rd7, hI_sL, hL_sI, hL_rI]; exact r.1.2.2.2.1
  · simp (disch := omega) only [rd1, rd2, rd3, rd4, rd5, rd6, rd7, hI_sL, hL_sI, hL_rI]; exact r.1.2.2.2.2.1
  · simp (disch := omega) only [rd1, rd2, rd3, rd4, rd5, rd6, rd7, hI_sL, hL_sI, hL_rI]; exact r.1.2.2.2.2.2.1
  · simp (disch := omega) only [rd1, rd2, rd3, rd4, rd5, rd6, rd7, hI_sL, hL_sI, hL_rI]; exact r.1.2.2.2.2.2.2
  · intro q h1 h2; simp (disch := omega) only [rd1, rd2, rd3, rd4, rd5, rd6, rd7, hI_sL, hL_sI, hL_rI]; exact r.2.1 q h1 h2
  · intro x y h1 h2; simp (disch := omega) only [rd1, rd2, rd3, rd4, rd5, rd6, rd7, hI_sL, hL_sI, hL_rI]; exact r.2.2.1 x y h1 h2
  · intro j h1; simp (disch := omega) only [rd1, rd2, rd3, rd4, rd5, rd6, rd7, hI_sL, hL_sI, hL_rI]; exact r.2.2.2 j h1
theorem R7.sI {h : AH} {q : PS} (r : R7 h q) {a j : Nat} {x : Int32} (e : a ≠ 7 ∨ 5 < j) : R7 (sI h a j x) q := ⟨by rw [rd1 (by omega)]; exact r.1, by rw [rd1 (by omega)]; exact r.2.1, by rw [rd1 (by omega)]; exact r.2.2⟩
theorem pStA_le {n : Nat} {Y : Nat → Int32} {z : PQZ} (h : z.1.1 ≤ n) : (pStA n Y z).1.1 ≤ n := by
  have hw := (pW_le (Y := Y) h).2
  unfold pStA
  rcases Classical.em (wd 1 Y z.1.1 (pW n Y z.1).1 ∧ z.2.1 0 = 0) with e | e
  · rw [cif_t e]; exact pLi_le hw _
  · rw [cif_f e]
    rcases Classical.em (wd 2 Y z.1.1 (pW n Y z.1).1 ∧ z.2.1 1 = 0) with e | e
    · rw [cif_t e]; exact pLi_le hw _
    · rw [cif_f e]
      rcases Classical.em (wd 3 Y z.1.1 (pW n Y z.1).1 ∧ z.2.1 2 = 0) with e | e
      · rw [cif_t e]; exact pNi_le hw _
      · rw [cif_f e]
        rcases Classical.em (wd 4 Y z.1.1 (pW n Y z.1).1 ∧ z.2.1 3 = 0) with e | e
        · rw [cif_t e]; exact pN_le hw
        · rw [cif_f e]; show (pF _ _ _).1 ≤ n; rw [pF_1]; exact hw
set_option maxHeartbeats 1500000 in
set_option maxRecDepth 100000 in
theorem sp_readStatement {d : Nat} {h : AH} {n : Nat} {Y : Nat → Int32} {z : PQZ} (x : TX h n Y) (r : R7 h z.1) (ha : z.1.1 ≤ n) (k7 : FL7 h z.2.1) (hf1 : ∀ i, z.2.1 i ≤ 1) (c8 : CR h 8 z.2.2) (g8 : GS z.2.2) : AC mX2_readStatement (d + 5) 0 0 [.ref 7] h (Qu (fun h2 => KT h h2 ∧ R7 h2 (pSt n Y z).1 ∧ ((pSt n Y z).1.2.1 = 0 → FL7 h2 (pSt n Y z).2.1 ∧ CR h2 8 (pSt n Y z).2.2))) := by
  refine AC.of (by decide) rfl (Nat.le_of_ble_eq_true rfl) (fun X => ?_)
  show AW X mX2_readStatement (d + 5) 0 0 0 [(0, .ref 7)] [] h (Qu (fun h2 => KT h h2 ∧ R7 h2 (pSt n Y z).1 ∧ ((pSt n Y z).1.2.1 = 0 → FL7 h2 (pSt n Y z).2.1 ∧ CR h2 8 (pSt n Y z).2.2)))
  have hn := x.1.1
  have hn4 := x.2.1
  obtain ⟨a, hae⟩ : ∃ a, a = z.1.1 := ⟨_, rfl⟩
  obtain ⟨s, hse⟩ : ∃ s, s = z.2.2 := ⟨_, rfl⟩
  obtain ⟨fl, hfe⟩ : ∃ fl, fl = z.2.1 := ⟨_, rfl⟩
  obtain ⟨w, hwe⟩ : ∃ w, w = pW n Y z.1 := ⟨_, rfl⟩
  have hw := pW_le (Y := Y) ha
  rw [← hae, ← hwe] at hw
  have eA : pStA n Y z = cif (wd 1 Y a w.1 ∧ fl 0 = 0) (pLi n Y (sW s) (sH s) w, flS fl 0, dSide s 0 (lnv n Y (sW s) w)) (cif (wd 2 Y a w.1 ∧ fl 1 = 0) (pLi n Y (sW s) (sH s) w, flS fl 1, dSide s 1 (lnv n Y (sW s) w)) (cif (wd 3 Y a w.1 ∧ fl 2 = 0) (pNi n Y (sH s + sH s) w, flS fl 2, dSizes s (nbv n Y w)) (cif (wd 4 Y a w.1 ∧ fl 3 = 0) (pN n Y 9 w, flS fl 3, dLeast s (pNn n Y w).2) (pF w (-2) a, fl, s)))) := by rw [hae, hse, hfe, hwe]; rfl
  rw [← hse] at c8 g8
  rw [← hfe] at k7 hf1
  have T143 : ∀ (H : AH), KT h H → R7 H (pStA n Y z).1 → ((pStA n Y z).1.2.1 = 0 → FL7 H (pStA n Y z).2.1 ∧ CR H 8 (pStA n Y z).2.2) → AW X mX2_readStatement (d + 5) 0 0 143 [(0, .ref 7), (1, .int (nI a))] [] H (Qu (fun h2 => KT h h2 ∧ R7 h2 (pSt n Y z).1 ∧ ((pSt n Y z).1.2.1 = 0 → FL7 h2 (pSt n Y z).2.1 ∧ CR h2 8 (pSt n Y z).2.2))) := by
    intro H y rr hz
    have xx := x.t y
    have hn1 := xx.1.1
    refine a_aload_n (pc := 143) (i := 0) dX2_readStatement_143 rfl rfl ?_
    refine a_uV (pc := 144) (as := []) (b := 7) (ci := 2) dX2_readStatement_144 (lc_RX2_93 rfl) ceX2_readSemicolon rfl (lt90 hn1 (shK_lt (show shK 7 = _ from rfl))) (sp_readSemicolon (d := d + 1) xx rr (pStA_le ha)) rfl rfl (Nat.le_of_ble_eq_true rfl) (fun h2 z => z.1.1.1) (fun H2 z2 => ?_)
    exact a_return (pc := 147) dX2_readStatement_147 rfl (⟨rfl, y.trans z2.1.t, z2.2, fun z0 => by
      obtain ⟨u1, u2⟩ := hz (pSc_0 z0).1
      exact ⟨u1.k z2.1.2, u2.fr z2.1.1 (fun a h1 h3 => by simp; omega)⟩⟩)
  refine a_aload_n (pc := 0) (i := 0) dX2_readStatement_0 rfl rfl ?_
  refine a_getI (pc := 1) (ci := 2) (k := 3) dX2_readStatement_1 (lf_RX2_44 rfl) (by decide) rfl rfl (lt90 hn (shK_lt (show shK 7 = _ from rfl))) ?_
  refine a_top (show (.int (hI h 7 3) : Value) = .int (nI a) from congrArg Value.int (by rw [hae]; exact r.1 : hI h 7 3 = nI a)) ?_
  refine a_istore_n (pc := 4) (i := 1) (ls' := [(0, .ref 7), (1, .int (nI a))]) dX2_readStatement_4 rfl (by decide) rfl ?_
  refine a_aload_n (pc := 5) (i := 0) dX2_readStatement_5 rfl rfl ?_
  refine a_uV (pc := 6) (as := []) (b := 7) (ci := 2) dX2_readStatement_6 (lc_RX2_76 rfl) ceX2_skipWord rfl (lt90 hn (shK_lt (show shK 7 = _ from rfl))) (sp_skipWord (d := d + 2) x r.1 ha) rfl rfl (Nat.le_of_ble_eq_true rfl) (fun h2 y => y.1.1) (fun H y => ?_)
  have x1 := x.at y
  have hn1 := x1.1.1
  have r1 : R7 H w := by rw [hwe]; exact y.r r
  have kt := y.k.t
  have cc : CR H 8 s := c8.fr y.1 (fun a h1 h3 => by simp; omega)
  have kf : FL7 H fl := k7.k (fun j hj => y.2.2 j (by omega))
  have T136 : ¬ (wd 1 Y a w.1 ∧ fl 0 = 0) → ¬ (wd 2 Y a w.1 ∧ fl 1 = 0) → ¬ (wd 3 Y a w.1 ∧ fl 2 = 0) → ¬ (wd 4 Y a w.1 ∧ fl 3 = 0) → AW X mX2_readStatement (d + 5) 0 0 136 [(0, .ref 7), (1, .int (nI a))] [] H (Qu (fun h2 => KT h h2 ∧ R7 h2 (pSt n Y z).1 ∧ ((pSt n Y z).1.2.1 = 0 → FL7 h2 (pSt n Y z).2.1 ∧ CR h2 8 (pSt n Y z).2.2))) := by
    intro e0 e1 e2 e3
    have ee : pStA n Y z = (pF w (-2) a, fl, s) := (((eA.trans (cif_f e0)).trans (cif_f e1)).trans (cif_f e2)).trans (cif_f e3)
    refine a_aload_n (pc := 136) (i := 0) dX2_readStatement_136 rfl rfl ?_
    refine a_bipush (pc := 137) (v := (-2)) dX2_readStatement_137 (by decide) ?_
    refine a_iload_n (pc := 139) (i := 1) dX2_readStatement_139 rfl rfl ?_
    refine a_uV (pc := 140) (as := [.int ((-2)), .int (nI a)]) (b := 7) (ci := 2) dX2_readStatement_140 (lc_RX2_85 rfl) ceX2_fail rfl (lt90 hn1 (shK_lt (show shK 7 = _ from rfl))) (sp_fail (d := d + 3) x1.1 r1) rfl rfl (Nat.le_of_ble_eq_true rfl) (fun h2 z => z.1.1.1) (fun H3 v => ?_)
    exact T143 H3 (kt.trans v.1.t) (by rw [ee]; exact v.2) (fun z0 => absurd (by rw [ee] at z0; exact z0) (pF_ne (by decide)))
  have T98 : ¬ (wd 1 Y a w.1 ∧ fl 0 = 0) → ¬ (wd 2 Y a w.1 ∧ fl 1 = 0) → ¬ (wd 3 Y a w.1 ∧ fl 2 = 0) → AW X mX2_readStatement (d + 5) 0 0 98 [(0, .ref 7), (1, .int (nI a))] [] H (Qu (fun h2 => KT h h2 ∧ R7 h2 (pSt n Y z).1 ∧ ((pSt n Y z).1.2.1 = 0 → FL7 h2 (pSt n Y z).2.1 ∧ CR h2 8 (pSt n Y z).2.2))) := by
    intro e0 e1 e2
    refine a_aload_n (pc := 98) (i := 0) dX2_readStatement_98 rfl rfl ?_
    refine a_iload_n (pc := 99) (i := 1) dX2_readStatement_99 rfl rfl ?_
    refine a_ldcS (pc := 100) (i := 4) (tx := "least") dX2_readStatement_100 (by decide) (by decide) ?_
    refine a_vV1 (pc := 102) (as := [.int (nI a), .ref (1001 + 4)]) (b := 7) (ci := 2) (v := .int (bi (wd 4 Y a w.1))) (h' := H) dX2_readStatement_102 (lc_RX2_81 rfl) ceX2_isWord rfl (lt90 hn1 (shK_lt (show shK 7 = _ from rfl))) (sp_isWord (i := 4) x1 (by omega) r1.1 hw.1 hw.2) rfl rfl (Nat.le_of_ble_eq_true rfl) rfl ?_
    refine b_if_eq (pc := 105) (tgt := 136) dX2_readStatement_105 (by decide) (fun cw => ?_) (fun cw => ?_)
    · skip
      exact T136 e0 e1 e2 (fun z => cw z.1)
    · skip
      refine a_aload_n (pc := 108) (i := 0) dX2_readStatement_108 rfl rfl ?_
      refine a_getI (pc := 109) (ci := 2) (k := 9) dX2_readStatement_109 (lf_RX2_60 rfl) (by decide) rfl rfl (lt90 hn1 (shK_lt (show shK 7 = _ from rfl))) ?_
      refine a_top (show (.int (hI H 7 9) : Value) = .int (nI (fl 3)) from congrArg Value.int (kf 3 (by omega))) ?_
      have hfi := hf1 3
      refine n_if_ne (pc := 112) (tgt := 136) dX2_readStatement_112 (by decide) (by omega) (fun cf => ?_) (fun cf => ?_)
      · skip
        exact T136 e0 e1 e2 (fun z => by have := z.2; omega)
      · skip
        refine a_aload_n (pc := 115) (i := 0) dX2_readStatement_115 rfl rfl ?_
        refine a_iconst (pc := 116) (v := nI 1) dX2_readStatement_116 (by decide) ?_
        refine a_putI (pc := 117) (ci := 2) (k := 9) dX2_readStatement_117 (lf_RX2_60 rfl) (by decide) (Or.inr ⟨rfl, (by decide)⟩) rfl (lt90 hn1 (shK_lt (show shK 7 = _ from rfl))) rfl ?_
        obtain ⟨H1, hH1⟩ : ∃ Hx, Hx = sI H 7 9 (nI 1) := ⟨_, rfl⟩
        have f1 : Fr [7] H H1 := by rw [hH1]; exact Fr.refl.sI (by simp)
        have q1 : ∀ j, j ≠ 9 → hI H1 7 j = hI H 7 j := fun j hj => by rw [hH1]; exact rd1 (by omega)
        have kt1 : KT H H1 := ⟨f1.mono (by intro b hb; simp at hb ⊢; omega), fun j hj => q1 j (by omega)⟩
        have rr1 : R7 H1 w := by rw [hH1]; exact r1.sI (Or.inr (by omega))
        have xf := x1.t kt1
        have hnf := xf.1.1
        have cf1 := cc.fr f1 (fun a h1 h3 => by simp; omega)
        have kf1 : FL7 H1 (flS fl 3) := by rw [hH1]; exact kf.set (k := 3) (by omega)
        refine a_heap (h' := H1) hH1.symm ?_
        have ee : pStA n Y z = (pN n Y 9 w, flS fl 3, dLeast s (pNn n Y w).2) := (((eA.trans (cif_f e0)).trans (cif_f e1)).trans (cif_f e2)).trans (cif_t ⟨cw, cf⟩)
        refine a_aload_n (pc := 120) (i := 0) dX2_readStatement_120 rfl rfl ?_
        refine a_getR (pc := 121) (ci := 2) (k := 0) (b := 8) dX2_readStatement_121 (lf_RX2_12 rfl) (by decide) rfl rfl (lt90 hnf (shK_lt (show shK 7 = _ from rfl))) xf.1.2.2.2.1.1 ?_
        refine a_aload_n (pc := 124) (i := 0) dX2_readStatement_124 rfl rfl ?_
        refine a_bipush (pc := 125) (v := nI 9) dX2_readStatement_125 (by decide) ?_
        refine a_wV1 (pc := 127) (as := [.int (nI 9)]) (b := 7) (ci := 2) (v := .int (nI ((pNn n Y w).2))) dX2_readStatement_127 (lc_RX2_89 rfl) ceX2_readNumber rfl (lt90 hnf (shK_lt (show shK 7 = _ from rfl))) (sp_readNumber (d := d + 1) xf rr1 hw.2 (by omega)) rfl rfl (Nat.le_of_ble_eq_true rfl) (fun H3 f3 v => ?_)
        have hn3 := (xf.k v.1).1.1
        refine a_putI (pc := 130) (ci := 3) (k := 2) dX2_readStatement_130 (lf_RX2_114 rfl) (by decide) (Or.inl rfl) rfl (lt90 hn3 (shK_lt (show shK 8 = _ from rfl))) rfl ?_
        refine a_goto (pc := 133) (tgt := 143) dX2_readStatement_133 (by decide) ?_
        have ck : KT H1 (sI H3 8 2 (nI ((pNn n Y w).2))) := ⟨(v.1.t.1).sI (by simp), fun j hj => by rw [rd1 (by omega)]; exact v.1.2 j (by omega)⟩
        exact T143 _ ((kt.trans kt1).trans ck) (by rw [ee]; exact v.2.sI (Or.inl (by omega))) (fun z0 => by
          rw [ee] at z0 ⊢
          exact ⟨kf1.k (fun j hj => by rw [rd1 (by omega)]; exact v.1.2 j hj), CR_least (cf1.fr v.1.1 (fun a h1 h3 => by simp; omega)) (pN_0 z0).2.2.2⟩)
  have T69 : ¬ (wd 1 Y a w.1 ∧ fl 0 = 0) → ¬ (wd 2 Y a w.1 ∧ fl 1 = 0) → AW X mX2_readStatement (d + 5) 0 0 69 [(0, .ref 7), (1, .int (nI a))] [] H (Qu (fun h2 => KT h h2 ∧ R7 h2 (pSt n Y z).1 ∧ ((pSt n Y z).1.2.1 = 0 → FL7 h2 (pSt n Y z).2.1 ∧ CR h2 8 (pSt n Y z).2.2))) := by
    intro e0 e1
    refine a_aload_n (pc := 69) (i := 0) dX2_readStatement_69 rfl rfl ?_
    refine a_iload_n (pc := 70) (i := 1) dX2_readStatement_70 rfl rfl ?_
    refine a_ldcS (pc := 71) (i := 3) (tx := "sizes") dX2_readStatement_71 (by decide) (by decide) ?_
    refine a_vV1 (pc := 73) (as := [.int (nI a), .ref (1001 + 3)]) (b := 7) (ci := 2) (v := .int (bi (wd 3 Y a w.1))) (h' := H) dX2_readStatement_73 (lc_RX2_81 rfl) ceX2_isWord rfl (lt90 hn1 (shK_lt (show shK 7 = _ from rfl))) (sp_isWord (i := 3) x1 (by omega) r1.1 hw.1 hw.2) rfl rfl (Nat.le_of_ble_eq_true rfl) rfl ?_
    refine b_if_eq (pc := 76) (tgt := 98) dX2_readStatement_76 (by decide) (fun cw => ?_) (fun cw => ?_)
    · skip
      exact T98 e0 e1 (fun z => cw z.1)
    · skip
      refine a_aload_n (pc := 79) (i := 0) dX2_readStatement_79 rfl rfl ?_
      refine a_getI (pc := 80) (ci := 2) (k := 8) dX2_readStatement_80 (lf_RX2_57 rfl) (by decide) rfl rfl (lt90 hn1 (shK_lt (show shK 7 = _ from rfl))) ?_
      refine a_top (show (.int (hI H 7 8) : Value) = .int (nI (fl 2)) from congrArg Value.int (kf 2 (by omega))) ?_
      have hfi := hf1 2
      refine n_if_ne (pc := 83) (tgt := 98) dX2_readStatement_83 (by decide) (by omega) (fun cf => ?_) (fun cf => ?_)
      · skip
        exact T98 e0 e1 (fun z => by have := z.2; omega)
      · skip
        refine a_aload_n (pc := 86) (i := 0) dX2_readStatement_86 rfl rfl ?_
        refine a_iconst (pc := 87) (v := nI 1) dX2_readStatement_87 (by decide) ?_
        refine a_putI (pc := 88) (ci := 2) (k := 8) dX2_readStatement_88 (lf_RX2_57 rfl) (by decide) (Or.inr ⟨rfl, (by decide)⟩) rfl (lt90 hn1 (shK_lt (show shK 7 = _ from rfl))) rfl ?_
        obtain ⟨H1, hH1⟩ : ∃ Hx, Hx = sI H 7 8 (nI 1) := ⟨_, rfl⟩
        have f1 : Fr [7] H H1 := by rw [hH1]; exact Fr.refl.sI (by simp)
        have q1 : ∀ j, j ≠ 8 → hI H1 7 j = hI H 7 j := fun j hj => by rw [hH1]; exact rd1 (by omega)
        have kt1 : KT H H1 := ⟨f1.mono (by intro b hb; simp at hb ⊢; omega), fun j hj => q1 j (by omega)⟩
        have rr1 : R7 H1 w := by rw [hH1]; exact r1.sI (Or.inr (by omega))
        have xf := x1.t kt1
        have hnf := xf.1.1
        have cf1 := cc.fr f1 (fun a h1 h3 => by simp; omega)
        have kf1 : FL7 H1 (flS fl 2) := by rw [hH1]; exact kf.set (k := 2) (by omega)
        refine a_heap (h' := H1) hH1.symm ?_
        have ee : pStA n Y z = (pNi n Y (sH s + sH s) w, flS fl 2, dSizes s (nbv n Y w)) := ((eA.trans (cif_f e0)).trans (cif_f e1)).trans (cif_t ⟨cw, cf⟩)
        refine a_aload_n (pc := 91) (i := 0) dX2_readStatement_91 rfl rfl ?_
        refine a_uV (pc := 92) (as := []) (b := 7) (ci := 2) dX2_readStatement_92 (lc_RX2_109 rfl) ceX2_readSizes rfl (lt90 hnf (shK_lt (show shK 7 = _ from rfl))) (sp_readSizes (d := d) xf rr1 hw.2 cf1.1.2.1 g8.2.1.2) rfl rfl (Nat.le_of_ble_eq_true rfl) (fun h2 z => z.1.1.1) (fun H3 v => ?_)
        refine a_goto (pc := 95) (tgt := 143) dX2_readStatement_95 (by decide) ?_
        exact T143 H3 ((kt.trans kt1).trans (v.1.t (by intro b hb; simp at hb ⊢; omega))) (by rw [ee]; exact v.2.1) (fun z0 => by
          rw [ee] at z0 ⊢
          exact ⟨kf1.k v.1.2, CR_sizes cf1 (fun k hk => nbv_r z0 hk) (v.1.1.2.2 8 (by simp)) (v.1.1.2.2 9 (by simp)).1 (v.1.1.2.2 11 (by simp)).1 v.2.2⟩)
  have T39 : ¬ (wd 1 Y a w.1 ∧ fl 0 = 0) → AW X mX2_readStatement (d + 5) 0 0 39 [(0, .ref 7), (1, .int (nI a))] [] H (Qu (fun h2 => KT h h2 ∧ R7 h2 (pSt n Y z).1 ∧ ((pSt n Y z).1.2.1 = 0 → FL7 h2 (pSt n Y z).2.1 ∧ CR h2 8 (pSt n Y z).2.2))) := by
    intro e0
    refine a_aload_n (pc := 39) (i := 0) dX2_readStatement_39 rfl rfl ?_
    refine a_iload_n (pc := 40) (i := 1) dX2_readStatement_40 rfl rfl ?_
    refine a_ldcS (pc := 41) (i := 2) (tx := "back") dX2_readStatement_41 (by decide) (by decide) ?_
    refine a_vV1 (pc := 43) (as := [.int (nI a), .ref (1001 + 2)]) (b := 7) (ci := 2) (v := .int (bi (wd 2 Y a w.1))) (h' := H) dX2_readStatement_43 (lc_RX2_81 rfl) ceX2_isWord rfl (lt90 hn1 (shK_lt (show shK 7 = _ from rfl))) (sp_isWord (i := 2) x1 (by omega) r1.1 hw.1 hw.2) rfl rfl (Nat.le_of_ble_eq_true rfl) rfl ?_
    refine b_if_eq (pc := 46) (tgt := 69) dX2_readStatement_46 (by decide) (fun cw => ?_) (fun cw => ?_)
    · skip
      exact T69 e0 (fun z => cw z.1)
    · skip
      refine a_aload_n (pc := 49) (i := 0) dX2_readStatement_49 rfl rfl ?_
      refine a_getI (pc := 50) (ci := 2) (k := 7) dX2_readStatement_50 (lf_RX2_54 rfl) (by decide) rfl rfl (lt90 hn1 (shK_lt (show shK 7 = _ from rfl))) ?_
      refine a_top (show (.int (hI H 7 7) : Value) = .int (nI (fl 1)) from congrArg Value.int (kf 1 (by omega))) ?_
      have hfi := hf1 1
      refine n_if_ne (pc := 53) (tgt := 69) dX2_readStatement_53 (by decide) (by omega) (fun cf => ?_) (fun cf => ?_)
      · skip
        exact T69 e0 (fun z => by have := z.2; omega)
      · skip
        refine a_aload_n (pc := 56) (i := 0) dX2_readStatement_56 rfl rfl ?_
        refine a_iconst (pc := 57) (v := nI 1) dX2_readStatement_57 (by decide) ?_
        refine a_putI (pc := 58) (ci := 2) (k := 7) dX2_readStatement_58 (lf_RX2_54 rfl) (by decide) (Or.inr ⟨rfl, (by decide)⟩) rfl (lt90 hn1 (shK_lt (show shK 7 = _ from rfl))) rfl ?_
        obtain ⟨H1, hH1⟩ : ∃ Hx, Hx = sI H 7 7 (nI 1) := ⟨_, rfl⟩
        have f1 : Fr [7] H H1 := by rw [hH1]; exact Fr.refl.sI (by simp)
        have q1 : ∀ j, j ≠ 7 → hI H1 7 j = hI H 7 j := fun j hj => by rw [hH1]; exact rd1 (by omega)
        have kt1 : KT H H1 := ⟨f1.mono (by intro b hb; simp at hb ⊢; omega), fun j hj => q1 j (by omega)⟩
        have rr1 : R7 H1 w := by rw [hH1]; exact r1.sI (Or.inr (by omega))
        have xf := x1.t kt1
        have hnf := xf.1.1
        have cf1 := cc.fr f1 (fun a h1 h3 => by simp; omega)
        have kf1 : FL7 H1 (flS fl 1) := by rw [hH1]; exact kf.set (k := 1) (by omega)
        refine a_heap (h' := H1) hH1.symm ?_
        have ee : pStA n Y z = (pLi n Y (sW s) (sH s) w, flS fl 1, dSide s 1 (lnv n Y (sW s) w)) := (eA.trans (cif_f e0)).trans (cif_t ⟨cw, cf⟩)
        refine a_aload_n (pc := 61) (i := 0) dX2_readStatement_61 rfl rfl ?_
        refine a_iconst (pc := 62) (v := nI 1) dX2_readStatement_62 (by decide) ?_
        refine a_uV (pc := 63) (as := [.int (nI 1)]) (b := 7) (ci := 2) dX2_readStatement_63 (lc_RX2_101 rfl) ceX2_readLines rfl (lt90 hnf (shK_lt (show shK 7 = _ from rfl))) (sp_readLines (d := d) (sd := 1) xf rr1 hw.2 cf1.1.1 cf1.1.2.1 g8.1 g8.2.1.2 (by omega)) rfl rfl (Nat.le_of_ble_eq_true rfl) (fun h2 z => z.1.1.1) (fun H3 v => ?_)
        refine a_goto (pc := 66) (tgt := 143) dX2_readStatement_66 (by decide) ?_
        exact T143 H3 ((kt.trans kt1).trans (v.1.t (by intro b hb; simp at hb ⊢; omega))) (by rw [ee]; exact v.2.1) (fun z0 => by
          rw [ee] at z0 ⊢
          exact ⟨kf1.k v.1.2, CR_side cf1 g8 (v.1.1.2.2 8 (by simp)) (v.1.1.2.2 10 (by simp)).1 (v.1.1.2.2 11 (by simp)).1 (v.2.2 z0)⟩)
  refine a_aload_n (pc := 9) (i := 0) dX2_readStatement_9 rfl rfl ?_
  refine a_iload_n (pc := 10) (i := 1) dX2_readStatement_10 rfl rfl ?_
  refine a_ldcS (pc := 11) (i := 1) (tx := "front") dX2_readStatement_11 (by decide) (by decide) ?_
  refine a_vV1 (pc := 13) (as := [.int (nI a), .ref (1001 + 1)]) (b := 7) (ci := 2) (v := .int (bi (wd 1 Y a w.1))) (h' := H) dX2_readStatement_13 (lc_RX2_81 rfl) ceX2_isWord rfl (lt90 hn1 (shK_lt (show shK 7 = _ from rfl))) (sp_isWord (i := 1) x1 (by omega) r1.1 hw.1 hw.2) rfl rfl (Nat.le_of_ble_eq_true rfl) rfl ?_
  refine b_if_eq (pc := 16) (tgt := 39) dX2_readStatement_16 (by decide) (fun cw => ?_) (fun cw => ?_)
  · skip
    exact T39  (fun z => cw z.1)
  · skip
    refine a_aload_n (pc := 19) (i := 0) dX2_readStatement_19 rfl rfl ?_
    refine a_getI (pc := 20) (ci := 2) (k := 6) dX2_readStatement_20 (lf_RX2_50 rfl) (by decide) rfl rfl (lt90 hn1 (shK_lt (show shK 7 = _ from rfl))) ?_
    refine a_top (show (.int (hI H 7 6) : Value) = .int (nI (fl 0)) from congrArg Value.int (kf 0 (by omega))) ?_
    have hfi := hf1 0
    refine n_if_ne (pc := 23) (tgt := 39) dX2_readStatement_23 (by decide) (by omega) (fun cf => ?_) (fun cf => ?_)
    · skip
      exact T39  (fun z => by have := z.2; omega)
    · skip
      refine a_aload_n (pc := 26) (i := 0) dX2_readStatement_26 rfl rfl ?_
      refine a_iconst (pc := 27) (v := nI 1) dX2_readStatement_27 (by decide) ?_
      refine a_putI (pc := 28) (ci := 2) (k := 6) dX2_readStatement_28 (lf_RX2_50 rfl) (by decide) (Or.inr ⟨rfl, (by decide)⟩) rfl (lt90 hn1 (shK_lt (show shK 7 = _ from rfl))) rfl ?_
      obtain ⟨H1, hH1⟩ : ∃ Hx, Hx = sI H 7 6 (nI 1) := ⟨_, rfl⟩
      have f1 : Fr [7] H H1 := by rw [hH1]; exact Fr.refl.sI (by simp)
      have q1 : ∀ j, j ≠ 6 → hI H1 7 j = hI H 7 j := fun j hj => by rw [hH1]; exact rd1 (by omega)
      have kt1 : KT H H1 := ⟨f1.mono (by intro b hb; simp at hb ⊢; omega), fun j hj => q1 j (by omega)⟩
      have rr1 : R7 H1 w := by rw [hH1]; exact r1.sI (Or.inr (by omega))
      have xf := x1.t kt1
      have hnf := xf.1.1
      have cf1 := cc.fr f1 (fun a h1 h3 => by simp; omega)
      have kf1 : FL7 H1 (flS fl 0) := by rw [hH1]; exact kf.set (k := 0) (by omega)
      refine a_heap (h' := H1) hH1.symm ?_
      have ee : pStA n Y z = (pLi n Y (sW s) (sH s) w, flS fl 0, dSide s 0 (lnv n Y (sW s) w)) := eA.trans (cif_t ⟨cw, cf⟩)
      refine a_aload_n (pc := 31) (i := 0) dX2_readStatement_31 rfl rfl ?_
      refine a_iconst (pc := 32) (v := nI 0) dX2_readStatement_32 (by decide) ?_
      refine a_uV (pc := 33) (as := [.int (nI 0)]) (b := 7) (ci := 2) dX2_readStatement_33 (lc_RX2_101 rfl) ceX2_readLines rfl (lt90 hnf (shK_lt (show shK 7 = _ from rfl))) (sp_readLines (d := d) (sd := 0) xf rr1 hw.2 cf1.1.1 cf1.1.2.1 g8.1 g8.2.1.2 (by omega)) rfl rfl (Nat.le_of_ble_eq_true rfl) (fun h2 z => z.1.1.1) (fun H3 v => ?_)
      refine a_goto (pc := 36) (tgt := 143) dX2_readStatement_36 (by decide) ?_
      exact T143 H3 ((kt.trans kt1).trans (v.1.t (by intro b hb; simp at hb ⊢; omega))) (by rw [ee]; exact v.2.1) (fun z0 => by
        rw [ee] at z0 ⊢
        exact ⟨kf1.k v.1.2, CR_side cf1 g8 (v.1.1.2.2 8 (by simp)) (v.1.1.2.2 10 (by simp)).1 (v.1.1.2.2 11 (by simp)).1 (v.2.2 z0)⟩)
