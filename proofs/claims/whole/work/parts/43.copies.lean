/-! unevenness, copies -/
theorem best_ge {s : SH} (h : 0 ≤ bestR s) : sLen s ≤ 8 ∧ ∃ l, BP s noA l ∧ bestL s = l ∧ bestR s = nI l.length ∧ l.length ≤ 8 := by
  have h8 : sLen s ≤ 8 := Nat.le_of_not_lt fun z => by
    rw [show bestR s = -2 from cif_t z] at h; exact absurd h (by decide)
  have e : bestR s = bestN s := cif_f (by omega)
  rcases Classical.em (∃ l, BP s noA l) with ⟨l, hl⟩ | z
  · refine ⟨h8, l, hl, bestL_eq hl, ?_, by have := plV_le (BP_V hl); omega⟩
    rw [e, show bestN s = _ from cif_t ⟨l, hl⟩, bestL_eq hl]
  · rw [e, show bestN s = _ from cif_f z] at h; exact absurd h (by decide)
def adiff (a b : Nat) : Nat := if a < b then b - a else a - b
noncomputable def szC (s : SH) (k : Nat) : Nat := qsz s ((bestL s).getD k (0, 0)).2
noncomputable def rUneven (s : SH) : Int32 := cif (0 ≤ bestR s) (nI (sumN (fun k => adiff (szC s (k + 1)) (szC s k)) ((bestL s).length - 1))) (-1)
theorem abs_n {a b : Nat} (ha : a < 1000) (hb : b < 1000) : cif (0 ≤ nI a - nI b) (nI a - nI b) (0 - (nI a - nI b)) = nI (adiff a b) := by
  have t : (nI a - nI b).toInt = (a : Int) - b := by
    rw [Int32.toInt_sub, nI_toInt (by omega), nI_toInt (by omega)]
    unfold Int.bmod
    simp only []
    split <;> omega
  unfold adiff
  rcases Nat.lt_or_ge a b with w | w
  · rw [cif_f (fun z => by have := Int32.le_iff_toInt_le.mp z; have h0 : (0 : Int32).toInt = 0 := rfl; omega), if_pos w]
    apply Int32.toInt_inj.mp
    rw [Int32.toInt_sub, t, nI_toInt (by omega)]
    show Int.bmod (0 - _) _ = _
    unfold Int.bmod
    simp only []
    split <;> omega
  · rw [cif_t (Int32.le_iff_toInt_le.mpr (by have h0 : (0 : Int32).toInt = 0 := rfl; omega)), if_neg (by omega), pk_sub w]
theorem qsz_lt {s : SH} (g : GS s) (q : Nat) : qsz s q < 1000 := by
  unfold qsz
  rcases Classical.em (qhas s q) with h | h
  · rw [cif_t h]; have := (g.2.2.2.2.1 (q / 48) (q % 48 / 8)).2; omega
  · rw [cif_f h]; omega
noncomputable def cpy (s : SH) : Nat → (Nat → Prop) → Nat
  | 0, _ => 0
  | m + 1, X => @dite _ (∃ l, BP s X l ∧ l ≠ []) (Classical.propDecidable _) (fun h => 1 + cpy s m (uX X (plC s (Classical.choose h)))) (fun _ => 0)
theorem cpy_t {s : SH} {m : Nat} {X : Nat → Prop} {l : List (Nat × Nat)} (h : BP s X l) (hn : l ≠ []) : cpy s (m + 1) X = 1 + cpy s m (uX X (plC s l)) := by
  have hx : ∃ l, BP s X l ∧ l ≠ [] := ⟨l, h, hn⟩
  rw [cpy, dif_pos hx, BP_eq (Classical.choose_spec hx).1 h]
theorem cpy_f {s : SH} {m : Nat} {X : Nat → Prop} (h : ¬ ∃ l, BP s X l ∧ l ≠ []) : cpy s (m + 1) X = 0 := by
  rw [cpy, dif_neg h]
noncomputable def nCopies (s : SH) : Nat := cif (0 < bestR s) (cpy s 48 noA) 0
theorem ch_y {s : SH} {h : AH} {Y : Nat → Prop} {r : Res} {h3 : AH} (y : Fr [16, 17, 18, 19, 32, 33] h h3 ∧ hI h3 16 5 = hI h 16 5 ∧ PLo s Y h3 r) : Qx (fun x h3 => Fr [16, 17, 18, 19, 32, 33] h h3 ∧ hI h3 16 5 = hI h 16 5 ∧ ((∃ l, BP s Y l ∧ x = nI l.length ∧ PH h3 s l) ∨ ((∀ l, ¬ plV s 0 Y l) ∧ x = -1))) r h3 := by
  obtain ⟨y1, y2, y3⟩ := y
  rcases y3 with ⟨l, a1, a2, a3⟩ | ⟨a1, a2, a3, -⟩
  · exact ⟨_, a2, y1, y2, Or.inl ⟨l, a1, rfl, a3⟩⟩
  · exact ⟨_, a2, y1, y2, Or.inr ⟨a1, rfl⟩⟩
set_option maxHeartbeats 1500000 in
set_option maxRecDepth 100000 in
theorem sp_unevenness {d : Nat} {h : AH} {t : ST} (m : IM h t) : AC mX4_unevenness (d + 100) 0 0 [.ref 0] h (Qw (ri (rUneven (tC t))) t h) := by
  have m0 := m.1
  have c := m0.1
  have g := m0.2.1.1
  have r := m0.2.2.1
  have hn := c.1
  have gl := g.2.2.2.2.2.1
  have gs := g.2.2.1
  have gw := g.1
  have gh := g.2.1
  refine AC.of (by decide) rfl (Nat.le_of_ble_eq_true rfl) (fun X => ?_)
  show AW X mX4_unevenness (d + 100) 0 0 0 [(0, .ref 0)] [] h (Qw (ri (rUneven (tC t))) t h)
  refine a_aload_n (pc := 0) (i := 0) dX4_unevenness_0 rfl rfl ?_
  refine a_wV1 (pc := 1) (as := []) (b := 0) (ci := 4) (v := .int (bestR (tC t))) dX4_unevenness_1 (lc_RX4_177 rfl) ceX4_bestCuts rfl (lt90 hn (shK_lt (show shK 0 = _ from rfl))) (sp_bestCuts m) rfl rfl (Nat.le_of_ble_eq_true rfl) (fun h1 f1 rb => ?_)
  obtain ⟨mm, hpl⟩ := rb
  clear m0 c g r hn gl gs gw gh
  have m0 := mm.1
  have c := m0.1
  have g := m0.2.1.1
  have r := m0.2.2.1
  have hn := c.1
  have gl := g.2.2.2.2.2.1
  have gs := g.2.2.1
  have gw := g.1
  have gh := g.2.1
  have fw0 := f1.w (by intro a ha; simp at ha; omega)
  refine a_istore_n (pc := 4) (i := 1) (ls' := [(0, .ref 0), (1, .int (bestR (tC t)))]) dX4_unevenness_4 rfl (by decide) rfl ?_
  refine a_iload_n (pc := 5) (i := 1) dX4_unevenness_5 rfl rfl ?_
  refine a_if_ge (pc := 6) (tgt := 11) dX4_unevenness_6 (by decide) (fun c6 => ?_) (fun c6 => ?_)
  · have e : rUneven (tC t) = _ := cif_t c6
    obtain ⟨h8, l, hl, hbl, hbr, hl8⟩ := best_ge c6
    have ph := PLc_b (hpl h8).1 hl
    refine a_locs (ls' := [(0, .ref 0), (1, .int (nI l.length))]) (by rw [hbr]) ?_
    have LP : ∀ (fu : Nat) (i : Nat), 1 ≤ i ∧ (i ≤ l.length ∨ i = 1) → l.length + 1 - i < fu → AW X mX4_unevenness (d + 100) 0 0 15 [(0, .ref 0), (1, .int (nI l.length)), (2, .int (nI (sumN (fun k => adiff (szC (tC t) (k + 1)) (szC (tC t) k)) (i - 1)))), (3, .int (nI i))] [] h1 (Qw (ri (rUneven (tC t))) t h) := by
      intro fu
      induction fu with
      | zero => intro i hi hz; exact absurd hz (Nat.not_lt_zero _)
      | succ fu ih =>
        intro i hi hz
        refine a_iload_n (pc := 15) (i := 3) dX4_unevenness_15 rfl rfl ?_
        refine a_iload_n (pc := 16) (i := 1) dX4_unevenness_16 rfl rfl ?_
        refine n_icmp_ge (pc := 17) (tgt := 45) dX4_unevenness_17 (by decide) (by omega) (by omega) (fun c17 => ?_) (fun c17 => ?_)
        · have ei : i - 1 = (bestL (tC t)).length - 1 := by rw [hbl]; omega
          refine a_iload_n (pc := 45) (i := 2) dX4_unevenness_45 rfl rfl ?_
          exact a_ireturn (pc := 46) dX4_unevenness_46 rfl rfl (⟨by rw [e, ei]; rfl, mm, fw0⟩)
        · have z1 := qsz_lt g (l.getD i (0, 0)).2
          have z2 := qsz_lt g (l.getD (i - 1) (0, 0)).2
          refine a_iload_n (pc := 20) (i := 2) dX4_unevenness_20 rfl rfl ?_
          refine a_aload_n (pc := 21) (i := 0) dX4_unevenness_21 rfl rfl ?_
          refine a_iload_n (pc := 22) (i := 3) dX4_unevenness_22 rfl rfl ?_
          refine a_vV1 (pc := 23) (as := [.int (nI i)]) (b := 0) (ci := 4) (v := .int (nI (qsz (tC t) (l.getD i (0, 0)).2))) (h' := h1) dX4_unevenness_23 (lc_RX4_192 rfl) ceX4_sizeOfCut rfl (lt90 hn (shK_lt (show shK 0 = _ from rfl))) (sp_sizeOfCut c g r ph hl8 c17 (plV_q (BP_V hl) i c17).1) rfl rfl (Nat.le_of_ble_eq_true rfl) rfl ?_
          refine a_aload_n (pc := 26) (i := 0) dX4_unevenness_26 rfl rfl ?_
          refine a_iload_n (pc := 27) (i := 3) dX4_unevenness_27 rfl rfl ?_
          refine a_iconst (pc := 28) (v := nI 1) dX4_unevenness_28 (by decide) ?_
          refine n_isub (pc := 29) dX4_unevenness_29 (by omega) ?_
          refine a_vV1 (pc := 30) (as := [.int (nI (i - 1))]) (b := 0) (ci := 4) (v := .int (nI (qsz (tC t) (l.getD (i - 1) (0, 0)).2))) (h' := h1) dX4_unevenness_30 (lc_RX4_192 rfl) ceX4_sizeOfCut rfl (lt90 hn (shK_lt (show shK 0 = _ from rfl))) (sp_sizeOfCut c g r ph hl8 (show i - 1 < l.length by omega) (plV_q (BP_V hl) (i - 1) (by omega)).1) rfl rfl (Nat.le_of_ble_eq_true rfl) rfl ?_
          refine a_isub (pc := 33) dX4_unevenness_33 ?_
          refine a_mabs (pc := 34) dX4_unevenness_34 (lm_RX4_195 rfl) (Nat.le_of_ble_eq_true rfl) ?_
          refine a_top (show (.int (cif (0 ≤ ((nI (qsz (tC t) (l.getD i (0, 0)).2)) - (nI (qsz (tC t) (l.getD (i - 1) (0, 0)).2)))) ((nI (qsz (tC t) (l.getD i (0, 0)).2)) - (nI (qsz (tC t) (l.getD (i - 1) (0, 0)).2))) (0 - ((nI (qsz (tC t) (l.getD i (0, 0)).2)) - (nI (qsz (tC t) (l.getD (i - 1) (0, 0)).2))))) : Value) = .int (nI (adiff (szC (tC t) (i - 1 + 1)) (szC (tC t) (i - 1)))) from congrArg Value.int ((abs_n z1 z2).trans (by unfold szC; rw [hbl, show i - 1 + 1 = i by omega]))) ?_
          refine n_iadd (pc := 37) dX4_unevenness_37 ?_
          refine a_istore_n (pc := 38) (i := 2) (ls' := [(0, .ref 0), (1, .int (nI l.length)), (2, .int (nI ((sumN (fun k => adiff (szC (tC t) (k + 1)) (szC (tC t) k)) (i - 1)) + (adiff (szC (tC t) (i - 1 + 1)) (szC (tC t) (i - 1)))))), (3, .int (nI i))]) dX4_unevenness_38 rfl (by decide) rfl ?_
          refine n_iinc (pc := 39) (k := 1) (ls' := [(0, .ref 0), (1, .int (nI l.length)), (2, .int (nI ((sumN (fun k => adiff (szC (tC t) (k + 1)) (szC (tC t) k)) (i - 1)) + (adiff (szC (tC t) (i - 1 + 1)) (szC (tC t) (i - 1)))))), (3, .int (nI (i + 1)))]) dX4_unevenness_39 rfl (by decide) (by decide) rfl ?_
          refine a_goto (pc := 42) (tgt := 15) dX4_unevenness_42 (by decide) ?_
          refine a_locs (ls' := [(0, .ref 0), (1, .int (nI l.length)), (2, .int (nI (sumN (fun k => adiff (szC (tC t) (k + 1)) (szC (tC t) k)) (i + 1 - 1)))), (3, .int (nI (i + 1)))]) (by rw [show i + 1 - 1 = (i - 1) + 1 by omega]; rfl) ?_
          exact ih (i + 1) (by omega) (by omega)
    refine a_iconst (pc := 11) (v := nI 0) dX4_unevenness_11 (by decide) ?_
    refine a_istore_n (pc := 12) (i := 2) (ls' := [(0, .ref 0), (1, .int (nI l.length)), (2, .int (nI 0))]) dX4_unevenness_12 rfl (by decide) rfl ?_
    refine a_iconst (pc := 13) (v := nI 1) dX4_unevenness_13 (by decide) ?_
    refine a_istore_n (pc := 14) (i := 3) (ls' := [(0, .ref 0), (1, .int (nI l.length)), (2, .int (nI 0)), (3, .int (nI 1))]) dX4_unevenness_14 rfl (by decide) rfl ?_
    refine a_locs (ls' := [(0, .ref 0), (1, .int (nI l.length)), (2, .int (nI (sumN (fun k => adiff (szC (tC t) (k + 1)) (szC (tC t) k)) (1 - 1)))), (3, .int (nI 1))]) rfl ?_
    exact LP (l.length + 2) 1 (by omega) (by omega)
  · have e : rUneven (tC t) = _ := cif_f c6
    refine a_iconst (pc := 9) (v := (-1)) dX4_unevenness_9 (by decide) ?_
    exact a_ireturn (pc := 10) dX4_unevenness_10 rfl rfl (⟨by rw [e]; rfl, mm, fw0⟩)
set_option maxHeartbeats 1500000 in
set_option maxRecDepth 100000 in
theorem sp_copies {d : Nat} {h : AH} {t : ST} (m : IM h t) : AC mX4_copies (d + 100) 0 0 [.ref 0] h (Qw (ri (nI (nCopies (tC t)))) t h) := by
  have m0 := m.1
  have c := m0.1
  have g := m0.2.1.1
  have r := m0.2.2.1
  have hn := c.1
  have gl := g.2.2.2.2.2.1
  have gs := g.2.2.1
  have gw := g.1
  have gh := g.2.1
  refine AC.of (by decide) rfl (Nat.le_of_ble_eq_true rfl) (fun X => ?_)
  show AW X mX4_copies (d + 100) 0 0 0 [(0, .ref 0)] [] h (Qw (ri (nI (nCopies (tC t)))) t h)
  refine a_aload_n (pc := 0) (i := 0) dX4_copies_0 rfl rfl ?_
  refine a_wV1 (pc := 1) (as := []) (b := 0) (ci := 4) (v := .int (bestR (tC t))) dX4_copies_1 (lc_RX4_177 rfl) ceX4_bestCuts rfl (lt90 hn (shK_lt (show shK 0 = _ from rfl))) (sp_bestCuts m) rfl rfl (Nat.le_of_ble_eq_true rfl) (fun h1 f1 rb => ?_)
  obtain ⟨mm, hpl⟩ := rb
  clear m0 c g r hn gl gs gw gh
  have m0 := mm.1
  have c := m0.1
  have g := m0.2.1.1
  have r := m0.2.2.1
  have hn := c.1
  have gl := g.2.2.2.2.2.1
  have gs := g.2.2.1
  have gw := g.1
  have gh := g.2.1
  have fw0 := f1.w (by intro a ha; simp at ha; omega)
  refine a_if_gt (pc := 4) (tgt := 9) dX4_copies_4 (by decide) (fun c4 => ?_) (fun c4 => ?_)
  · have e : nCopies (tC t) = _ := cif_t c4
    obtain ⟨h8, l0, hl0, -, -, -⟩ := best_ge (Int32.le_of_lt c4)
    obtain ⟨-, f, hp, hf0⟩ := hpl h8
    refine a_aload_n (pc := 9) (i := 0) dX4_copies_9 rfl rfl ?_
    refine a_iconst (pc := 10) (v := nI 0) dX4_copies_10 (by decide) ?_
    refine a_putI (pc := 11) (ci := 4) (k := 9) dX4_copies_11 (lf_RX4_55 rfl) (by decide) (Or.inr ⟨rfl, (by decide)⟩) rfl (lt90 hn (shK_lt (show shK 0 = _ from rfl))) rfl ?_
    obtain ⟨H0, hH0⟩ : ∃ Hx, Hx = sI h1 0 9 (nI 0) := ⟨_, rfl⟩
    have g0 : Fr [0, 16, 17, 18, 19, 32, 33] h1 H0 := by rw [hH0]; exact Fr.refl.sI (by simp)
    have k0 : ∀ j, j ≠ 9 → hI H0 0 j = hI h1 0 j := fun j hj => by rw [hH0]; exact rd1 (by omega)
    have k9 : hI H0 0 9 = 0 := by rw [hH0]; exact rd2 ⟨rfl, rfl⟩
    have p0 : PRf H0 (tC t) f := hp.row (fun a h1 h3 => by rw [hH0]; exact ⟨up2_row (by omega), rfl⟩)
    refine a_heap (h' := H0) hH0.symm ?_
    have c0 := c.fr g0
    have hn0 := c0.1
    have LP : ∀ (fu : Nat) (i : Nat) (Y : Nat → Prop) (H : AH), i ≤ 48 → Fr [0, 16, 17, 18, 19, 32, 33] h1 H → hI H 0 = hI H0 0 → PRf H (tC t) f → i + cpy (tC t) (48 - i) Y = cpy (tC t) 48 noA → 48 - i < fu → AW X mX4_copies (d + 100) 0 0 18 [(0, .ref 0), (1, .long (mkL Y)), (3, .int (nI i))] [] H (Qw (ri (nI (nCopies (tC t)))) t h) := by
      intro fu
      induction fu with
      | zero => intro i Y H hi hf h0 hr hcp hz; exact absurd hz (Nat.not_lt_zero _)
      | succ fu ih =>
        intro i Y H hi hf h0 hr hcp hz
        have c2 := c.fr hf
        have hn2 := c2.1
        refine a_iload_n (pc := 18) (i := 3) dX4_copies_18 rfl rfl ?_
        refine a_bipush (pc := 19) (v := nI 48) dX4_copies_19 (by decide) ?_
        refine n_icmp_ge (pc := 21) (tgt := 51) dX4_copies_21 (by decide) (by omega) (by omega) (fun c21 => ?_) (fun c21 => ?_)
        · have ei : i = 48 := by omega
          subst ei
          refine a_iload_n (pc := 51) (i := 3) dX4_copies_51 rfl rfl ?_
          exact a_ireturn (pc := 52) dX4_copies_52 rfl rfl (⟨by rw [e, ← hcp, show cpy (tC t) (48 - 48) Y = 0 from rfl]; rfl, ⟨m0.row hf.1 hf.2.1 (fun j hj => (congrFun h0 j).trans (k0 j hj)) (fun a ha => hf.2.2 a (by simp; omega)), Or.inl ((congrFun h0 9).trans k9)⟩, fw0.trans (hf.w (by simp))⟩)
        · skip
          refine a_aload_n (pc := 24) (i := 0) dX4_copies_24 rfl rfl ?_
          refine a_getR (pc := 25) (ci := 4) (k := 8) (b := 16) dX4_copies_25 (lf_RX4_51 rfl) (by decide) rfl rfl (lt90 hn2 (shK_lt (show shK 0 = _ from rfl))) c2.2.1.2.2.2.2.2 ?_
          refine a_lload_n (pc := 28) (i := 1) dX4_copies_28 rfl rfl ?_
          refine a_xVN (pc := 29) (as := [.long (mkL Y)]) (b := 16) (ci := 1) dX4_copies_29 (lc_RX4_200 rfl) ceX1_choose rfl (lt90 hn2 (shK_lt (show shK 16 = _ from rfl))) ((sp_choose (d := d + 20) c2 g hr hf0).post (fun q h3 y => ch_y y)) rfl rfl (Nat.le_of_ble_eq_true rfl) (fun b h3 y => y.1.1) (fun x2 H2 q2 => ?_)
          obtain ⟨f2, e5, hpo⟩ := q2
          have f3 := hf.trans (f2.mono (S2 := [0, 16, 17, 18, 19, 32, 33]) (by intro a ha; simp at ha ⊢; omega))
          have c3 := c2.fr f2
          have hn3 := c3.1
          have h03 : hI H2 0 = hI H0 0 := (f2.2.2 0 (by simp)).1.trans h0
          refine a_if_le (pc := 32) (tgt := 51) dX4_copies_32 (by decide) (fun c32 => ?_) (fun c32 => ?_)
          · have hno : ¬ ∃ l, BP (tC t) Y l ∧ l ≠ [] := fun ⟨l, b1, b2⟩ => by
              rcases hpo with ⟨l2, a1, a2, a3⟩ | ⟨a1, -⟩
              · rw [BP_eq a1 b1] at a2; have := plV_le (BP_V b1); have := List.length_pos_iff.mpr b2; rw [a2] at c32; have := (nI_leI (b := 0) (by omega) (by omega)).mp c32; omega
              · exact a1 l (BP_V b1)
            refine a_iload_n (pc := 51) (i := 3) dX4_copies_51 rfl rfl ?_
            exact a_ireturn (pc := 52) dX4_copies_52 rfl rfl (⟨by rw [e, ← hcp, show 48 - i = 48 - i - 1 + 1 by omega, cpy_f hno]; rfl, ⟨m0.row f3.1 f3.2.1 (fun j hj => (congrFun h03 j).trans (k0 j hj)) (fun a ha => f3.2.2 a (by simp; omega)), Or.inl ((congrFun h03 9).trans k9)⟩, fw0.trans (f3.w (by simp))⟩)
          · obtain ⟨l, a1, a2, a3⟩ : ∃ l, BP (tC t) Y l ∧ x2 = nI l.length ∧ PH H2 (tC t) l := hpo.resolve_right (fun z => c32 (by rw [z.2]; decide))
            have hne : l ≠ [] := fun z => c32 (by rw [a2, z]; decide)
            refine a_lload_n (pc := 35) (i := 1) dX4_copies_35 rfl rfl ?_
            refine a_aload_n (pc := 36) (i := 0) dX4_copies_36 rfl rfl ?_
            refine a_getR (pc := 37) (ci := 4) (k := 8) (b := 16) dX4_copies_37 (lf_RX4_51 rfl) (by decide) rfl rfl (lt90 hn3 (shK_lt (show shK 0 = _ from rfl))) c3.2.1.2.2.2.2.2 ?_
            refine a_getL (pc := 40) (ci := 1) (k := 9) dX4_copies_40 (lf_RX4_203 rfl) (by decide) rfl rfl (lt90 hn3 (shK_lt (show shK 16 = _ from rfl))) ?_
            refine a_top (show (.long (hL H2 16 9) : Value) = .long (mkL (plC (tC t) l)) from congrArg Value.long a3.2.1) ?_
            refine a_lor (pc := 43) dX4_copies_43 ?_
            refine a_top (show (.long ((mkL Y) ||| (mkL (plC (tC t) l))) : Value) = .long (mkL (uX Y (plC (tC t) l))) from congrArg Value.long (mkL_or _ _)) ?_
            refine a_lstore_n (pc := 44) (i := 1) (ls' := [(0, .ref 0), (1, .long (mkL (uX Y (plC (tC t) l)))), (3, .int (nI i))]) dX4_copies_44 rfl (by decide) rfl ?_
            refine n_iinc (pc := 45) (k := 1) (ls' := [(0, .ref 0), (1, .long (mkL (uX Y (plC (tC t) l)))), (3, .int (nI (i + 1)))]) dX4_copies_45 rfl (by decide) (by decide) rfl ?_
            refine a_goto (pc := 48) (tgt := 18) dX4_copies_48 (by decide) ?_
            exact ih (i + 1) _ H2 (by omega) f3 h03 (hr.fr f2 e5 (fun a h1 h2 => by simp; omega)) (by rw [← hcp, show 48 - i = 48 - (i + 1) + 1 by omega, cpy_t a1 hne]; omega) (by omega)
    refine a_lconst (pc := 14) (v := 0) dX4_copies_14 (by decide) ?_
    refine a_top (show (.long 0 : Value) = .long (mkL noA) from congrArg Value.long mkL_0.symm) ?_
    refine a_lstore_n (pc := 15) (i := 1) (ls' := [(0, .ref 0), (1, .long (mkL noA))]) dX4_copies_15 rfl (by decide) rfl ?_
    refine a_iconst (pc := 16) (v := nI 0) dX4_copies_16 (by decide) ?_
    refine a_istore_n (pc := 17) (i := 3) (ls' := [(0, .ref 0), (1, .long (mkL noA)), (3, .int (nI 0))]) dX4_copies_17 rfl (by decide) rfl ?_
    exact LP 49 0 noA H0 (by omega) g0 rfl p0 (Nat.zero_add _) (by omega)
  · have e : nCopies (tC t) = _ := cif_f c4
    refine a_iconst (pc := 7) (v := nI 0) dX4_copies_7 (by decide) ?_
    exact a_ireturn (pc := 8) dX4_copies_8 rfl rfl (⟨by rw [e]; rfl, mm, fw0⟩)
