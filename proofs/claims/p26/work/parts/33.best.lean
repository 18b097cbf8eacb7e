/-! the class Planner: choose, and what it holds -/
def PLo (s : SH) (Y : Nat → Prop) (h2 : AH) (r : Res) : Prop := (∃ l, BP s Y l ∧ r = ri (nI l.length) ∧ PH h2 s l) ∨ ((∀ l, ¬ plV s 0 Y l) ∧ r = ri (-1) ∧ hI h2 16 8 = -1 ∧ hL h2 16 9 = 0)
theorem uX_0 {Y : Nat → Prop} {s : SH} : uX Y (plC s []) = Y := by
  funext b; exact propext ⟨fun h => h.elim id (fun z => z.elim), Or.inl⟩
theorem nI_oi (n : Nat) (hn : n < 1000) : nI n = Int32.ofInt (n : Int) := by
  apply Int32.toInt_inj.mp
  rw [nI_toInt (by omega), oi_t (by omega) (by omega)]
theorem oi_sub {z : Int} {n : Nat} (h1 : -900 ≤ z) (h2 : z ≤ 900) (hn : n < 50) : Int32.ofInt z - nI n = Int32.ofInt (z - n) := by
  apply Int32.toInt_inj.mp
  rw [Int32.toInt_sub, oi_t (by omega) (by omega), nI_toInt (by omega), oi_t (by omega) (by omega)]
  unfold Int.bmod
  simp only []
  split <;> omega
theorem PRf_n {h : AH} {s : SH} {f : Nat → Nat} (r : PRf h s f) (k : Nat) : f k < 1000 := r.2.2.2.2.2.2 k
theorem rd2_s {h : AH} {a j : Nat} {x : Int32} : hI (sI h a j x) a j = x := rd2 ⟨rfl, rfl⟩
set_option maxHeartbeats 1500000 in
set_option maxRecDepth 100000 in
theorem sp_choose {d : Nat} {h : AH} {s : SH} {f : Nat → Nat} (c : CB h) (g : GS s) (r : PRf h s f) {Y : Nat → Prop} (hf0 : f 0 < 800) : AC mX1_choose (d + 79) 0 0 [.ref 16, .long (mkL Y)] h (fun r h2 => Fr [16, 17, 18, 19, 32, 33] h h2 ∧ hI h2 16 5 = hI h 16 5 ∧ PLo s Y h2 r) := by
  have hn := c.1
  have gw := g.1
  have hL8 := r.1.2
  refine AC.of (by decide) rfl (Nat.le_of_ble_eq_true rfl) (fun X => ?_)
  show AW X mX1_choose (d + 79) 0 0 0 [(0, .ref 16), (1, .long (mkL Y))] [] h (fun r h2 => Fr [16, 17, 18, 19, 32, 33] h h2 ∧ hI h2 16 5 = hI h 16 5 ∧ PLo s Y h2 r)
  have AF : ∀ (z : Nat) (H : AH), PZ s 0 noA Y z → (∀ z2 : Int, (z : Int) < z2 → ¬ PZ s 0 noA Y z2) → Fr [16, 17, 18, 19, 32, 33] h H → hI H 16 5 = hI h 16 5 → PH H s [] → AW X mX1_choose (d + 79) 0 0 58 [(0, .ref 16), (1, .long (mkL Y)), (3, .int (nI z))] [] H (fun r h2 => Fr [16, 17, 18, 19, 32, 33] h h2 ∧ hI h2 16 5 = hI h 16 5 ∧ PLo s Y h2 r) := by
    intro z H1 hz hno hf1 h51 hp1
    have hzl : z ≤ sLen s := by obtain ⟨l0, -, y⟩ := PZ_E.mp hz; omega
    have LP : ∀ (fu : Nat) (j k cc : Nat) (l1 : List (Nat × Nat)) (H : AH), k ≤ sLen s → cc ≤ 8 → (l1.length = j ∧ j ≤ k) → (∃ l0, plV s k (uX Y (plC s l1)) l0 ∧ l0.length ≤ cc) → (∀ l2, GP s k (uX Y (plC s l1)) cc l2 → GP s 0 Y (sLen s - z) (l1 ++ l2)) → PH H s l1 → Fr [16, 17, 18, 19, 32, 33] h H → hI H 16 5 = hI h 16 5 → sLen s - k < fu → AW X mX1_choose (d + 79) 0 0 64 [(0, .ref 16), (1, .long (mkL Y)), (3, .int (Int32.ofInt ((sLen s : Int) - k - cc))), (4, .int (nI k)), (5, .int (nI j))] [] H (fun r h2 => Fr [16, 17, 18, 19, 32, 33] h h2 ∧ hI h2 16 5 = hI h 16 5 ∧ PLo s Y h2 r) := by
      intro fu
      induction fu with
      | zero => intro j k cc l1 H hk hcc hlj hex hgp hph hf h5 hz; exact absurd hz (Nat.not_lt_zero _)
      | succ fu ih =>
        intro j k cc l1 H hk hcc hlj hex hgp hph hf h5 hz
        have hc := c.fr hf
        have hr : PRf H s f := r.fr hf h5 (fun a h1 h2 => by simp; omega)
        have hn2 := hc.1
        refine a_iload (pc := 64) (i := 5) dX1_choose_64 rfl ?_
        refine a_bipush (pc := 66) (v := nI 8) dX1_choose_66 (by decide) ?_
        refine n_icmp_ge (pc := 68) (tgt := 115) dX1_choose_68 (by decide) (by omega) (by omega) (fun c68 => ?_) (fun c68 => ?_)
        · skip
          have hbp : BP s Y l1 := by
            have e : k = sLen s := by omega
            have hg := hgp [] e
            rw [List.append_nil] at hg
            obtain ⟨v1, v2⟩ := GP_plV hg
            have hmin : ∀ l0, plV s 0 Y l0 → sLen s - z ≤ l0.length := fun l0 y => by
              rcases Nat.lt_or_ge l0.length (sLen s - z) with w | w
              · exact absurd (PZ_E.mpr ⟨l0, y, by omega⟩) (hno ((sLen s : Int) - l0.length) (by omega))
              · exact w
            exact ⟨sLen s - z, hmin, hg, Nat.le_antisymm v2 (hmin l1 v1)⟩
          refine a_aload_n (pc := 115) (i := 0) dX1_choose_115 rfl rfl ?_
          refine a_getI (pc := 116) (ci := 1) (k := 8) dX1_choose_116 (lf_RX1_40 rfl) (by decide) rfl rfl (lt90 hn2 (shK_lt (show shK 16 = _ from rfl))) ?_
          refine a_top (show (.int (hI H 16 8) : Value) = .int (nI l1.length) from congrArg Value.int hph.1) ?_
          exact a_ireturn (pc := 119) dX1_choose_119 rfl rfl (⟨hf, h5, Or.inl ⟨l1, hbp, rfl, hph⟩⟩)
        · skip
          refine a_iload (pc := 71) (i := 4) dX1_choose_71 rfl ?_
          refine a_aload_n (pc := 73) (i := 0) dX1_choose_73 rfl rfl ?_
          refine a_getI (pc := 74) (ci := 1) (k := 5) dX1_choose_74 (lf_RX1_58 rfl) (by decide) rfl rfl (lt90 hn2 (shK_lt (show shK 16 = _ from rfl))) ?_
          refine a_top (show (.int (hI H 16 5) : Value) = .int (nI (sLen s)) from congrArg Value.int hr.1.1) ?_
          refine n_icmp_ge (pc := 77) (tgt := 115) dX1_choose_77 (by decide) (by omega) (by omega) (fun c77 => ?_) (fun c77 => ?_)
          · skip
            have hbp : BP s Y l1 := by
              have e : k = sLen s := by omega
              have hg := hgp [] e
              rw [List.append_nil] at hg
              obtain ⟨v1, v2⟩ := GP_plV hg
              have hmin : ∀ l0, plV s 0 Y l0 → sLen s - z ≤ l0.length := fun l0 y => by
                rcases Nat.lt_or_ge l0.length (sLen s - z) with w | w
                · exact absurd (PZ_E.mpr ⟨l0, y, by omega⟩) (hno ((sLen s : Int) - l0.length) (by omega))
                · exact w
              exact ⟨sLen s - z, hmin, hg, Nat.le_antisymm v2 (hmin l1 v1)⟩
            refine a_aload_n (pc := 115) (i := 0) dX1_choose_115 rfl rfl ?_
            refine a_getI (pc := 116) (ci := 1) (k := 8) dX1_choose_116 (lf_RX1_40 rfl) (by decide) rfl rfl (lt90 hn2 (shK_lt (show shK 16 = _ from rfl))) ?_
            refine a_top (show (.int (hI H 16 8) : Value) = .int (nI l1.length) from congrArg Value.int hph.1) ?_
            exact a_ireturn (pc := 119) dX1_choose_119 rfl rfl (⟨hf, h5, Or.inl ⟨l1, hbp, rfl, hph⟩⟩)
          · skip
            refine a_aload_n (pc := 80) (i := 0) dX1_choose_80 rfl rfl ?_
            refine a_iload (pc := 81) (i := 4) dX1_choose_81 rfl ?_
            refine a_lload_n (pc := 83) (i := 1) dX1_choose_83 rfl rfl ?_
            refine a_aload_n (pc := 84) (i := 0) dX1_choose_84 rfl rfl ?_
            refine a_getL (pc := 85) (ci := 1) (k := 9) dX1_choose_85 (lf_RX1_82 rfl) (by decide) rfl rfl (lt90 hn2 (shK_lt (show shK 16 = _ from rfl))) ?_
            refine a_top (show (.long (hL H 16 9) : Value) = .long (mkL (plC s l1)) from congrArg Value.long hph.2.1) ?_
            refine a_lor (pc := 88) dX1_choose_88 ?_
            refine a_top (show (.long ((mkL Y) ||| (mkL (plC s l1))) : Value) = .long (mkL (uX Y (plC s l1))) from congrArg Value.long (mkL_or _ _)) ?_
            refine a_iload_n (pc := 89) (i := 3) dX1_choose_89 rfl rfl ?_
            refine a_zV (pc := 90) (as := [.int (nI k), .long (mkL (uX Y (plC s l1))), .int (Int32.ofInt ((sLen s : Int) - k - cc))]) (b := 16) (ci := 1) dX1_choose_90 (lc_RX1_94 rfl) ceX1_chooseCut rfl (lt90 hn2 (shK_lt (show shK 16 = _ from rfl))) (sp_chooseCut (d := d) hc g hr c77 rfl hcc (by omega) hph hex) rfl rfl (Nat.le_of_ble_eq_true rfl) (fun b h2 ⟨q, _, y, _⟩ => y.1) (fun n2 H2 q2 => ?_)
            obtain ⟨q, hpk, f2, e5, hph2⟩ := q2
            have hn1 := hpk.1.1.1.1
            have hkn := hpk.1.1.2.1
            have hcc1 : 1 ≤ cc := by obtain ⟨l0, -, y⟩ := hpk.1.2; omega
            refine a_istore (pc := 93) (i := 6) (ls' := [(0, .ref 16), (1, .long (mkL Y)), (3, .int (Int32.ofInt ((sLen s : Int) - k - cc))), (4, .int (nI k)), (5, .int (nI j)), (6, .int (nI n2))]) dX1_choose_93 (by decide) rfl ?_
            refine a_iload_n (pc := 95) (i := 3) dX1_choose_95 rfl rfl ?_
            refine a_iload (pc := 96) (i := 6) dX1_choose_96 rfl ?_
            refine a_iconst (pc := 98) (v := nI 1) dX1_choose_98 (by decide) ?_
            refine n_isub (pc := 99) dX1_choose_99 (by omega) ?_
            refine a_isub (pc := 100) dX1_choose_100 ?_
            refine a_top (show (.int ((Int32.ofInt ((sLen s : Int) - k - cc)) - (nI (n2 - 1))) : Value) = .int (Int32.ofInt ((sLen s : Int) - ((k + n2 : Nat) : Int) - ((cc - 1 : Nat) : Int))) from congrArg Value.int ((oi_sub (by omega) (by omega) (by omega)).trans (congrArg Int32.ofInt (by omega)))) ?_
            refine a_istore_n (pc := 101) (i := 3) (ls' := [(0, .ref 16), (1, .long (mkL Y)), (3, .int (Int32.ofInt ((sLen s : Int) - ((k + n2 : Nat) : Int) - ((cc - 1 : Nat) : Int)))), (4, .int (nI k)), (5, .int (nI j)), (6, .int (nI n2))]) dX1_choose_101 rfl (by decide) rfl ?_
            refine a_iload (pc := 102) (i := 4) dX1_choose_102 rfl ?_
            refine a_iload (pc := 104) (i := 6) dX1_choose_104 rfl ?_
            refine n_iadd (pc := 106) dX1_choose_106 ?_
            refine a_istore (pc := 107) (i := 4) (ls' := [(0, .ref 16), (1, .long (mkL Y)), (3, .int (Int32.ofInt ((sLen s : Int) - ((k + n2 : Nat) : Int) - ((cc - 1 : Nat) : Int)))), (4, .int (nI (k + n2))), (5, .int (nI j)), (6, .int (nI n2))]) dX1_choose_107 (by decide) rfl ?_
            refine n_iinc (pc := 109) (k := 1) (ls' := [(0, .ref 16), (1, .long (mkL Y)), (3, .int (Int32.ofInt ((sLen s : Int) - ((k + n2 : Nat) : Int) - ((cc - 1 : Nat) : Int)))), (4, .int (nI (k + n2))), (5, .int (nI (j + 1))), (6, .int (nI n2))]) dX1_choose_109 rfl (by decide) (by decide) rfl ?_
            refine a_goto (pc := 112) (tgt := 64) dX1_choose_112 (by decide) ?_
            refine a_drop (ls' := [(0, .ref 16), (1, .long (mkL Y)), (3, .int (Int32.ofInt ((sLen s : Int) - ((k + n2 : Nat) : Int) - ((cc - 1 : Nat) : Int)))), (4, .int (nI (k + n2))), (5, .int (nI (j + 1)))]) (by simp) ?_
            exact ih (j + 1) (k + n2) (cc - 1) (l1 ++ [(n2, q)]) H2 (by omega) (by omega) ⟨by rw [List.length_append, hlj.1]; rfl, by omega⟩ (by obtain ⟨l0, y1, y2⟩ := hpk.1.2; exact ⟨l0, by rw [plC_app, ← uX_assoc]; exact y1, by omega⟩) (fun l2 y => by rw [List.append_assoc]; rw [plC_app, ← uX_assoc] at y; exact hgp ((n2, q) :: l2) ⟨hpk, y⟩) hph2 (hf.trans f2) (e5.trans h5) (by omega)
    refine a_iconst (pc := 58) (v := nI 0) dX1_choose_58 (by decide) ?_
    refine a_istore (pc := 59) (i := 4) (ls' := [(0, .ref 16), (1, .long (mkL Y)), (3, .int (nI z)), (4, .int (nI 0))]) dX1_choose_59 (by decide) rfl ?_
    refine a_iconst (pc := 61) (v := nI 0) dX1_choose_61 (by decide) ?_
    refine a_istore (pc := 62) (i := 5) (ls' := [(0, .ref 16), (1, .long (mkL Y)), (3, .int (nI z)), (4, .int (nI 0)), (5, .int (nI 0))]) dX1_choose_62 (by decide) rfl ?_
    refine a_locs (ls' := [(0, .ref 16), (1, .long (mkL Y)), (3, .int (Int32.ofInt ((sLen s : Int) - ((0 : Nat) : Int) - ((sLen s - z : Nat) : Int)))), (4, .int (nI 0)), (5, .int (nI 0))]) (by rw [nI_oi z (by omega), show (z : Int) = (sLen s : Int) - ((0 : Nat) : Int) - ((sLen s - z : Nat) : Int) by omega]) ?_
    exact LP (sLen s + 1) 0 0 (sLen s - z) [] H1 (by omega) (by omega) ⟨rfl, Nat.le_refl _⟩ (by obtain ⟨l0, y1, y2⟩ := PZ_E.mp hz; exact ⟨l0, by rw [uX_0]; exact y1, by omega⟩) (fun l2 y => by rw [uX_0] at y; exact y) hp1 hf1 h51 (by omega)
  have LZ : SS s (fun i => i < sLen s ∧ (0 ≤ i ∨ noA i)) Y → ∀ (fu : Nat) (z : Nat) (H : AH), z < 800 → Fr [16, 17, 18, 19, 32, 33] h H → hI H 16 5 = hI h 16 5 → PH H s [] → (∀ z2 : Int, (z : Int) < z2 → ¬ PZ s 0 noA Y z2) → z < fu → AW X mX1_choose (d + 79) 0 0 37 [(0, .ref 16), (1, .long (mkL Y)), (3, .int (nI z))] [] H (fun r h2 => Fr [16, 17, 18, 19, 32, 33] h h2 ∧ hI h2 16 5 = hI h 16 5 ∧ PLo s Y h2 r) := by
    intro hss fu
    induction fu with
    | zero => intro z H _ _ _ _ _ hz; exact absurd hz (Nat.not_lt_zero _)
    | succ fu ih =>
      intro z H hz8 hf h5 hph hno hzf
      have hc := c.fr hf
      have hr : PRf H s f := r.fr hf h5 (fun a h1 h2 => by simp; omega)
      have hn2 := hc.1
      refine a_iload_n (pc := 37) (i := 3) dX1_choose_37 rfl rfl ?_
      refine n_if_le (pc := 38) (tgt := 58) dX1_choose_38 (by decide) (by omega) (fun c38 => ?_) (fun c38 => ?_)
      · have hz0 : PZ s 0 noA Y z := SS_PZ (Nat.zero_le _) (fun i hi => hi.elim) hss (by omega)
        exact AF z H hz0 hno hf h5 hph
      · skip
        refine a_aload_n (pc := 41) (i := 0) dX1_choose_41 rfl rfl ?_
        refine a_iconst (pc := 42) (v := nI 0) dX1_choose_42 (by decide) ?_
        refine a_iconst (pc := 43) (v := nI 0) dX1_choose_43 (by decide) ?_
        refine a_top (show (.int (nI 0) : Value) = .int (nI (mkN noA 8)) from congrArg Value.int msk_0) ?_
        refine a_lload_n (pc := 44) (i := 1) dX1_choose_44 rfl rfl ?_
        refine a_iload_n (pc := 45) (i := 3) dX1_choose_45 rfl rfl ?_
        refine a_top (show (.int (nI z) : Value) = .int (Int32.ofInt (z : Int)) from congrArg Value.int (nI_oi z (by omega))) ?_
        refine a_wV1 (pc := 46) (as := [.int (nI 0), .int (nI (mkN noA 8)), .long (mkL Y), .int (Int32.ofInt (z : Int))]) (b := 16) (ci := 1) (v := .int (bi (PZ s 0 noA Y (z : Int)))) dX1_choose_46 (lc_RX1_90 rfl) ceX1_canSave rfl (lt90 hn2 (shK_lt (show shK 16 = _ from rfl))) (sp_canSave (d := d + 1) g 8 hc hr (by omega) (Nat.zero_le _) (fun i hi => hi.elim) (by omega)) rfl rfl (Nat.le_of_ble_eq_true rfl) (fun H2 f2 r2 => ?_)
        have f3 := hf.trans (f2.mono (S2 := [16, 17, 18, 19, 32, 33]) (by intro a ha; simp at ha ⊢; omega))
        have k16 := f2.2.2 16 (by simp)
        have hph2 : PH H2 s [] := ⟨(congrFun k16.1 8).trans hph.1, (congrFun k16.2 9).trans hph.2.1, fun i hi => absurd hi (Nat.not_lt_zero _)⟩
        have h52 : hI H2 16 5 = hI h 16 5 := (congrFun k16.1 5).trans h5
        refine b_if_ne (pc := 49) (tgt := 58) dX1_choose_49 (by decide) (fun c49 => ?_) (fun c49 => ?_)
        · skip
          exact AF z H2 c49 hno f3 h52 hph2
        · skip
          refine n_idec (pc := 52) (ls' := [(0, .ref 16), (1, .long (mkL Y)), (3, .int (nI (z - 1)))]) dX1_choose_52 rfl (by omega) (by decide) rfl ?_
          refine a_goto (pc := 55) (tgt := 37) dX1_choose_55 (by decide) ?_
          exact ih (z - 1) H2 (by omega) f3 h52 hph2 (fun z2 h2 y => by
        rcases Int.lt_trichotomy z2 z with w | w | w
        · omega
        · exact c49 (w ▸ y)
        · exact hno z2 w y) (by omega)
  refine a_aload_n (pc := 0) (i := 0) dX1_choose_0 rfl rfl ?_
  refine a_iconst (pc := 1) (v := nI 0) dX1_choose_1 (by decide) ?_
  refine a_putI (pc := 2) (ci := 1) (k := 8) dX1_choose_2 (lf_RX1_40 rfl) (by decide) (Or.inl rfl) rfl (lt90 hn (shK_lt (show shK 16 = _ from rfl))) rfl ?_
  refine a_aload_n (pc := 5) (i := 0) dX1_choose_5 rfl rfl ?_
  refine a_lconst (pc := 6) (v := 0) dX1_choose_6 (by decide) ?_
  refine a_putL (pc := 7) (ci := 1) (k := 9) dX1_choose_7 (lf_RX1_82 rfl) (by decide) rfl rfl (lt90 hn (shK_lt (show shK 16 = _ from rfl))) rfl ?_
  obtain ⟨H0, hH0⟩ : ∃ H, H = sL (sI h 16 8 (nI 0)) 16 9 0 := ⟨_, rfl⟩
  have hf : Fr [16, 17, 18, 19, 32, 33] h H0 := by rw [hH0]; exact (Fr.refl.sI (by simp)).sL (by simp)
  have h5 : hI H0 16 5 = hI h 16 5 := by rw [hH0]; simp (disch := omega) only [rd1, rd2, rd3, rd4, rd5, rd6, rd7, hI_sL, hL_sI, hL_rI]
  have hph : PH H0 s [] := by rw [hH0]; exact ⟨by simp (disch := omega) only [rd1, rd2, rd3, rd4, rd5, rd6, rd7, hI_sL, hL_sI, hL_rI]; rfl, by simp (disch := omega) only [rd1, rd2, rd3, rd4, rd5, rd6, rd7, hI_sL, hL_sI, hL_rI]; exact mkL_0.symm, fun i hi => absurd hi (Nat.not_lt_zero _)⟩
  refine a_heap (h' := H0) hH0.symm ?_
  have hc := c.fr hf
  have hr : PRf H0 s f := r.fr hf h5 (fun a h1 h2 => by simp; omega)
  have hn2 := hc.1
  refine a_aload_n (pc := 10) (i := 0) dX1_choose_10 rfl rfl ?_
  refine a_iconst (pc := 11) (v := nI 0) dX1_choose_11 (by decide) ?_
  refine a_iconst (pc := 12) (v := nI 0) dX1_choose_12 (by decide) ?_
  refine a_top (show (.int (nI 0) : Value) = .int (nI (mkN noA 8)) from congrArg Value.int msk_0) ?_
  refine a_lload_n (pc := 13) (i := 1) dX1_choose_13 rfl rfl ?_
  refine a_wV1 (pc := 14) (as := [.int (nI 0), .int (nI (mkN noA 8)), .long (mkL Y)]) (b := 16) (ci := 1) (v := .int (bi (SS s (fun i => i < sLen s ∧ (0 ≤ i ∨ noA i)) Y))) dX1_choose_14 (lc_RX1_86 rfl) ceX1_canSpell rfl (lt90 hn2 (shK_lt (show shK 16 = _ from rfl))) (sp_canSpell (d := d + 18) hc g hr (Nat.zero_le _)) rfl rfl (Nat.le_of_ble_eq_true rfl) (fun H1 f1 r1 => ?_)
  have f3 := hf.trans (f1.mono (S2 := [16, 17, 18, 19, 32, 33]) (by intro a ha; simp at ha ⊢; omega))
  have k16 := f1.2.2 16 (by simp)
  have hph1 : PH H1 s [] := ⟨(congrFun k16.1 8).trans hph.1, (congrFun k16.2 9).trans hph.2.1, fun i hi => absurd hi (Nat.not_lt_zero _)⟩
  have h51 : hI H1 16 5 = hI h 16 5 := (congrFun k16.1 5).trans h5
  have hc1 := hc.fr f1
  have hr1 : PRf H1 s f := hr.fr f1 (congrFun k16.1 5) (fun a h1 h2 => by simp; omega)
  have hn3 := hc1.1
  refine b_if_ne (pc := 17) (tgt := 30) dX1_choose_17 (by decide) (fun c17 => ?_) (fun c17 => ?_)
  · skip
    refine a_aload_n (pc := 30) (i := 0) dX1_choose_30 rfl rfl ?_
    refine a_getR (pc := 31) (ci := 1) (k := 4) (b := 31) dX1_choose_31 (lf_RX1_30 rfl) (by decide) rfl rfl (lt90 hn3 (shK_lt (show shK 16 = _ from rfl))) hc1.2.2.2.2.2.2.1.2.2.2.2.1 ?_
    refine a_iconst (pc := 34) (v := nI 0) dX1_choose_34 (by decide) ?_
    refine a_iald (pc := 35) (j := 0) dX1_choose_35 rfl (lt90 hn3 (shK_lt (show shK 31 = _ from rfl))) rfl (by omega) ?_
    refine a_top (show (.int (hI H1 31 0) : Value) = .int (nI (f 0)) from congrArg Value.int (hr1.2.2.2.2.1 0 (Nat.zero_le _))) ?_
    refine a_istore_n (pc := 36) (i := 3) (ls' := [(0, .ref 16), (1, .long (mkL Y)), (3, .int (nI (f 0)))]) dX1_choose_36 rfl (by decide) rfl ?_
    exact LZ c17 (f 0 + 1) (f 0) H1 (by omega) f3 h51 hph1 (fun z2 h2 y => by have := MSB_PZ r.2.2.2.2.2.1 y; omega) (by omega)
  · have hno : ∀ l, ¬ plV s 0 Y l := fun l y => c17 (PZ_SS g (Nat.zero_le _) (fun i hi => hi.elim) (PZ_E.mpr ⟨l, y, show (l.length : Int) + ((sLen s : Int) - l.length) + (0 : Nat) ≤ sLen s by omega⟩))
    refine a_aload_n (pc := 20) (i := 0) dX1_choose_20 rfl rfl ?_
    refine a_iconst (pc := 21) (v := (-1)) dX1_choose_21 (by decide) ?_
    refine a_putI (pc := 22) (ci := 1) (k := 8) dX1_choose_22 (lf_RX1_40 rfl) (by decide) (Or.inl rfl) rfl (lt90 hn3 (shK_lt (show shK 16 = _ from rfl))) rfl ?_
    refine a_aload_n (pc := 25) (i := 0) dX1_choose_25 rfl rfl ?_
    refine a_getI (pc := 26) (ci := 1) (k := 8) dX1_choose_26 (lf_RX1_40 rfl) (by decide) rfl rfl (lt90 hn3 (shK_lt (show shK 16 = _ from rfl))) ?_
    refine a_top (show (.int (hI (sI H1 16 8 ((-1))) 16 8) : Value) = .int ((-1)) from congrArg Value.int rd2_s) ?_
    exact a_ireturn (pc := 29) dX1_choose_29 rfl rfl (⟨f3.sI (by simp), by simp (disch := omega) only [rd1, rd2, rd3, rd4, rd5, rd6, rd7, hI_sL, hL_sI, hL_rI]; exact h51, Or.inr ⟨hno, rfl, by simp (disch := omega) only [rd1, rd2, rd3, rd4, rd5, rd6, rd7, hI_sL, hL_sI, hL_rI], hph1.2.1.trans mkL_0⟩⟩)
