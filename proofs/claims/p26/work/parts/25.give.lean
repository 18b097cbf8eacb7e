/-! the class Matching: clear, give -/
/-- the object at m: g letters have got cells, with these choices -/
def ML (h : AH) (m g : Nat) (C : Nat → Nat → Prop) : Prop := ∃ W : Nat → Option Nat, hI h m 2 = nI g ∧ MW g C W ∧ (∀ v, v < g → ∃ c, W c = some v) ∧ (∀ j, j < g → hL h (m + 1) j = mkL (C j)) ∧ ∀ c, c < 48 → hI h (m + 2) c = enc (W c)
theorem ML.fr {S : List Nat} {h h2 : AH} {m g : Nat} {C : Nat → Nat → Prop} (r : ML h m g C) (f : Fr S h h2) (hs : ∀ a, m ≤ a → a ≤ m + 2 → a ∉ S) : ML h2 m g C := by
  have e0 := (f.2.2 m (hs m (Nat.le_refl _) (by omega))).1
  have e1 := (f.2.2 (m + 1) (hs _ (by omega) (by omega))).2
  have e2 := (f.2.2 (m + 2) (hs _ (by omega) (by omega))).1
  unfold ML at r ⊢
  rw [e0, e1, e2]
  exact r
theorem ML.SD {h : AH} {m g : Nat} {C : Nat → Nat → Prop} (r : ML h m g C) : SD g C := by
  obtain ⟨W, -, h1, h2, -⟩ := r
  exact SD_of h1 h2
theorem MW_0 {C : Nat → Nat → Prop} : MW 0 C (fun _ => none) := ⟨fun _ _ _ h => (by cases h), fun _ _ h => (by cases h)⟩
set_option maxHeartbeats 4000000 in
set_option maxRecDepth 100000 in
theorem sp_clear {d m : Nat} {h : AH} (c : CB h) (hm : shMt m) : AC mX0_clear (d + 1) 0 0 [.ref m] h (Qf [m, m + 2] none h (fun h2 => ∀ C, ML h2 m 0 C)) := by
  have hn := c.1
  have hk := shMt_sh hm
  refine AC.of (by decide) rfl (Nat.le_of_ble_eq_true rfl) (fun X => ?_)
  show AW X mX0_clear (d + 1) 0 0 0 [(0, .ref m)] [] h (Qf [m, m + 2] none h (fun h2 => ∀ C, ML h2 m 0 C))
  refine a_aload_n (pc := 0) (i := 0) dX0_clear_0 rfl rfl ?_
  refine a_iconst (pc := 1) (v := nI 0) dX0_clear_1 (by decide) ?_
  refine a_putI (pc := 2) (ci := 0) (k := 2) dX0_clear_2 (lf_RX0_19 rfl) (by decide) (Or.inl rfl) hk.1 (lt90 hn (shK_lt hk.1)) rfl ?_
  refine a_aload_n (pc := 5) (i := 0) dX0_clear_5 rfl rfl ?_
  refine a_getR (pc := 6) (ci := 0) (k := 1) (b := m + 2) dX0_clear_6 (lf_RX0_15 rfl) (by decide) rfl hk.1 (lt90 hn (shK_lt hk.1)) (c.m hm).2 ?_
  refine a_iconst (pc := 9) (v := (-1)) dX0_clear_9 (by decide) ?_
  refine a_vS0 (pc := 10) (as := [.ref (m + 2), .int ((-1))]) (h' := (rI (sI h m 2 (nI 0)) (m + 2) (fun j => if j < 48 then (-1) else hI (sI h m 2 (nI 0)) (m + 2) j))) dX0_clear_10 (lc_RX0_23 rfl) ceJ7_fill_53178 (sp_fill hn hk.2.2) rfl rfl (Nat.le_of_ble_eq_true rfl) rfl ?_
  exact a_return (pc := 13) dX0_clear_13 rfl (⟨rfl, (Fr.refl.sI (by simp)).rI (by simp), fun C => ⟨fun _ => none, by simp (disch := omega) only [rd1, rd2, rd3, rd4, rd5, rd6, rd7, hI_sL, hL_sI, hL_rI], MW_0, fun v hv => absurd hv (Nat.not_lt_zero _), fun j hj => absurd hj (Nat.not_lt_zero _), fun c hc => by simp (disch := omega) only [rd1, rd2, rd3, rd4, rd5, rd6, rd7, hI_sL, hL_sI, hL_rI]; rw [if_pos hc]; rfl⟩⟩)
set_option maxHeartbeats 4000000 in
set_option maxRecDepth 100000 in
theorem sp_give {d m g : Nat} {h : AH} {C : Nat → Nat → Prop} {D : Nat → Prop} (c : CB h) (hm : shMt m) (hg : g < 24) (r : ML h m g C) : AC mX0_give (d + 49) 0 0 [.ref m, .long (mkL D)] h (Qf [m, m + 1, m + 2] (some (.int (bi (SD (g + 1) (cset C g D))))) h (fun h2 => (SD (g + 1) (cset C g D) → ML h2 m (g + 1) (cset C g D)) ∧ (¬ SD (g + 1) (cset C g D) → ML h2 m g C))) := by
  have hn := c.1
  have hk := shMt_sh hm
  refine AC.of (by decide) rfl (Nat.le_of_ble_eq_true rfl) (fun X => ?_)
  show AW X mX0_give (d + 48 + 1) 0 0 0 [(0, .ref m), (1, .long (mkL D))] [] h (Qf [m, m + 1, m + 2] (some (.int (bi (SD (g + 1) (cset C g D))))) h (fun h2 => (SD (g + 1) (cset C g D) → ML h2 m (g + 1) (cset C g D)) ∧ (¬ SD (g + 1) (cset C g D) → ML h2 m g C)))
  obtain ⟨W, r1, r2, r3, r4, r5⟩ := r
  refine a_aload_n (pc := 0) (i := 0) dX0_give_0 rfl rfl ?_
  refine a_getI (pc := 1) (ci := 0) (k := 2) dX0_give_1 (lf_RX0_19 rfl) (by decide) rfl hk.1 (lt90 hn (shK_lt hk.1)) ?_
  refine a_top (show (.int (hI h m 2) : Value) = .int (nI g) from congrArg Value.int r1) ?_
  refine n_if_lt (pc := 4) (tgt := 16) dX0_give_4 (by decide) (by omega) ?_
  refine a_aload_n (pc := 7) (i := 0) dX0_give_7 rfl rfl ?_
  refine a_getI (pc := 8) (ci := 0) (k := 2) dX0_give_8 (lf_RX0_19 rfl) (by decide) rfl hk.1 (lt90 hn (shK_lt hk.1)) ?_
  refine a_top (show (.int (hI h m 2) : Value) = .int (nI g) from congrArg Value.int r1) ?_
  refine a_bipush (pc := 11) (v := nI 24) dX0_give_11 (by decide) ?_
  refine n_icmp_lt (pc := 13) (tgt := 18) dX0_give_13 (by decide) (by omega) (by omega) (fun c13 => ?_) (fun c13 => ?_)
  · skip
    refine a_aload_n (pc := 18) (i := 0) dX0_give_18 rfl rfl ?_
    refine a_getR (pc := 19) (ci := 0) (k := 0) (b := m + 1) dX0_give_19 (lf_RX0_9 rfl) (by decide) rfl hk.1 (lt90 hn (shK_lt hk.1)) (c.m hm).1 ?_
    refine a_aload_n (pc := 22) (i := 0) dX0_give_22 rfl rfl ?_
    refine a_getI (pc := 23) (ci := 0) (k := 2) dX0_give_23 (lf_RX0_19 rfl) (by decide) rfl hk.1 (lt90 hn (shK_lt hk.1)) ?_
    refine a_top (show (.int (hI h m 2) : Value) = .int (nI g) from congrArg Value.int r1) ?_
    refine a_lload_n (pc := 26) (i := 1) dX0_give_26 rfl rfl ?_
    refine a_last (pc := 27) (j := g) dX0_give_27 hk.2.1 (lt90 hn (shK_lt hk.2.1)) rfl (by omega) ?_
    refine a_aload_n (pc := 28) (i := 0) dX0_give_28 rfl rfl ?_
    refine a_lconst (pc := 29) (v := 0) dX0_give_29 (by decide) ?_
    refine a_putL (pc := 30) (ci := 0) (k := 3) dX0_give_30 (lf_RX0_29 rfl) (by decide) rfl hk.1 (lt90 hn (shK_lt hk.1)) rfl ?_
    obtain ⟨H, hH⟩ : ∃ H, H = sL (sL h (m + 1) g (mkL D)) m 3 0 := ⟨_, rfl⟩
    have f1 : Fr [m, m + 1, m + 2] h H := by rw [hH]; exact (Fr.refl.sL (by simp)).sL (by simp)
    have i1 : hI H = hI h := by rw [hH]; rfl
    have s1 : MS H m g (cset C g D) (fun _ => False) W := by
        rw [hH]
        refine ⟨by rw [mkL_0]; simp (disch := omega) only [rd1, rd2, rd3, rd4, rd5, rd6, rd7, hI_sL, hL_sI, hL_rI], fun j hj => ?_, fun b hb => by simp (disch := omega) only [rd1, rd2, rd3, rd4, rd5, rd6, rd7, hI_sL, hL_sI, hL_rI]; exact r5 b hb⟩
        rcases Nat.lt_or_ge j g with z | z
        · rw [cset_ne (by omega)]; simp (disch := omega) only [rd1, rd2, rd3, rd4, rd5, rd6, rd7, hI_sL, hL_sI, hL_rI]; exact r4 j z
        · have e : j = g := by omega
          subst e
          rw [cset_eq]; simp (disch := omega) only [rd1, rd2, rd3, rd4, rd5, rd6, rd7, hI_sL, hL_sI, hL_rI]
    refine a_heap (h' := H) hH.symm ?_
    have c1 := c.fr f1
    have hn1 := c1.1
    refine a_aload_n (pc := 33) (i := 0) dX0_give_33 rfl rfl ?_
    refine a_aload_n (pc := 34) (i := 0) dX0_give_34 rfl rfl ?_
    refine a_getI (pc := 35) (ci := 0) (k := 2) dX0_give_35 (lf_RX0_19 rfl) (by decide) rfl hk.1 (lt90 hn1 (shK_lt hk.1)) ?_
    refine a_top (show (.int (hI H m 2) : Value) = .int (nI g) from congrArg Value.int ((congrFun (congrFun i1 m) 2).trans r1)) ?_
    refine a_iconst (pc := 38) (v := nI 0) dX0_give_38 (by decide) ?_
    have hp : FP m g g 0 (cset C g D) (fun _ => False) W H := ⟨⟨c1, c13, Nat.le_refl _⟩, MW_cset r2, fun b hb => by have := (r2.2 b g hb).1.1; omega, Nat.zero_le _, s1⟩
    refine a_yV (pc := 39) (as := [.int (nI g), .int (nI 0)]) (b := m) (ci := 0) dX0_give_39 (lc_RX0_33 rfl) ceX0_findCell hk.1 (lt90 hn1 (shK_lt hk.1)) (sp_findCell (d := d) hm 24 rfl hp) rfl rfl (Nat.le_of_ble_eq_true rfl) FR_n (fun b1 H2 q2 => ?_)
    obtain ⟨T3, W3, f3, g3, s3, t3, n3⟩ := q2
    have f2 : Fr [m, m + 1, m + 2] h H2 := f1.trans (f3.mono (by simp))
    have c2 := c1.fr f3
    have hn2 := c2.1
    have v2 : hI H2 m 2 = nI g := by rw [g3, i1]; exact r1
    refine b_if_ne (pc := 42) (tgt := 47) dX0_give_42 (by decide) (fun c42 => ?_) (fun c42 => ?_)
    · obtain ⟨w1, w2⟩ := MW_more (MW_cset r2) r3 (t3 c42)
      have hsd : SD (g + 1) (cset C g D) := SD_of w1 w2
      refine a_aload_n (pc := 47) (i := 0) dX0_give_47 rfl rfl ?_
      refine a_dup (pc := 48) dX0_give_48 rfl ?_
      refine a_getI (pc := 49) (ci := 0) (k := 2) dX0_give_49 (lf_RX0_19 rfl) (by decide) rfl hk.1 (lt90 hn2 (shK_lt hk.1)) ?_
      refine a_top (show (.int (hI H2 m 2) : Value) = .int (nI g) from congrArg Value.int v2) ?_
      refine a_iconst (pc := 52) (v := nI 1) dX0_give_52 (by decide) ?_
      refine n_iadd (pc := 53) dX0_give_53 ?_
      refine a_putI (pc := 54) (ci := 0) (k := 2) dX0_give_54 (lf_RX0_19 rfl) (by decide) (Or.inl rfl) hk.1 (lt90 hn2 (shK_lt hk.1)) rfl ?_
      refine a_iconst (pc := 57) (v := nI 1) dX0_give_57 (by decide) ?_
      exact a_ireturn (pc := 58) dX0_give_58 rfl rfl (⟨by rw [bi_t hsd]; rfl, f2.sI (by simp), fun _ => ⟨W3, by simp (disch := omega) only [rd1, rd2, rd3, rd4, rd5, rd6, rd7, hI_sL, hL_sI, hL_rI], w1, w2, fun j hj => by simp (disch := omega) only [rd1, rd2, rd3, rd4, rd5, rd6, rd7, hI_sL, hL_sI, hL_rI]; exact s3.2.1 j (by omega), fun b hb => by simp (disch := omega) only [rd1, rd2, rd3, rd4, rd5, rd6, rd7, hI_sL, hL_sI, hL_rI]; exact s3.2.2 b hb⟩, fun z => absurd hsd z⟩)
    · obtain ⟨e3, ft⟩ := n3 c42
      have hsd : ¬ SD (g + 1) (cset C g D) := SD_no (MW_cset r2) ft
      subst e3
      refine a_iconst (pc := 45) (v := nI 0) dX0_give_45 (by decide) ?_
      exact a_ireturn (pc := 46) dX0_give_46 rfl rfl (⟨by rw [bi_f hsd]; rfl, f2, fun z => absurd z hsd, fun _ => ⟨W3, v2, r2, r3, fun j hj => (s3.2.1 j (by omega)).trans (by rw [cset_ne (by omega)]), s3.2.2⟩⟩)
  · exact absurd c13 (by omega)
