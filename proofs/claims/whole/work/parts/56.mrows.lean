/-! the class LetterCutsModel: rows that are copied and changed -/
def is186 (k : Nat) : Prop := shK k = some (.inr (0, 186))
theorem is186_h {i : Nat} (h : i < 8) : is186 (72 + i) := by
  have h0 : ∀ i : Fin 8, shK (72 + i.val) = some (.inr (0, 186)) := by decide +kernel
  exact h0 ⟨i, h⟩
theorem DM_cp {h h2 : AH} {a b : Nat} {s : SH} (g : GS s) (r : DM h a s) (e : ∀ j, j < 186 → hI h2 b j = hI h a j) : DM h2 b s := by
  have gc := cells48 g
  have gh := g.2.1
  have gl := g.2.2.2.2.2.1
  obtain ⟨⟨r0, r1, r2, r3, r4, r5⟩, rl, rs, rg, rm⟩ := r
  exact ⟨⟨(e 0 (by omega)).trans r0, (e 1 (by omega)).trans r1, (e 2 (by omega)).trans r2, (e 3 (by omega)).trans r3, (e 4 (by omega)).trans r4, (e 5 (by omega)).trans r5⟩, fun x p hx hp => (e _ (by omega)).trans (rl x p hx hp), fun x q hx hq => (e _ (by omega)).trans (rs x q hx hq), fun c hc => (e _ (by omega)).trans (rg c hc), fun j hj => (e _ (by omega)).trans (rm j hj)⟩
theorem CB.h8 {h : AH} (c : CB h) {i : Nat} (hi : i < 8) : hR h 71 i = some (72 + i) := c.2.2.2.2.2.2.2.2.2 i hi
set_option maxHeartbeats 1500000 in
set_option maxRecDepth 100000 in
theorem s5_copy {d a b : Nat} {h : AH} (hn : hN h = 90) (ha : is186 a) (hb : is186 b) (hab : a ≠ b) : AC mX5_copy d 0 0 [.ref a, .ref b] h (Qf [b] none h (fun h2 => ∀ j, j < 186 → hI h2 b j = hI h a j)) := by
  refine AC.of (by decide) rfl (Nat.le_of_ble_eq_true rfl) (fun X => ?_)
  show AW X mX5_copy d 0 0 0 [(0, .ref a), (1, .ref b)] [] h (Qf [b] none h (fun h2 => ∀ j, j < 186 → hI h2 b j = hI h a j))
  have LP : ∀ (fu : Nat) (i : Nat) (H : AH), i ≤ 186 → Fr [b] h H → (∀ j, j < i → hI H b j = hI h a j) → 186 - i < fu → AW X mX5_copy d 0 0 2 [(0, .ref a), (1, .ref b), (2, .int (nI i))] [] H (Qf [b] none h (fun h2 => ∀ j, j < 186 → hI h2 b j = hI h a j)) := by
    intro fu
    induction fu with
    | zero => intro i H hi hf he hz; exact absurd hz (Nat.not_lt_zero _)
    | succ fu ih =>
      intro i H hi hf he hz
      have hn1 : hN H = 90 := hf.1.trans hn
      refine a_iload_n (pc := 2) (i := 2) dX5_copy_2 rfl rfl ?_
      refine a_sipush (pc := 3) (v := nI 186) dX5_copy_3 (by decide) ?_
      refine n_icmp_ge (pc := 6) (tgt := 21) dX5_copy_6 (by decide) (by omega) (by omega) (fun c6 => ?_) (fun c6 => ?_)
      · have ei : i = 186 := by omega
        subst ei
        exact a_return (pc := 21) dX5_copy_21 rfl (⟨rfl, hf, he⟩)
      · skip
        refine a_aload_n (pc := 9) (i := 1) dX5_copy_9 rfl rfl ?_
        refine a_iload_n (pc := 10) (i := 2) dX5_copy_10 rfl rfl ?_
        refine a_aload_n (pc := 11) (i := 0) dX5_copy_11 rfl rfl ?_
        refine a_iload_n (pc := 12) (i := 2) dX5_copy_12 rfl rfl ?_
        refine a_iald (pc := 13) (j := i) dX5_copy_13 ha (lt90 hn1 (shK_lt ha)) rfl (by omega) ?_
        refine a_top (show (.int (hI H a i) : Value) = .int (hI h a i) from congrArg Value.int (congrFun (hf.2.2 a (by simpa using hab)).1 i)) ?_
        refine a_iast (pc := 14) (j := i) dX5_copy_14 hb (lt90 hn1 (shK_lt hb)) rfl (by omega) ?_
        refine n_iinc (pc := 15) (k := 1) (ls' := [(0, .ref a), (1, .ref b), (2, .int (nI (i + 1)))]) dX5_copy_15 rfl (by decide) (by decide) rfl ?_
        refine a_goto (pc := 18) (tgt := 2) dX5_copy_18 (by decide) ?_
        exact ih (i + 1) _ (by omega) (hf.sI (by simp)) (fun j hj => by
      by_cases e : j = i
      · rw [rd2 ⟨rfl, e⟩, e]
      · rw [rd1 (Or.inr e)]; exact he j (by omega)) (by omega)
  refine a_iconst (pc := 0) (v := nI 0) dX5_copy_0 (by decide) ?_
  refine a_istore_n (pc := 1) (i := 2) (ls' := [(0, .ref a), (1, .ref b), (2, .int (nI 0))]) dX5_copy_1 rfl (by decide) rfl ?_
  exact LP 187 0 h (Nat.zero_le _) Fr.refl (fun j hj => absurd hj (by omega)) (by omega)
set_option maxHeartbeats 1500000 in
set_option maxRecDepth 100000 in
theorem s5_laySheet {d k w hh : Nat} {h : AH} (hn : hN h = 90) (hk : is186 k) (hw : w ≤ 8) (hhh : hh ≤ 6) : AC mX5_laySheet d 0 0 [.ref k, .int (nI w), .int (nI hh)] h (Qf [k] none h (fun h2 => DM h2 k (newS w hh))) := by
  have hc48 : sCells (newS w hh) ≤ 48 := Nat.mul_le_mul hw hhh
  refine AC.of (by decide) rfl (Nat.le_of_ble_eq_true rfl) (fun X => ?_)
  show AW X mX5_laySheet d 0 0 0 [(0, .ref k), (1, .int (nI w)), (2, .int (nI hh))] [] h (Qf [k] none h (fun h2 => DM h2 k (newS w hh)))
  have L3 : ∀ (fu : Nat) (i : Nat) (H : AH), i ≤ 12 → Fr [k] h H → (∀ j, j < 6 → hI H k j = if j = 0 then nI w else if j = 1 then nI hh else if j = 2 then nI 1 else nI 0) → (∀ j, j < 96 → hI H k (6 + j) = -1) → (∀ j, 114 ≤ j → j < 186 → hI H k j = nI 0) → (∀ j, j < i → hI H k (102 + j) = nI 1) → 12 - i < fu → AW X mX5_laySheet d 0 0 54 [(0, .ref k), (1, .int (nI w)), (2, .int (nI hh)), (3, .int (nI i))] [] H (Qf [k] none h (fun h2 => DM h2 k (newS w hh))) := by
    intro fu
    induction fu with
    | zero => intro i H hi hf h0 h1 h2 h3 hz; exact absurd hz (Nat.not_lt_zero _)
    | succ fu ih =>
      intro i H hi hf h0 h1 h2 h3 hz
      have hn1 : hN H = 90 := hf.1.trans hn
      refine a_iload_n (pc := 54) (i := 3) dX5_laySheet_54 rfl rfl ?_
      refine a_bipush (pc := 55) (v := nI 12) dX5_laySheet_55 (by decide) ?_
      refine n_icmp_ge (pc := 57) (tgt := 73) dX5_laySheet_57 (by decide) (by omega) (by omega) (fun cc => ?_) (fun cc => ?_)
      · have ei : i = 12 := by omega
        subst ei
        exact a_return (pc := 73) dX5_laySheet_73 rfl (⟨rfl, hf, ⟨⟨h0 0 (by omega), h0 1 (by omega), h0 2 (by omega), h0 3 (by omega), h0 4 (by omega), h0 5 (by omega)⟩, fun x q hx hq => by rw [show 6 + 48 * x + q = 6 + (48 * x + q) by omega]; exact h1 _ (by have : q < sCells (newS w hh) := hq; omega), fun x r hx hr => by rw [show 102 + 6 * x + r = 102 + (6 * x + r) by omega]; exact h3 _ (by have : r < hh := hr; omega), fun c hc => by rw [h2 _ (by omega) (by omega)]; exact (bi_f id).symm, fun j hj => absurd hj (Nat.not_lt_zero _)⟩⟩)
      · skip
        refine a_aload_n (pc := 60) (i := 0) dX5_laySheet_60 rfl rfl ?_
        refine a_bipush (pc := 61) (v := nI 102) dX5_laySheet_61 (by decide) ?_
        refine a_iload_n (pc := 63) (i := 3) dX5_laySheet_63 rfl rfl ?_
        refine n_iadd (pc := 64) dX5_laySheet_64 ?_
        refine a_iconst (pc := 65) (v := nI 1) dX5_laySheet_65 (by decide) ?_
        refine a_iast (pc := 66) (j := (102 + i)) dX5_laySheet_66 hk (lt90 hn1 (shK_lt hk)) rfl (by omega) ?_
        refine n_iinc (pc := 67) (k := 1) (ls' := [(0, .ref k), (1, .int (nI w)), (2, .int (nI hh)), (3, .int (nI (i + 1)))]) dX5_laySheet_67 rfl (by decide) (by decide) rfl ?_
        refine a_goto (pc := 70) (tgt := 54) dX5_laySheet_70 (by decide) ?_
        exact ih (i + 1) _ (by omega) (hf.sI (by simp)) (fun j hj => by rw [rd1 (by omega)]; exact h0 j hj) (fun j hj => by rw [rd1 (by omega)]; exact h1 j hj) (fun j h5 hj => by rw [rd1 (by omega)]; exact h2 j h5 hj) (fun j hj => by
      by_cases e : j = i
      · rw [rd2 ⟨rfl, by omega⟩]
      · rw [rd1 (by omega)]; exact h3 j (by omega)) (by omega)
  have L2 : ∀ (fu : Nat) (i : Nat) (H : AH), i ≤ 96 → Fr [k] h H → (∀ j, j < 6 → hI H k j = if j = 0 then nI w else if j = 1 then nI hh else if j = 2 then nI 1 else nI 0) → (∀ j, 114 ≤ j → j < 186 → hI H k j = nI 0) → (∀ j, j < i → hI H k (6 + j) = -1) → 96 - i < fu → AW X mX5_laySheet d 0 0 33 [(0, .ref k), (1, .int (nI w)), (2, .int (nI hh)), (3, .int (nI i))] [] H (Qf [k] none h (fun h2 => DM h2 k (newS w hh))) := by
    intro fu
    induction fu with
    | zero => intro i H hi hf h0 h2 h1 hz; exact absurd hz (Nat.not_lt_zero _)
    | succ fu ih =>
      intro i H hi hf h0 h2 h1 hz
      have hn1 : hN H = 90 := hf.1.trans hn
      refine a_iload_n (pc := 33) (i := 3) dX5_laySheet_33 rfl rfl ?_
      refine a_bipush (pc := 34) (v := nI 96) dX5_laySheet_34 (by decide) ?_
      refine n_icmp_ge (pc := 36) (tgt := 52) dX5_laySheet_36 (by decide) (by omega) (by omega) (fun cc => ?_) (fun cc => ?_)
      · have ei : i = 96 := by omega
        subst ei
        refine a_iconst (pc := 52) (v := nI 0) dX5_laySheet_52 (by decide) ?_
        refine a_istore_n (pc := 53) (i := 3) (ls' := [(0, .ref k), (1, .int (nI w)), (2, .int (nI hh)), (3, .int (nI 0))]) dX5_laySheet_53 rfl (by decide) rfl ?_
        exact L3 13 0 H (Nat.zero_le _) hf h0 h1 h2 (fun j hj => absurd hj (by omega)) (by omega)
      · skip
        refine a_aload_n (pc := 39) (i := 0) dX5_laySheet_39 rfl rfl ?_
        refine a_bipush (pc := 40) (v := nI 6) dX5_laySheet_40 (by decide) ?_
        refine a_iload_n (pc := 42) (i := 3) dX5_laySheet_42 rfl rfl ?_
        refine n_iadd (pc := 43) dX5_laySheet_43 ?_
        refine a_iconst (pc := 44) (v := (-1)) dX5_laySheet_44 (by decide) ?_
        refine a_iast (pc := 45) (j := (6 + i)) dX5_laySheet_45 hk (lt90 hn1 (shK_lt hk)) rfl (by omega) ?_
        refine n_iinc (pc := 46) (k := 1) (ls' := [(0, .ref k), (1, .int (nI w)), (2, .int (nI hh)), (3, .int (nI (i + 1)))]) dX5_laySheet_46 rfl (by decide) (by decide) rfl ?_
        refine a_goto (pc := 49) (tgt := 33) dX5_laySheet_49 (by decide) ?_
        exact ih (i + 1) _ (by omega) (hf.sI (by simp)) (fun j hj => by rw [rd1 (by omega)]; exact h0 j hj) (fun j h5 hj => by rw [rd1 (by omega)]; exact h2 j h5 hj) (fun j hj => by
      by_cases e : j = i
      · rw [rd2 ⟨rfl, by omega⟩]
      · rw [rd1 (by omega)]; exact h1 j (by omega)) (by omega)
  have L1 : ∀ (fu : Nat) (i : Nat) (H : AH), i ≤ 186 → Fr [k] h H → (∀ j, j < i → hI H k j = nI 0) → 186 - i < fu → AW X mX5_laySheet d 0 0 2 [(0, .ref k), (1, .int (nI w)), (2, .int (nI hh)), (3, .int (nI i))] [] H (Qf [k] none h (fun h2 => DM h2 k (newS w hh))) := by
    intro fu
    induction fu with
    | zero => intro i H hi hf h4 hz; exact absurd hz (Nat.not_lt_zero _)
    | succ fu ih =>
      intro i H hi hf h4 hz
      have hn1 : hN H = 90 := hf.1.trans hn
      refine a_iload_n (pc := 2) (i := 3) dX5_laySheet_2 rfl rfl ?_
      refine a_sipush (pc := 3) (v := nI 186) dX5_laySheet_3 (by decide) ?_
      refine n_icmp_ge (pc := 6) (tgt := 19) dX5_laySheet_6 (by decide) (by omega) (by omega) (fun cc => ?_) (fun cc => ?_)
      · have ei : i = 186 := by omega
        subst ei
        refine a_aload_n (pc := 19) (i := 0) dX5_laySheet_19 rfl rfl ?_
        refine a_iconst (pc := 20) (v := nI 0) dX5_laySheet_20 (by decide) ?_
        refine a_iload_n (pc := 21) (i := 1) dX5_laySheet_21 rfl rfl ?_
        refine a_iast (pc := 22) (j := 0) dX5_laySheet_22 hk (lt90 hn1 (shK_lt hk)) rfl (by omega) ?_
        refine a_aload_n (pc := 23) (i := 0) dX5_laySheet_23 rfl rfl ?_
        refine a_iconst (pc := 24) (v := nI 1) dX5_laySheet_24 (by decide) ?_
        refine a_iload_n (pc := 25) (i := 2) dX5_laySheet_25 rfl rfl ?_
        refine a_iast (pc := 26) (j := 1) dX5_laySheet_26 hk (lt90 hn1 (shK_lt hk)) rfl (by omega) ?_
        refine a_aload_n (pc := 27) (i := 0) dX5_laySheet_27 rfl rfl ?_
        refine a_iconst (pc := 28) (v := nI 2) dX5_laySheet_28 (by decide) ?_
        refine a_iconst (pc := 29) (v := nI 1) dX5_laySheet_29 (by decide) ?_
        refine a_iast (pc := 30) (j := 2) dX5_laySheet_30 hk (lt90 hn1 (shK_lt hk)) rfl (by omega) ?_
        refine a_iconst (pc := 31) (v := nI 0) dX5_laySheet_31 (by decide) ?_
        refine a_istore_n (pc := 32) (i := 3) (ls' := [(0, .ref k), (1, .int (nI w)), (2, .int (nI hh)), (3, .int (nI 0))]) dX5_laySheet_32 rfl (by decide) rfl ?_
        exact L2 97 0 _ (Nat.zero_le _) (((hf.sI (by simp)).sI (by simp)).sI (by simp)) (fun j hj => by
      rcases (by omega : j = 0 ∨ j = 1 ∨ j = 2 ∨ 3 ≤ j) with rfl | rfl | rfl | h9
      · simp (disch := omega) only [rd1, rd2]; rfl
      · simp (disch := omega) only [rd1, rd2]; rfl
      · simp (disch := omega) only [rd1, rd2]; rfl
      · rw [rd1 (by omega), rd1 (by omega), rd1 (by omega), if_neg (by omega), if_neg (by omega), if_neg (by omega)]; exact h4 j (by omega)) (fun j h5 hj => by rw [rd1 (by omega), rd1 (by omega), rd1 (by omega)]; exact h4 j hj) (fun j hj => absurd hj (by omega)) (by omega)
      · skip
        refine a_aload_n (pc := 9) (i := 0) dX5_laySheet_9 rfl rfl ?_
        refine a_iload_n (pc := 10) (i := 3) dX5_laySheet_10 rfl rfl ?_
        refine a_iconst (pc := 11) (v := nI 0) dX5_laySheet_11 (by decide) ?_
        refine a_iast (pc := 12) (j := i) dX5_laySheet_12 hk (lt90 hn1 (shK_lt hk)) rfl (by omega) ?_
        refine n_iinc (pc := 13) (k := 1) (ls' := [(0, .ref k), (1, .int (nI w)), (2, .int (nI hh)), (3, .int (nI (i + 1)))]) dX5_laySheet_13 rfl (by decide) (by decide) rfl ?_
        refine a_goto (pc := 16) (tgt := 2) dX5_laySheet_16 (by decide) ?_
        exact ih (i + 1) _ (by omega) (hf.sI (by simp)) (fun j hj => by
      by_cases e : j = i
      · rw [rd2 ⟨rfl, by omega⟩]
      · rw [rd1 (by omega)]; exact h4 j (by omega)) (by omega)
  refine a_iconst (pc := 0) (v := nI 0) dX5_laySheet_0 (by decide) ?_
  refine a_istore_n (pc := 1) (i := 3) (ls' := [(0, .ref k), (1, .int (nI w)), (2, .int (nI hh)), (3, .int (nI 0))]) dX5_laySheet_1 rfl (by decide) rfl ?_
  exact L1 187 0 h (Nat.zero_le _) Fr.refl (fun j hj => absurd hj (by omega)) (by omega)
abbrev SM : List Nat := [66, 72, 73, 74, 75, 76, 77, 78, 79]
theorem MM.hst {h h2 : AH} {t : ST} (m : MM h t) (f : Fr SM h h2) (k : ∀ j, j ≠ 12 → hI h2 66 j = hI h 66 j) {n : Nat} {q : Nat → SH} (hn : n ≤ 8) (gq : ∀ i, GS (q i)) (e : hI h2 66 12 = nI n) (hq : ∀ i, i < n → DM h2 (72 + i) (q i)) : MM h2 (tC t, (tB t, tY t), tE t, (n, q)) := by
  obtain ⟨c, g, r, ⟨b1, b2⟩, a7, a12, p⟩ := m
  exact ⟨c.fr f, ⟨g.1, g.2.1, g.2.2.1, hn, gq⟩, r.fr f (by simp), ⟨(k 2 (by omega)).trans b1, fun j hj => by rw [(f.2.2 67 (by simp)).1]; exact b2 j hj⟩, (k 7 (by omega)).trans a7, e, hq⟩
theorem GT_rem {t : ST} (g : GT t) : tN (tRem t) ≤ 8 ∧ ∀ i, GS (tP (tRem t) i) := by
  have h8 := g.2.2.2.1
  unfold tRem
  split
  · refine ⟨by show 7 + 1 ≤ 8; omega, fun i => ?_⟩
    show GS (if i = 7 then tC t else tP t (i + 1))
    split
    · exact g.1
    · exact g.2.2.2.2 _
  · refine ⟨by show tN t + 1 ≤ 8; omega, fun i => ?_⟩
    show GS (if i = tN t then tC t else tP t i)
    split
    · exact g.1
    · exact g.2.2.2.2 _
set_option maxHeartbeats 1500000 in
set_option maxRecDepth 100000 in
theorem s5_remember {d : Nat} {h : AH} {t : ST} (m : MM h t) : AC mX5_remember (d + 1) 0 0 [.ref 66] h (Qu (fun h2 => MM h2 (tRem t) ∧ Fr SM h h2 ∧ ∀ j, j ≠ 12 → hI h2 66 j = hI h 66 j)) := by
  have c := m.1
  have g := m.2.1.1
  have r := m.2.2.1
  have hn := c.1
  have gw := g.1
  have gh := g.2.1
  have gl := g.2.2.2.2.2.1
  have gc := cells48 g
  refine AC.of (by decide) rfl (Nat.le_of_ble_eq_true rfl) (fun X => ?_)
  show AW X mX5_remember (d + 1) 0 0 0 [(0, .ref 66)] [] h (Qu (fun h2 => MM h2 (tRem t) ∧ Fr SM h h2 ∧ ∀ j, j ≠ 12 → hI h2 66 j = hI h 66 j))
  have g8 := m.2.1.2.2.2.1
  have a12 := m.2.2.2.2.2.1
  have TL : ∀ (u : ST) (H : AH) (ls : List (Nat × Value)), (∀ q ∈ [((0 : Nat), Value.ref 66)], q ∈ ls) → MM H u → tN u ≤ 7 → tPush u = tRem t → Fr SM h H → (∀ j, j ≠ 12 → hI H 66 j = hI h 66 j) → AW X mX5_remember (d + 1) 0 0 50 ls [] H (Qu (fun h2 => MM h2 (tRem t) ∧ Fr SM h h2 ∧ ∀ j, j ≠ 12 → hI h2 66 j = hI h 66 j)) := by
    intro u H ls hls mu hu ep f k
    refine a_drop (ls' := [(0, .ref 66)]) hls ?_
    have c1 := mu.1
    have hn1 := c1.1
    have a1 := mu.2.2.2.2.2.1
    have gu := mu.2.1
    refine a_aload_n (pc := 50) (i := 0) dX5_remember_50 rfl rfl ?_
    refine a_getR (pc := 51) (ci := 5) (k := 8) (b := 68) dX5_remember_51 (lf_RX5_17 rfl) (by decide) rfl rfl (lt90 hn1 (shK_lt (show shK 66 = _ from rfl))) c1.2.2.2.2.2.2.2.2.1.2.1 ?_
    refine a_aload_n (pc := 54) (i := 0) dX5_remember_54 rfl rfl ?_
    refine a_getR (pc := 55) (ci := 5) (k := 11) (b := 71) dX5_remember_55 (lf_RX5_28 rfl) (by decide) rfl rfl (lt90 hn1 (shK_lt (show shK 66 = _ from rfl))) c1.2.2.2.2.2.2.2.2.1.2.2.2.2.1 ?_
    refine a_aload_n (pc := 58) (i := 0) dX5_remember_58 rfl rfl ?_
    refine a_getI (pc := 59) (ci := 5) (k := 12) dX5_remember_59 (lf_RX5_302 rfl) (by decide) rfl rfl (lt90 hn1 (shK_lt (show shK 66 = _ from rfl))) ?_
    refine a_top (show (.int (hI H 66 12) : Value) = .int (nI (tN u)) from congrArg Value.int a1) ?_
    refine a_rald (pc := 62) (j := (tN u)) (b := (72 + tN u)) dX5_remember_62 rfl (lt90 hn1 (shK_lt (show shK 71 = _ from rfl))) rfl (by omega) (c1.h8 (by omega)) ?_
    refine a_wS0 (pc := 63) (as := [.ref 68, .ref (72 + tN u)]) dX5_remember_63 (lc_RX5_168 rfl) ceX5_copy (s5_copy hn1 rfl (is186_h (by omega)) (by omega)) rfl rfl (Nat.le_of_ble_eq_true rfl) (fun H2 f2 r2 => ?_)
    have hn2 : hN H2 = 90 := f2.1.trans hn1
    have e66 : hI H2 66 = hI H 66 := (f2.2.2 66 (by simp; omega)).1
    refine a_aload_n (pc := 66) (i := 0) dX5_remember_66 rfl rfl ?_
    refine a_dup (pc := 67) dX5_remember_67 rfl ?_
    refine a_getI (pc := 68) (ci := 5) (k := 12) dX5_remember_68 (lf_RX5_302 rfl) (by decide) rfl rfl (lt90 hn2 (shK_lt (show shK 66 = _ from rfl))) ?_
    refine a_top (show (.int (hI H2 66 12) : Value) = .int (nI (tN u)) from congrArg Value.int (by rw [e66]; exact a1 : hI H2 66 12 = nI (tN u))) ?_
    refine a_iconst (pc := 71) (v := nI 1) dX5_remember_71 (by decide) ?_
    refine n_iadd (pc := 72) dX5_remember_72 ?_
    refine a_putI (pc := 73) (ci := 5) (k := 12) dX5_remember_73 (lf_RX5_302 rfl) (by decide) (Or.inl rfl) rfl (lt90 hn2 (shK_lt (show shK 66 = _ from rfl))) rfl ?_
    obtain ⟨H3, hH3⟩ : ∃ Hx, Hx = sI H2 66 12 (nI ((tN u) + 1)) := ⟨_, rfl⟩
    have f3 : Fr SM H H3 := by rw [hH3]; exact (f2.mono (by intro a ha; simp at ha ⊢; omega)).sI (by simp)
    have k3 : ∀ j, j ≠ 12 → hI H3 66 j = hI H 66 j := fun j hj => by rw [hH3, rd1 (by omega), e66]
    have e3 : hI H3 66 12 = nI (tN u + 1) := by rw [hH3]; exact rd2 ⟨rfl, rfl⟩
    refine a_heap (h' := H3) hH3.symm ?_
    exact a_return (pc := 76) dX5_remember_76 rfl (⟨rfl, by
      rw [← ep]
      exact mu.hst f3 k3 (by omega) (fun i => by show GS (if i = tN u then tC u else tP u i); split; exact gu.1; exact gu.2.2.2.2 i) e3 (fun i hi => by
        show DM H3 (72 + i) (if i = tN u then tC u else tP u i)
        by_cases e : i = tN u
        · rw [if_pos e]; subst e; exact DM_cp gu.1 mu.2.2.1 (fun j hj => by rw [hH3, rd1 (by omega)]; exact r2 j hj)
        · rw [if_neg e]; exact (mu.2.2.2.2.2.2 i (by omega)).row (by rw [hH3]; funext j; rw [rd1 (by omega), (f2.2.2 (72 + i) (by simp; omega)).1])), f.trans f3, fun j hj => (k3 j hj).trans (k j hj)⟩)
  refine a_aload_n (pc := 0) (i := 0) dX5_remember_0 rfl rfl ?_
  refine a_getI (pc := 1) (ci := 5) (k := 12) dX5_remember_1 (lf_RX5_302 rfl) (by decide) rfl rfl (lt90 hn (shK_lt (show shK 66 = _ from rfl))) ?_
  refine a_top (show (.int (hI h 66 12) : Value) = .int (nI (tN t)) from congrArg Value.int a12) ?_
  refine a_bipush (pc := 4) (v := nI 8) dX5_remember_4 (by decide) ?_
  refine n_icmp_ne (pc := 6) (tgt := 50) dX5_remember_6 (by decide) (by omega) (by omega) (fun c6 => ?_) (fun c6 => ?_)
  · skip
    exact TL t h _ (by simp) m (by omega) (if_neg (by omega)).symm Fr.refl (fun _ _ => rfl)
  · skip
    refine a_iconst (pc := 9) (v := nI 1) dX5_remember_9 (by decide) ?_
    refine a_istore_n (pc := 10) (i := 1) (ls' := [(0, .ref 66), (1, .int (nI 1))]) dX5_remember_10 rfl (by decide) rfl ?_
    have LP : ∀ (fu : Nat) (i : Nat) (H : AH), 1 ≤ i ∧ i ≤ 8 → Fr [72, 73, 74, 75, 76, 77, 78, 79] h H → (∀ j, j + 1 < i → DM H (72 + j) (tP t (j + 1))) → (∀ j, i ≤ j + 1 → j < 8 → DM H (72 + j) (tP t j)) → 8 - i < fu → AW X mX5_remember (d + 1) 0 0 11 [(0, .ref 66), (1, .int (nI i))] [] H (Qu (fun h2 => MM h2 (tRem t) ∧ Fr SM h h2 ∧ ∀ j, j ≠ 12 → hI h2 66 j = hI h 66 j)) := by
      intro fu
      induction fu with
      | zero => intro i H hi hf ha hb hz; exact absurd hz (Nat.not_lt_zero _)
      | succ fu ih =>
        intro i H hi hf ha hb hz
        have c1 := c.fr hf
        have hn1 := c1.1
        have e66 : hI H 66 = hI h 66 := (hf.2.2 66 (by simp)).1
        refine a_iload_n (pc := 11) (i := 1) dX5_remember_11 rfl rfl ?_
        refine a_bipush (pc := 12) (v := nI 8) dX5_remember_12 (by decide) ?_
        refine n_icmp_ge (pc := 14) (tgt := 40) dX5_remember_14 (by decide) (by omega) (by omega) (fun c14 => ?_) (fun c14 => ?_)
        · have ei : i = 8 := by omega
          subst ei
          refine a_aload_n (pc := 40) (i := 0) dX5_remember_40 rfl rfl ?_
          refine a_dup (pc := 41) dX5_remember_41 rfl ?_
          refine a_getI (pc := 42) (ci := 5) (k := 12) dX5_remember_42 (lf_RX5_302 rfl) (by decide) rfl rfl (lt90 hn1 (shK_lt (show shK 66 = _ from rfl))) ?_
          refine a_top (show (.int (hI H 66 12) : Value) = .int (nI 8) from congrArg Value.int (by rw [e66, a12, c6] : hI H 66 12 = nI 8)) ?_
          refine a_iconst (pc := 45) (v := nI 1) dX5_remember_45 (by decide) ?_
          refine n_isub (pc := 46) dX5_remember_46 (by omega) ?_
          refine a_putI (pc := 47) (ci := 5) (k := 12) dX5_remember_47 (lf_RX5_302 rfl) (by decide) (Or.inl rfl) rfl (lt90 hn1 (shK_lt (show shK 66 = _ from rfl))) rfl ?_
          obtain ⟨H3, hH3⟩ : ∃ Hx, Hx = sI H 66 12 (nI (8 - 1)) := ⟨_, rfl⟩
          have f3 : Fr SM h H3 := by rw [hH3]; exact (hf.mono (by intro a ha; simp at ha ⊢; omega)).sI (by simp)
          have k3 : ∀ j, j ≠ 12 → hI H3 66 j = hI h 66 j := fun j hj => by rw [hH3, rd1 (by omega), e66]
          have e3 : hI H3 66 12 = nI 7 := by rw [hH3]; exact rd2 ⟨rfl, rfl⟩
          refine a_heap (h' := H3) hH3.symm ?_
          exact TL (tShift t) H3 _ (by simp) (m.hst f3 k3 (by omega) (fun i => m.2.1.2.2.2.2 _) e3 (fun i hi => (ha i (by omega)).row (by rw [hH3]; funext j; rw [rd1 (by omega)]))) (Nat.le_refl _) (if_pos c6).symm f3 k3
        · skip
          refine a_aload_n (pc := 17) (i := 0) dX5_remember_17 rfl rfl ?_
          refine a_getR (pc := 18) (ci := 5) (k := 11) (b := 71) dX5_remember_18 (lf_RX5_28 rfl) (by decide) rfl rfl (lt90 hn1 (shK_lt (show shK 66 = _ from rfl))) c1.2.2.2.2.2.2.2.2.1.2.2.2.2.1 ?_
          refine a_iload_n (pc := 21) (i := 1) dX5_remember_21 rfl rfl ?_
          refine a_rald (pc := 22) (j := i) (b := (72 + i)) dX5_remember_22 rfl (lt90 hn1 (shK_lt (show shK 71 = _ from rfl))) rfl (by omega) (c1.h8 (by omega)) ?_
          refine a_aload_n (pc := 23) (i := 0) dX5_remember_23 rfl rfl ?_
          refine a_getR (pc := 24) (ci := 5) (k := 11) (b := 71) dX5_remember_24 (lf_RX5_28 rfl) (by decide) rfl rfl (lt90 hn1 (shK_lt (show shK 66 = _ from rfl))) c1.2.2.2.2.2.2.2.2.1.2.2.2.2.1 ?_
          refine a_iload_n (pc := 27) (i := 1) dX5_remember_27 rfl rfl ?_
          refine a_iconst (pc := 28) (v := nI 1) dX5_remember_28 (by decide) ?_
          refine n_isub (pc := 29) dX5_remember_29 (by omega) ?_
          refine a_rald (pc := 30) (j := (i - 1)) (b := (72 + (i - 1))) dX5_remember_30 rfl (lt90 hn1 (shK_lt (show shK 71 = _ from rfl))) rfl (by omega) (c1.h8 (by omega)) ?_
          refine a_wS0 (pc := 31) (as := [.ref (72 + i), .ref (72 + (i - 1))]) dX5_remember_31 (lc_RX5_168 rfl) ceX5_copy (s5_copy hn1 (is186_h (by omega)) (is186_h (by omega)) (by omega)) rfl rfl (Nat.le_of_ble_eq_true rfl) (fun H2 f2 r2 => ?_)
          refine n_iinc (pc := 34) (k := 1) (ls' := [(0, .ref 66), (1, .int (nI (i + 1)))]) dX5_remember_34 rfl (by decide) (by decide) rfl ?_
          refine a_goto (pc := 37) (tgt := 11) dX5_remember_37 (by decide) ?_
          exact ih (i + 1) H2 (by omega) (hf.trans (f2.mono (by intro a ha; simp at ha ⊢; omega))) (fun j hj => by
      by_cases e : j + 1 = i
      · have e2 : i - 1 = j := by omega
        rw [e2] at r2
        rw [e]
        exact DM_cp (m.2.1.2.2.2.2 _) (hb i (by omega) (by omega)) r2
      · exact (ha j (by omega)).fr f2 (by simp; omega)) (fun j h1 h2 => (hb j (by omega) h2).fr f2 (by simp; omega)) (by omega)
    exact LP 9 1 h (by omega) Fr.refl (fun j hj => absurd hj (by omega)) (fun j _ hj => m.2.2.2.2.2.2 j (by omega)) (by omega)
theorem mq_add {s : SH} (g : GS s) {x p i : Nat} (hp : p < sCells s) (hi : p % sW s + i < sW s) : mq s x (p + i) = mq s x p + i ∧ p + i < sCells s ∧ (p + i) / sW s = p / sW s ∧ (p + i) % sW s = p % sW s + i := by
  obtain ⟨-, -, h3, h4, h5⟩ := cell_q g hp
  have gw := g.1
  have e : p + i = sW s * (p / sW s) + (p % sW s + i) := by rw [Nat.mul_comm]; omega
  have e1 : (p + i) / sW s = p / sW s := by rw [e, Nat.mul_add_div (by omega), Nat.div_eq_of_lt hi]; rfl
  have e2 : (p + i) % sW s = p % sW s + i := by rw [e, Nat.mul_add_mod, Nat.mod_eq_of_lt hi]
  refine ⟨by unfold mq; rw [e1, e2]; omega, ?_, e1, e2⟩
  have h6 : (p / sW s + 1) * sW s ≤ sH s * sW s := Nat.mul_le_mul_right _ h3
  rw [Nat.succ_mul] at h6
  have h7 : sCells s = sH s * sW s := Nat.mul_comm _ _
  omega
theorem msA_lt {s : SH} {k : Nat} (h : k < sLen s) : msA s k = nI (sMs s k) := cif_t h
set_option maxHeartbeats 1500000 in
set_option maxRecDepth 100000 in
theorem s5_isCut {d x p n : Nat} {h : AH} {s : SH} (c : CB h) (g : GS s) (r : DM h 68 s) (hx : x < 2) (hp : p < sCells s) (hn8 : n ≤ 8)  : AC mX5_isCut (d + 4) 0 0 [.ref 66, .int (nI x), .int (nI p), .int (nI n)] h (Qe (some (.int (bi (mq s x p % 8 + n ≤ sW s ∧ ∀ i, i < n → qcu s (mq s x p + i))))) h) := by
  have hn := c.1
  have gw := g.1
  have gh := g.2.1
  have gl := g.2.2.2.2.2.1
  have gc := cells48 g
  refine AC.of (by decide) rfl (Nat.le_of_ble_eq_true rfl) (fun X => ?_)
  show AW X mX5_isCut (d + 4) 0 0 0 [(0, .ref 66), (1, .int (nI x)), (2, .int (nI p)), (3, .int (nI n))] [] h (Qe (some (.int (bi (mq s x p % 8 + n ≤ sW s ∧ ∀ i, i < n → qcu s (mq s x p + i))))) h)
  have hq := cell_q g hp
  have h8 := (mq_ok g hx hp).2.2.2.2.1
  refine a_iload_n (pc := 0) (i := 2) dX5_isCut_0 rfl rfl ?_
  refine a_aload_n (pc := 1) (i := 0) dX5_isCut_1 rfl rfl ?_
  refine a_getR (pc := 2) (ci := 5) (k := 8) (b := 68) dX5_isCut_2 (lf_RX5_17 rfl) (by decide) rfl rfl (lt90 hn (shK_lt (show shK 66 = _ from rfl))) c.2.2.2.2.2.2.2.2.1.2.1 ?_
  refine a_iconst (pc := 5) (v := nI 0) dX5_isCut_5 (by decide) ?_
  refine a_iald (pc := 6) (j := 0) dX5_isCut_6 rfl (lt90 hn (shK_lt (show shK 68 = _ from rfl))) rfl (by omega) ?_
  refine a_top (show (.int (hI h 68 0) : Value) = .int (nI (sW s)) from congrArg Value.int r.1.1) ?_
  refine n_irem (pc := 7) dX5_isCut_7 (by omega) (by omega) (by omega) ?_
  refine a_iload_n (pc := 8) (i := 3) dX5_isCut_8 rfl rfl ?_
  refine n_iadd (pc := 9) dX5_isCut_9 ?_
  refine a_aload_n (pc := 10) (i := 0) dX5_isCut_10 rfl rfl ?_
  refine a_getR (pc := 11) (ci := 5) (k := 8) (b := 68) dX5_isCut_11 (lf_RX5_17 rfl) (by decide) rfl rfl (lt90 hn (shK_lt (show shK 66 = _ from rfl))) c.2.2.2.2.2.2.2.2.1.2.1 ?_
  refine a_iconst (pc := 14) (v := nI 0) dX5_isCut_14 (by decide) ?_
  refine a_iald (pc := 15) (j := 0) dX5_isCut_15 rfl (lt90 hn (shK_lt (show shK 68 = _ from rfl))) rfl (by omega) ?_
  refine a_top (show (.int (hI h 68 0) : Value) = .int (nI (sW s)) from congrArg Value.int r.1.1) ?_
  refine n_icmp_le (pc := 16) (tgt := 21) dX5_isCut_16 (by decide) (by omega) (by omega) (fun c16 => ?_) (fun c16 => ?_)
  · skip
    have LP : ∀ (fu : Nat) (i : Nat), i ≤ n → (∀ j, j < i → qcu s (mq s x p + j)) → n - i < fu → AW X mX5_isCut (d + 4) 0 0 24 [(0, .ref 66), (1, .int (nI x)), (2, .int (nI p)), (3, .int (nI n)), (4, .int (nI i))] [] h (Qe (some (.int (bi (mq s x p % 8 + n ≤ sW s ∧ ∀ i, i < n → qcu s (mq s x p + i))))) h) := by
      intro fu
      induction fu with
      | zero => intro i hi ha hz; exact absurd hz (Nat.not_lt_zero _)
      | succ fu ih =>
        intro i hi ha hz
        refine a_iload (pc := 24) (i := 4) dX5_isCut_24 rfl ?_
        refine a_iload_n (pc := 26) (i := 3) dX5_isCut_26 rfl rfl ?_
        refine n_icmp_ge (pc := 27) (tgt := 50) dX5_isCut_27 (by decide) (by omega) (by omega) (fun cc => ?_) (fun cc => ?_)
        · have ei : i = n := by omega
          have e : mq s x p % 8 + n ≤ sW s ∧ ∀ i, i < n → qcu s (mq s x p + i) := ⟨by omega, fun j hj => ha j (by omega)⟩
          refine a_iconst (pc := 50) (v := nI 1) dX5_isCut_50 (by decide) ?_
          exact a_ireturn (pc := 51) dX5_isCut_51 rfl rfl (⟨by rw [bi_t e]; rfl, rfl⟩)
        · obtain ⟨e1, e2, -, -⟩ := mq_add g (x := x) (i := i) hp (by omega)
          refine a_aload_n (pc := 30) (i := 0) dX5_isCut_30 rfl rfl ?_
          refine a_iload_n (pc := 31) (i := 1) dX5_isCut_31 rfl rfl ?_
          refine a_iload_n (pc := 32) (i := 2) dX5_isCut_32 rfl rfl ?_
          refine a_iload (pc := 33) (i := 4) dX5_isCut_33 rfl ?_
          refine n_iadd (pc := 35) dX5_isCut_35 ?_
          refine a_vV1 (pc := 36) (as := [.int (nI x), .int (nI (p + i))]) (b := 66) (ci := 5) (v := .int (bi (qcu s (mq s x (p + i))))) (h' := h) dX5_isCut_36 (lc_RX5_191 rfl) ceX5_canUse rfl (lt90 hn (shK_lt (show shK 66 = _ from rfl))) (s5_canUse (d := d) c g r hx e2) rfl rfl (Nat.le_of_ble_eq_true rfl) rfl ?_
          refine b_if_ne (pc := 39) (tgt := 44) dX5_isCut_39 (by decide) (fun cd => ?_) (fun cd => ?_)
          · rw [e1] at cd
            refine n_iinc (pc := 44) (k := 1) (ls' := [(0, .ref 66), (1, .int (nI x)), (2, .int (nI p)), (3, .int (nI n)), (4, .int (nI (i + 1)))]) dX5_isCut_44 rfl (by decide) (by decide) rfl ?_
            refine a_goto (pc := 47) (tgt := 24) dX5_isCut_47 (by decide) ?_
            exact ih (i + 1) (by omega) (fun j hj => by rcases (by omega : j < i ∨ j = i) with z | z; exact ha j z; rw [z]; exact cd) (by omega)
          · rw [e1] at cd
            have e : ¬ (mq s x p % 8 + n ≤ sW s ∧ ∀ i, i < n → qcu s (mq s x p + i)) := fun z => cd (z.2 i cc)
            refine a_iconst (pc := 42) (v := nI 0) dX5_isCut_42 (by decide) ?_
            exact a_ireturn (pc := 43) dX5_isCut_43 rfl rfl (⟨by rw [bi_f e]; rfl, rfl⟩)
    refine a_iconst (pc := 21) (v := nI 0) dX5_isCut_21 (by decide) ?_
    refine a_istore (pc := 22) (i := 4) (ls' := [(0, .ref 66), (1, .int (nI x)), (2, .int (nI p)), (3, .int (nI n)), (4, .int (nI 0))]) dX5_isCut_22 (by decide) rfl ?_
    exact LP (n + 1) 0 (Nat.zero_le _) (fun j hj => absurd hj (by omega)) (by omega)
  · skip
    have e : ¬ (mq s x p % 8 + n ≤ sW s ∧ ∀ i, i < n → qcu s (mq s x p + i)) := fun z => by have := z.1; omega
    refine a_iconst (pc := 19) (v := nI 0) dX5_isCut_19 (by decide) ?_
    exact a_ireturn (pc := 20) dX5_isCut_20 rfl rfl (⟨by rw [bi_f e]; rfl, rfl⟩)
set_option maxHeartbeats 1500000 in
set_option maxRecDepth 100000 in
theorem s5_isStrip {d x p n f : Nat} {h : AH} {s : SH} (c : CB h) (g : GS s) (r : DM h 68 s) (hx : x < 2) (hp : p < sCells s) (hn8 : n ≤ 8) (hf : f + n ≤ sLen s) : AC mX5_isStrip (d + 5) 0 0 [.ref 66, .int (nI x), .int (nI p), .int (nI n), .int (nI f)] h (Qe (some (.int (bi (mq s x p % 8 + n ≤ sW s ∧ ∀ i, i < n → qlt s (mq s x p + i) = nI (sMs s (f + i)) ∧ qcu s (mq s x p + i))))) h) := by
  have hn := c.1
  have gw := g.1
  have gh := g.2.1
  have gl := g.2.2.2.2.2.1
  have gc := cells48 g
  refine AC.of (by decide) rfl (Nat.le_of_ble_eq_true rfl) (fun X => ?_)
  show AW X mX5_isStrip (d + 5) 0 0 0 [(0, .ref 66), (1, .int (nI x)), (2, .int (nI p)), (3, .int (nI n)), (4, .int (nI f))] [] h (Qe (some (.int (bi (mq s x p % 8 + n ≤ sW s ∧ ∀ i, i < n → qlt s (mq s x p + i) = nI (sMs s (f + i)) ∧ qcu s (mq s x p + i))))) h)
  have hq := cell_q g hp
  have h8 := (mq_ok g hx hp).2.2.2.2.1
  refine a_iload_n (pc := 0) (i := 2) dX5_isStrip_0 rfl rfl ?_
  refine a_aload_n (pc := 1) (i := 0) dX5_isStrip_1 rfl rfl ?_
  refine a_getR (pc := 2) (ci := 5) (k := 8) (b := 68) dX5_isStrip_2 (lf_RX5_17 rfl) (by decide) rfl rfl (lt90 hn (shK_lt (show shK 66 = _ from rfl))) c.2.2.2.2.2.2.2.2.1.2.1 ?_
  refine a_iconst (pc := 5) (v := nI 0) dX5_isStrip_5 (by decide) ?_
  refine a_iald (pc := 6) (j := 0) dX5_isStrip_6 rfl (lt90 hn (shK_lt (show shK 68 = _ from rfl))) rfl (by omega) ?_
  refine a_top (show (.int (hI h 68 0) : Value) = .int (nI (sW s)) from congrArg Value.int r.1.1) ?_
  refine n_irem (pc := 7) dX5_isStrip_7 (by omega) (by omega) (by omega) ?_
  refine a_iload_n (pc := 8) (i := 3) dX5_isStrip_8 rfl rfl ?_
  refine n_iadd (pc := 9) dX5_isStrip_9 ?_
  refine a_aload_n (pc := 10) (i := 0) dX5_isStrip_10 rfl rfl ?_
  refine a_getR (pc := 11) (ci := 5) (k := 8) (b := 68) dX5_isStrip_11 (lf_RX5_17 rfl) (by decide) rfl rfl (lt90 hn (shK_lt (show shK 66 = _ from rfl))) c.2.2.2.2.2.2.2.2.1.2.1 ?_
  refine a_iconst (pc := 14) (v := nI 0) dX5_isStrip_14 (by decide) ?_
  refine a_iald (pc := 15) (j := 0) dX5_isStrip_15 rfl (lt90 hn (shK_lt (show shK 68 = _ from rfl))) rfl (by omega) ?_
  refine a_top (show (.int (hI h 68 0) : Value) = .int (nI (sW s)) from congrArg Value.int r.1.1) ?_
  refine n_icmp_le (pc := 16) (tgt := 21) dX5_isStrip_16 (by decide) (by omega) (by omega) (fun c16 => ?_) (fun c16 => ?_)
  · skip
    have LP : ∀ (fu : Nat) (i : Nat), i ≤ n → (∀ j, j < i → qlt s (mq s x p + j) = nI (sMs s (f + j)) ∧ qcu s (mq s x p + j)) → n - i < fu → AW X mX5_isStrip (d + 5) 0 0 24 [(0, .ref 66), (1, .int (nI x)), (2, .int (nI p)), (3, .int (nI n)), (4, .int (nI f)), (5, .int (nI i))] [] h (Qe (some (.int (bi (mq s x p % 8 + n ≤ sW s ∧ ∀ i, i < n → qlt s (mq s x p + i) = nI (sMs s (f + i)) ∧ qcu s (mq s x p + i))))) h) := by
      intro fu
      induction fu with
      | zero => intro i hi ha hz; exact absurd hz (Nat.not_lt_zero _)
      | succ fu ih =>
        intro i hi ha hz
        refine a_iload (pc := 24) (i := 5) dX5_isStrip_24 rfl ?_
        refine a_iload_n (pc := 26) (i := 3) dX5_isStrip_26 rfl rfl ?_
        refine n_icmp_ge (pc := 27) (tgt := 64) dX5_isStrip_27 (by decide) (by omega) (by omega) (fun cc => ?_) (fun cc => ?_)
        · have ei : i = n := by omega
          have e : mq s x p % 8 + n ≤ sW s ∧ ∀ i, i < n → qlt s (mq s x p + i) = nI (sMs s (f + i)) ∧ qcu s (mq s x p + i) := ⟨by omega, fun j hj => ha j (by omega)⟩
          refine a_iconst (pc := 64) (v := nI 1) dX5_isStrip_64 (by decide) ?_
          exact a_ireturn (pc := 65) dX5_isStrip_65 rfl rfl (⟨by rw [bi_t e]; rfl, rfl⟩)
        · obtain ⟨e1, e2, -, -⟩ := mq_add g (x := x) (i := i) hp (by omega)
          refine a_aload_n (pc := 30) (i := 0) dX5_isStrip_30 rfl rfl ?_
          refine a_iload_n (pc := 31) (i := 1) dX5_isStrip_31 rfl rfl ?_
          refine a_iload_n (pc := 32) (i := 2) dX5_isStrip_32 rfl rfl ?_
          refine a_iload (pc := 33) (i := 5) dX5_isStrip_33 rfl ?_
          refine n_iadd (pc := 35) dX5_isStrip_35 ?_
          refine a_aload_n (pc := 36) (i := 0) dX5_isStrip_36 rfl rfl ?_
          refine a_getR (pc := 37) (ci := 5) (k := 8) (b := 68) dX5_isStrip_37 (lf_RX5_17 rfl) (by decide) rfl rfl (lt90 hn (shK_lt (show shK 66 = _ from rfl))) c.2.2.2.2.2.2.2.2.1.2.1 ?_
          refine a_sipush (pc := 40) (v := nI 162) dX5_isStrip_40 (by decide) ?_
          refine a_iload (pc := 43) (i := 4) dX5_isStrip_43 rfl ?_
          refine n_iadd (pc := 45) dX5_isStrip_45 ?_
          refine a_iload (pc := 46) (i := 5) dX5_isStrip_46 rfl ?_
          refine n_iadd (pc := 48) dX5_isStrip_48 ?_
          refine a_iald (pc := 49) (j := ((162 + f) + i)) dX5_isStrip_49 rfl (lt90 hn (shK_lt (show shK 68 = _ from rfl))) rfl (by omega) ?_
          refine a_top (show (.int (hI h 68 ((162 + f) + i)) : Value) = .int (nI (sMs s (f + i))) from congrArg Value.int ((congrArg (hI h 68) (by omega)).trans (r.2.2.2.2 (f + i) (by omega)))) ?_
          refine a_vV1 (pc := 50) (as := [.int (nI x), .int (nI (p + i)), .int (nI (sMs s (f + i)))]) (b := 66) (ci := 5) (v := .int (bi (qlt s (mq s x (p + i)) = nI (sMs s (f + i)) ∧ qcu s (mq s x (p + i))))) (h' := h) dX5_isStrip_50 (lc_RX5_194 rfl) ceX5_isLetter rfl (lt90 hn (shK_lt (show shK 66 = _ from rfl))) (s5_isLetter (d := d) c g r hx e2) rfl rfl (Nat.le_of_ble_eq_true rfl) rfl ?_
          refine b_if_ne (pc := 53) (tgt := 58) dX5_isStrip_53 (by decide) (fun cd => ?_) (fun cd => ?_)
          · rw [e1] at cd
            refine n_iinc (pc := 58) (k := 1) (ls' := [(0, .ref 66), (1, .int (nI x)), (2, .int (nI p)), (3, .int (nI n)), (4, .int (nI f)), (5, .int (nI (i + 1)))]) dX5_isStrip_58 rfl (by decide) (by decide) rfl ?_
            refine a_goto (pc := 61) (tgt := 24) dX5_isStrip_61 (by decide) ?_
            exact ih (i + 1) (by omega) (fun j hj => by rcases (by omega : j < i ∨ j = i) with z | z; exact ha j z; rw [z]; exact cd) (by omega)
          · rw [e1] at cd
            have e : ¬ (mq s x p % 8 + n ≤ sW s ∧ ∀ i, i < n → qlt s (mq s x p + i) = nI (sMs s (f + i)) ∧ qcu s (mq s x p + i)) := fun z => cd (z.2 i cc)
            refine a_iconst (pc := 56) (v := nI 0) dX5_isStrip_56 (by decide) ?_
            exact a_ireturn (pc := 57) dX5_isStrip_57 rfl rfl (⟨by rw [bi_f e]; rfl, rfl⟩)
    refine a_iconst (pc := 21) (v := nI 0) dX5_isStrip_21 (by decide) ?_
    refine a_istore (pc := 22) (i := 5) (ls' := [(0, .ref 66), (1, .int (nI x)), (2, .int (nI p)), (3, .int (nI n)), (4, .int (nI f)), (5, .int (nI 0))]) dX5_isStrip_22 (by decide) rfl ?_
    exact LP (n + 1) 0 (Nat.zero_le _) (fun j hj => absurd hj (by omega)) (by omega)
  · skip
    have e : ¬ (mq s x p % 8 + n ≤ sW s ∧ ∀ i, i < n → qlt s (mq s x p + i) = nI (sMs s (f + i)) ∧ qcu s (mq s x p + i)) := fun z => by have := z.1; omega
    refine a_iconst (pc := 19) (v := nI 0) dX5_isStrip_19 (by decide) ?_
    exact a_ireturn (pc := 20) dX5_isStrip_20 rfl rfl (⟨by rw [bi_f e]; rfl, rfl⟩)
theorem pcl_s {s : SH} {q i b : Nat} : pcl s q (i + 1) b ↔ pcl s q i b ∨ b = qcell s (q + i) := by
  constructor
  · rintro ⟨j, h1, h2⟩
    rcases (by omega : j < i ∨ j = i) with z | rfl
    · exact Or.inl ⟨j, z, h2⟩
    · exact Or.inr h2
  · rintro (⟨j, h1, h2⟩ | h2)
    · exact ⟨j, by omega, h2⟩
    · exact ⟨i, by omega, h2⟩
theorem DM_go {h : AH} {s : SH} (g : GS s) {P P2 : Nat → Prop} {a b c : Nat} (r : DM h 68 (tkS s P a b)) (hc : c < sCells s) (h2 : ∀ x, P2 x ↔ P x ∨ x = mb s c) : DM (sI h 68 (114 + c) (nI 1)) 68 (tkS s P2 a b) := by
  have gc := cells48 g
  have gh := g.2.1
  obtain ⟨r0, rl, rs, rg, rm⟩ := r
  refine ⟨?_, fun x p hx hp => ?_, fun x q hx hq => ?_, fun k hk => ?_, fun j hj => ?_⟩
  · rw [rd1 (by omega), rd1 (by omega), rd1 (by omega), rd1 (by omega), rd1 (by omega), rd1 (by omega)]; exact r0
  · have : p < sCells s := hp
    rw [rd1 (by omega)]; exact rl x p hx hp
  · have : q < sH s := hq
    rw [rd1 (by omega)]; exact rs x q hx hq
  · have hk2 : k < sCells s := hk
    show _ = bi (sGn s k ∨ P2 (mb s k))
    by_cases e : k = c
    · rw [rd2 ⟨rfl, by omega⟩, bi_t (Or.inr ((h2 _).mpr (Or.inr (by rw [e]))))]; rfl
    · rw [rd1 (by omega)]
      refine (rg k hk).trans (bi_c ?_)
      show (sGn s k ∨ P (mb s k)) ↔ (sGn s k ∨ P2 (mb s k))
      rw [h2 (mb s k)]
      constructor
      · exact fun z => z.elim Or.inl (fun z => Or.inr (Or.inl z))
      · rintro (z | z | z)
        · exact Or.inl z
        · exact Or.inr z
        · exact absurd (mb_inj g hk2 hc z) e
  · rw [rd1 (by omega)]; exact rm j hj
theorem DM_cu {h : AH} {s : SH} (g : GS s) {P : Nat → Prop} {n m a b : Nat} (r : DM h 68 (tkS s P a b)) : DM (sI (sI h 68 4 (nI (sCu s + n))) 68 5 (nI (sTk s + m))) 68 (tkS s P n m) := by
  have gc := cells48 g
  have gh := g.2.1
  obtain ⟨⟨r0, r1, r2, r3, r4, r5⟩, rl, rs, rg, rm⟩ := r
  refine ⟨⟨?_, ?_, ?_, ?_, ?_, rd2 ⟨rfl, rfl⟩⟩, fun x p hx hp => ?_, fun x q hx hq => ?_, fun k hk => ?_, fun j hj => ?_⟩
  · rw [rd1 (by omega), rd1 (by omega)]; exact r0
  · rw [rd1 (by omega), rd1 (by omega)]; exact r1
  · rw [rd1 (by omega), rd1 (by omega)]; exact r2
  · rw [rd1 (by omega), rd1 (by omega)]; exact r3
  · rw [rd1 (by omega)]; exact rd2 ⟨rfl, rfl⟩
  · rw [rd1 (by omega), rd1 (by omega)]; exact rl x p hx hp
  · rw [rd1 (by omega), rd1 (by omega)]; exact rs x q hx hq
  · rw [rd1 (by omega), rd1 (by omega)]; exact rg k hk
  · rw [rd1 (by omega), rd1 (by omega)]; exact rm j hj
theorem DM_tk0 {h : AH} {s : SH} (r : DM h 68 s) {P : Nat → Prop} (hP : ∀ b, ¬ P b) : DM h 68 (tkS s P 0 0) :=
  ⟨r.1, r.2.1, r.2.2.1, fun c hc => (r.2.2.2.1 c hc).trans (bi_c ⟨Or.inl, fun z => z.elim id (fun z => absurd z (hP _))⟩), r.2.2.2.2⟩
set_option maxHeartbeats 1500000 in
set_option maxRecDepth 100000 in
theorem s5_goesOff {d x p n a b : Nat} {h : AH} {s : SH} {P : Nat → Prop} (c : CB h) (g : GS s) (r : DM h 68 (tkS s P a b)) (hx : x < 2) (hp : p < sCells s) (hr : mq s x p % 8 + n ≤ sW s) : AC mX5_goesOff (d + 2) 0 0 [.ref 66, .int (nI x), .int (nI p), .int (nI n)] h (Qf [68] none h (fun h2 => DM h2 68 (tkS s (uX P (pcl s (mq s x p) n)) (a + 1) (b + n)))) := by
  have hn := c.1
  have gw := g.1
  have gh := g.2.1
  have gl := g.2.2.2.2.2.1
  have gc := cells48 g
  refine AC.of (by decide) rfl (Nat.le_of_ble_eq_true rfl) (fun X => ?_)
  show AW X mX5_goesOff (d + 2) 0 0 0 [(0, .ref 66), (1, .int (nI x)), (2, .int (nI p)), (3, .int (nI n))] [] h (Qf [68] none h (fun h2 => DM h2 68 (tkS s (uX P (pcl s (mq s x p) n)) (a + 1) (b + n))))
  have hq := cell_q g hp
  have h8 := (mq_ok g hx hp).2.2.2.2.1
  have LP : ∀ (fu : Nat) (i : Nat) (H : AH), i ≤ n → Fr [68] h H → DM H 68 (tkS s (uX P (pcl s (mq s x p) i)) a b) → n - i < fu → AW X mX5_goesOff (d + 2) 0 0 3 [(0, .ref 66), (1, .int (nI x)), (2, .int (nI p)), (3, .int (nI n)), (4, .int (nI i))] [] H (Qf [68] none h (fun h2 => DM h2 68 (tkS s (uX P (pcl s (mq s x p) n)) (a + 1) (b + n)))) := by
    intro fu
    induction fu with
    | zero => intro i H hi hf hd hz; exact absurd hz (Nat.not_lt_zero _)
    | succ fu ih =>
      intro i H hi hf hd hz
      have c1 := c.fr hf
      have hn1 := c1.1
      refine a_iload (pc := 3) (i := 4) dX5_goesOff_3 rfl ?_
      refine a_iload_n (pc := 5) (i := 3) dX5_goesOff_5 rfl rfl ?_
      refine n_icmp_ge (pc := 6) (tgt := 33) dX5_goesOff_6 (by decide) (by omega) (by omega) (fun c6 => ?_) (fun c6 => ?_)
      · have ei : i = n := by omega
        subst ei
        refine a_aload_n (pc := 33) (i := 0) dX5_goesOff_33 rfl rfl ?_
        refine a_getR (pc := 34) (ci := 5) (k := 8) (b := 68) dX5_goesOff_34 (lf_RX5_17 rfl) (by decide) rfl rfl (lt90 hn1 (shK_lt (show shK 66 = _ from rfl))) c1.2.2.2.2.2.2.2.2.1.2.1 ?_
        refine a_iconst (pc := 37) (v := nI 4) dX5_goesOff_37 (by decide) ?_
        refine a_dup2_11 (pc := 38) dX5_goesOff_38 rfl rfl ?_
        refine a_iald (pc := 39) (j := 4) dX5_goesOff_39 rfl (lt90 hn1 (shK_lt (show shK 68 = _ from rfl))) rfl (by omega) ?_
        refine a_top (show (.int (hI H 68 4) : Value) = .int (nI (sCu s + a)) from congrArg Value.int hd.1.2.2.2.2.1) ?_
        refine a_iconst (pc := 40) (v := nI 1) dX5_goesOff_40 (by decide) ?_
        refine n_iadd (pc := 41) dX5_goesOff_41 ?_
        refine a_iast (pc := 42) (j := 4) dX5_goesOff_42 rfl (lt90 hn1 (shK_lt (show shK 68 = _ from rfl))) rfl (by omega) ?_
        refine a_aload_n (pc := 43) (i := 0) dX5_goesOff_43 rfl rfl ?_
        refine a_getR (pc := 44) (ci := 5) (k := 8) (b := 68) dX5_goesOff_44 (lf_RX5_17 rfl) (by decide) rfl rfl (lt90 hn1 (shK_lt (show shK 66 = _ from rfl))) c1.2.2.2.2.2.2.2.2.1.2.1 ?_
        refine a_iconst (pc := 47) (v := nI 5) dX5_goesOff_47 (by decide) ?_
        refine a_dup2_11 (pc := 48) dX5_goesOff_48 rfl rfl ?_
        refine a_iald (pc := 49) (j := 5) dX5_goesOff_49 rfl (lt90 hn1 (shK_lt (show shK 68 = _ from rfl))) rfl (by omega) ?_
        refine a_top (show (.int (hI (sI H 68 4 (nI ((sCu s + a) + 1))) 68 5) : Value) = .int (nI (sTk s + b)) from congrArg Value.int ((rd1 (by omega)).trans hd.1.2.2.2.2.2)) ?_
        refine a_iload_n (pc := 50) (i := 3) dX5_goesOff_50 rfl rfl ?_
        refine n_iadd (pc := 51) dX5_goesOff_51 ?_
        refine a_iast (pc := 52) (j := 5) dX5_goesOff_52 rfl (lt90 hn1 (shK_lt (show shK 68 = _ from rfl))) rfl (by omega) ?_
        exact a_return (pc := 53) dX5_goesOff_53 rfl (⟨rfl, (hf.sI (by simp)).sI (by simp), by have z := DM_cu (n := a + 1) (m := b + i) g hd; rw [← Nat.add_assoc, ← Nat.add_assoc] at z; exact z⟩)
      · obtain ⟨e1, e2, -, -⟩ := mq_add g (x := x) (i := i) hp (by omega)
        have hcl := mcl_lt g (x := x) e2
        refine a_aload_n (pc := 9) (i := 0) dX5_goesOff_9 rfl rfl ?_
        refine a_getR (pc := 10) (ci := 5) (k := 8) (b := 68) dX5_goesOff_10 (lf_RX5_17 rfl) (by decide) rfl rfl (lt90 hn1 (shK_lt (show shK 66 = _ from rfl))) c1.2.2.2.2.2.2.2.2.1.2.1 ?_
        refine a_bipush (pc := 13) (v := nI 114) dX5_goesOff_13 (by decide) ?_
        refine a_aload_n (pc := 15) (i := 0) dX5_goesOff_15 rfl rfl ?_
        refine a_iload_n (pc := 16) (i := 1) dX5_goesOff_16 rfl rfl ?_
        refine a_iload_n (pc := 17) (i := 2) dX5_goesOff_17 rfl rfl ?_
        refine a_iload (pc := 18) (i := 4) dX5_goesOff_18 rfl ?_
        refine n_iadd (pc := 20) dX5_goesOff_20 ?_
        refine a_vV1 (pc := 21) (as := [.int (nI x), .int (nI (p + i))]) (b := 66) (ci := 5) (v := .int (nI (mcl s x (p + i)))) (h' := H) dX5_goesOff_21 (lc_RX5_178 rfl) ceX5_cellOf rfl (lt90 hn1 (shK_lt (show shK 66 = _ from rfl))) (s5_cellOf (d := d) (s := tkS s (uX P (pcl s (mq s x p) i)) a b) c1 g hd hx e2) rfl rfl (Nat.le_of_ble_eq_true rfl) rfl ?_
        refine n_iadd (pc := 24) dX5_goesOff_24 ?_
        refine a_iconst (pc := 25) (v := nI 1) dX5_goesOff_25 (by decide) ?_
        refine a_iast (pc := 26) (j := (114 + (mcl s x (p + i)))) dX5_goesOff_26 rfl (lt90 hn1 (shK_lt (show shK 68 = _ from rfl))) rfl (by omega) ?_
        refine n_iinc (pc := 27) (k := 1) (ls' := [(0, .ref 66), (1, .int (nI x)), (2, .int (nI p)), (3, .int (nI n)), (4, .int (nI (i + 1)))]) dX5_goesOff_27 rfl (by decide) (by decide) rfl ?_
        refine a_goto (pc := 30) (tgt := 3) dX5_goesOff_30 (by decide) ?_
        exact ih (i + 1) _ (by omega) (hf.sI (by simp)) (DM_go g hd hcl (fun y => by
      show (P y ∨ pcl s (mq s x p) (i + 1) y) ↔ (P y ∨ pcl s (mq s x p) i y) ∨ y = mb s (mcl s x (p + i))
      rw [pcl_s, ← mq_cell g hx e2, e1, or_assoc])) (by omega)
  refine a_iconst (pc := 0) (v := nI 0) dX5_goesOff_0 (by decide) ?_
  refine a_istore (pc := 1) (i := 4) (ls' := [(0, .ref 66), (1, .int (nI x)), (2, .int (nI p)), (3, .int (nI n)), (4, .int (nI 0))]) dX5_goesOff_1 (by decide) rfl ?_
  exact LP (n + 1) 0 h (Nat.zero_le _) Fr.refl (by
    refine ⟨r.1, r.2.1, r.2.2.1, fun c hc => (r.2.2.2.1 c hc).trans (bi_c ?_), r.2.2.2.2⟩
    show (sGn s c ∨ P (mb s c)) ↔ (sGn s c ∨ P (mb s c) ∨ pcl s (mq s x p) 0 (mb s c))
    exact ⟨fun z => z.elim Or.inl (fun z => Or.inr (Or.inl z)), fun z => z.elim Or.inl (fun z => z.elim Or.inr (fun ⟨j, h1, _⟩ => absurd h1 (by omega)))⟩) (by omega)
