/-! the class SetupReader: spaces, words, errors -/
/-- the reader holds n bytes Y -/
def TX (h : AH) (n : Nat) (Y : Nat → Int32) : Prop := CB h ∧ n ≤ 400 ∧ hI h 7 2 = nI n ∧ ∀ j, j < n → hI h 12 j = Y j
/-- how far signs of a kind go -/
noncomputable def skp (P : Int32 → Prop) (Y : Nat → Int32) : Nat → Nat → Nat
  | 0, a => a
  | m + 1, a => cif (P (Y a)) (skp P Y m (a + 1)) a
theorem skp_le {P : Int32 → Prop} {Y : Nat → Int32} : ∀ m a, a ≤ skp P Y m a ∧ skp P Y m a ≤ a + m
  | 0, a => ⟨Nat.le_refl _, Nat.le_refl _⟩
  | m + 1, a => by
    have := skp_le (P := P) (Y := Y) m (a + 1)
    unfold skp
    rcases Classical.em (P (Y a)) with h | h
    · rw [cif_t h]; omega
    · rw [cif_f h]; omega
/-- the reader's place is b now; nothing else changed -/
def At7 (h h2 : AH) (b : Nat) : Prop := Fr [7] h h2 ∧ hI h2 7 3 = nI b ∧ ∀ j, j ≠ 3 → hI h2 7 j = hI h 7 j
theorem TX.at {h h2 : AH} {n b : Nat} {Y : Nat → Int32} (x : TX h n Y) (a : At7 h h2 b) : TX h2 n Y := ⟨x.1.fr a.1, x.2.1, (a.2.2 2 (by omega)).trans x.2.2.1, fun j hj => by rw [(a.1.2.2 12 (by simp)).1]; exact x.2.2.2 j hj⟩
theorem At7.trans {h h2 h3 : AH} {b b2 : Nat} (a : At7 h h2 b) (a2 : At7 h2 h3 b2) : At7 h h3 b2 := ⟨a.1.trans a2.1, a2.2.1, fun j hj => (a2.2.2 j hj).trans (a.2.2 j hj)⟩
set_option maxHeartbeats 1500000 in
set_option maxRecDepth 100000 in
theorem sp_skipSpaces {d : Nat} {h : AH} {n a : Nat} {Y : Nat → Int32} (x : TX h n Y) (h3 : hI h 7 3 = nI a) (ha : a ≤ n) : AC mX2_skipSpaces (d + 2) 0 0 [.ref 7] h (Qu (fun h2 => At7 h h2 (skp (fun z => z = nI 32) Y (n - a) a))) := by
  refine AC.of (by decide) rfl (Nat.le_of_ble_eq_true rfl) (fun X => ?_)
  show AW X mX2_skipSpaces (d + 2) 0 0 0 [(0, .ref 7)] [] h (Qu (fun h2 => At7 h h2 (skp (fun z => z = nI 32) Y (n - a) a)))
  have hn := x.1.1
  have hn4 := x.2.1
  have LP : ∀ (fu : Nat) (b : Nat) (H : AH), a ≤ b ∧ b ≤ n → At7 h H b → skp (fun z => z = nI 32) Y (n - b) b = skp (fun z => z = nI 32) Y (n - a) a → n - b < fu → AW X mX2_skipSpaces (d + 2) 0 0 0 [(0, .ref 7)] [] H (Qu (fun h2 => At7 h h2 (skp (fun z => z = nI 32) Y (n - a) a))) := by
    intro fu
    induction fu with
    | zero => intro b H hb ha hs hz; exact absurd hz (Nat.not_lt_zero _)
    | succ fu ih =>
      intro b H hb ha hs hz
      have xx := x.at ha
      have c2 := xx.1
      have hn2 := c2.1
      refine a_aload_n (pc := 0) (i := 0) dX2_skipSpaces_0 rfl rfl ?_
      refine a_getI (pc := 1) (ci := 2) (k := 3) dX2_skipSpaces_1 (lf_RX2_44 rfl) (by decide) rfl rfl (lt90 hn2 (shK_lt (show shK 7 = _ from rfl))) ?_
      refine a_top (show (.int (hI H 7 3) : Value) = .int (nI b) from congrArg Value.int ha.2.1) ?_
      refine a_aload_n (pc := 4) (i := 0) dX2_skipSpaces_4 rfl rfl ?_
      refine a_getI (pc := 5) (ci := 2) (k := 2) dX2_skipSpaces_5 (lf_RX2_35 rfl) (by decide) rfl rfl (lt90 hn2 (shK_lt (show shK 7 = _ from rfl))) ?_
      refine a_top (show (.int (hI H 7 2) : Value) = .int (nI n) from congrArg Value.int xx.2.2.1) ?_
      refine n_icmp_ge (pc := 8) (tgt := 38) dX2_skipSpaces_8 (by decide) (by omega) (by omega) (fun c8 => ?_) (fun c8 => ?_)
      · have e : n - b = 0 := by omega
        rw [e] at hs
        exact a_return (pc := 38) dX2_skipSpaces_38 rfl (⟨rfl, hs ▸ ha⟩)
      · obtain ⟨m, hm⟩ : ∃ m, n - b = m + 1 := ⟨n - b - 1, by omega⟩
        rw [hm] at hs
        refine a_aload_n (pc := 11) (i := 0) dX2_skipSpaces_11 rfl rfl ?_
        refine a_getR (pc := 12) (ci := 2) (k := 1) (b := 12) dX2_skipSpaces_12 (lf_RX2_18 rfl) (by decide) rfl rfl (lt90 hn2 (shK_lt (show shK 7 = _ from rfl))) c2.2.2.2.1.2 ?_
        refine a_aload_n (pc := 15) (i := 0) dX2_skipSpaces_15 rfl rfl ?_
        refine a_getI (pc := 16) (ci := 2) (k := 3) dX2_skipSpaces_16 (lf_RX2_44 rfl) (by decide) rfl rfl (lt90 hn2 (shK_lt (show shK 7 = _ from rfl))) ?_
        refine a_top (show (.int (hI H 7 3) : Value) = .int (nI b) from congrArg Value.int ha.2.1) ?_
        refine a_bald (pc := 19) (j := b) dX2_skipSpaces_19 rfl (lt90 hn2 (shK_lt (show shK 12 = _ from rfl))) rfl (by omega) ?_
        refine a_top (show (.int (hI H 12 b) : Value) = .int (Y b) from congrArg Value.int (xx.2.2.2 b c8)) ?_
        refine a_bipush (pc := 20) (v := nI 32) dX2_skipSpaces_20 (by decide) ?_
        refine a_icmp_ne (pc := 22) (tgt := 38) dX2_skipSpaces_22 (by decide) (fun c22 => ?_) (fun c22 => ?_)
        · skip
          have e : skp (fun z => z = nI 32) Y (m + 1) b = b := cif_f c22
          rw [e] at hs
          exact a_return (pc := 38) dX2_skipSpaces_38 rfl (⟨rfl, hs ▸ ha⟩)
        · skip
          have e : skp (fun z => z = nI 32) Y (m + 1) b = skp (fun z => z = nI 32) Y m (b + 1) := cif_t c22
          refine a_aload_n (pc := 25) (i := 0) dX2_skipSpaces_25 rfl rfl ?_
          refine a_dup (pc := 26) dX2_skipSpaces_26 rfl ?_
          refine a_getI (pc := 27) (ci := 2) (k := 3) dX2_skipSpaces_27 (lf_RX2_44 rfl) (by decide) rfl rfl (lt90 hn2 (shK_lt (show shK 7 = _ from rfl))) ?_
          refine a_top (show (.int (hI H 7 3) : Value) = .int (nI b) from congrArg Value.int ha.2.1) ?_
          refine a_iconst (pc := 30) (v := nI 1) dX2_skipSpaces_30 (by decide) ?_
          refine n_iadd (pc := 31) dX2_skipSpaces_31 ?_
          refine a_putI (pc := 32) (ci := 2) (k := 3) dX2_skipSpaces_32 (lf_RX2_44 rfl) (by decide) (Or.inl rfl) rfl (lt90 hn2 (shK_lt (show shK 7 = _ from rfl))) rfl ?_
          refine a_goto (pc := 35) (tgt := 0) dX2_skipSpaces_35 (by decide) ?_
          exact ih (b + 1) _ (by omega) (ha.trans ⟨Fr.refl.sI (by simp), rd2 ⟨rfl, rfl⟩, fun j hj => rd1 (by omega)⟩) (by rw [show n - (b + 1) = m by omega, ← e]; exact hs) (by omega)
  exact LP (n + 1) a h ⟨Nat.le_refl _, ha⟩ ⟨Fr.refl, h3, fun _ _ => rfl⟩ rfl (by omega)
set_option maxHeartbeats 1500000 in
set_option maxRecDepth 100000 in
theorem sp_skipWord {d : Nat} {h : AH} {n a : Nat} {Y : Nat → Int32} (x : TX h n Y) (h3 : hI h 7 3 = nI a) (ha : a ≤ n) : AC mX2_skipWord (d + 2) 0 0 [.ref 7] h (Qu (fun h2 => At7 h h2 (skp (isLt) Y (n - a) a))) := by
  refine AC.of (by decide) rfl (Nat.le_of_ble_eq_true rfl) (fun X => ?_)
  show AW X mX2_skipWord (d + 2) 0 0 0 [(0, .ref 7)] [] h (Qu (fun h2 => At7 h h2 (skp (isLt) Y (n - a) a)))
  have hn := x.1.1
  have hn4 := x.2.1
  have LP : ∀ (fu : Nat) (b : Nat) (H : AH), a ≤ b ∧ b ≤ n → At7 h H b → skp (isLt) Y (n - b) b = skp (isLt) Y (n - a) a → n - b < fu → AW X mX2_skipWord (d + 2) 0 0 0 [(0, .ref 7)] [] H (Qu (fun h2 => At7 h h2 (skp (isLt) Y (n - a) a))) := by
    intro fu
    induction fu with
    | zero => intro b H hb ha hs hz; exact absurd hz (Nat.not_lt_zero _)
    | succ fu ih =>
      intro b H hb ha hs hz
      have xx := x.at ha
      have c2 := xx.1
      have hn2 := c2.1
      refine a_aload_n (pc := 0) (i := 0) dX2_skipWord_0 rfl rfl ?_
      refine a_getI (pc := 1) (ci := 2) (k := 3) dX2_skipWord_1 (lf_RX2_44 rfl) (by decide) rfl rfl (lt90 hn2 (shK_lt (show shK 7 = _ from rfl))) ?_
      refine a_top (show (.int (hI H 7 3) : Value) = .int (nI b) from congrArg Value.int ha.2.1) ?_
      refine a_aload_n (pc := 4) (i := 0) dX2_skipWord_4 rfl rfl ?_
      refine a_getI (pc := 5) (ci := 2) (k := 2) dX2_skipWord_5 (lf_RX2_35 rfl) (by decide) rfl rfl (lt90 hn2 (shK_lt (show shK 7 = _ from rfl))) ?_
      refine a_top (show (.int (hI H 7 2) : Value) = .int (nI n) from congrArg Value.int xx.2.2.1) ?_
      refine n_icmp_ge (pc := 8) (tgt := 39) dX2_skipWord_8 (by decide) (by omega) (by omega) (fun c8 => ?_) (fun c8 => ?_)
      · have e : n - b = 0 := by omega
        rw [e] at hs
        exact a_return (pc := 39) dX2_skipWord_39 rfl (⟨rfl, hs ▸ ha⟩)
      · obtain ⟨m, hm⟩ : ∃ m, n - b = m + 1 := ⟨n - b - 1, by omega⟩
        rw [hm] at hs
        refine a_aload_n (pc := 11) (i := 0) dX2_skipWord_11 rfl rfl ?_
        refine a_getR (pc := 12) (ci := 2) (k := 1) (b := 12) dX2_skipWord_12 (lf_RX2_18 rfl) (by decide) rfl rfl (lt90 hn2 (shK_lt (show shK 7 = _ from rfl))) c2.2.2.2.1.2 ?_
        refine a_aload_n (pc := 15) (i := 0) dX2_skipWord_15 rfl rfl ?_
        refine a_getI (pc := 16) (ci := 2) (k := 3) dX2_skipWord_16 (lf_RX2_44 rfl) (by decide) rfl rfl (lt90 hn2 (shK_lt (show shK 7 = _ from rfl))) ?_
        refine a_top (show (.int (hI H 7 3) : Value) = .int (nI b) from congrArg Value.int ha.2.1) ?_
        refine a_bald (pc := 19) (j := b) dX2_skipWord_19 rfl (lt90 hn2 (shK_lt (show shK 12 = _ from rfl))) rfl (by omega) ?_
        refine a_top (show (.int (hI H 12 b) : Value) = .int (Y b) from congrArg Value.int (xx.2.2.2 b c8)) ?_
        refine a_vSN1 (pc := 20) (as := [.int (Y b)]) (v := .int (bi (isLt (Y b)))) (h' := H) dX2_skipWord_20 (lc_RX2_123 rfl) ceX4_isLetter sp_isLetter rfl rfl (Nat.le_of_ble_eq_true rfl) rfl ?_
        refine b_if_eq (pc := 23) (tgt := 39) dX2_skipWord_23 (by decide) (fun c22 => ?_) (fun c22 => ?_)
        · skip
          have e : skp (isLt) Y (m + 1) b = b := cif_f c22
          rw [e] at hs
          exact a_return (pc := 39) dX2_skipWord_39 rfl (⟨rfl, hs ▸ ha⟩)
        · skip
          have e : skp (isLt) Y (m + 1) b = skp (isLt) Y m (b + 1) := cif_t c22
          refine a_aload_n (pc := 26) (i := 0) dX2_skipWord_26 rfl rfl ?_
          refine a_dup (pc := 27) dX2_skipWord_27 rfl ?_
          refine a_getI (pc := 28) (ci := 2) (k := 3) dX2_skipWord_28 (lf_RX2_44 rfl) (by decide) rfl rfl (lt90 hn2 (shK_lt (show shK 7 = _ from rfl))) ?_
          refine a_top (show (.int (hI H 7 3) : Value) = .int (nI b) from congrArg Value.int ha.2.1) ?_
          refine a_iconst (pc := 31) (v := nI 1) dX2_skipWord_31 (by decide) ?_
          refine n_iadd (pc := 32) dX2_skipWord_32 ?_
          refine a_putI (pc := 33) (ci := 2) (k := 3) dX2_skipWord_33 (lf_RX2_44 rfl) (by decide) (Or.inl rfl) rfl (lt90 hn2 (shK_lt (show shK 7 = _ from rfl))) rfl ?_
          refine a_goto (pc := 36) (tgt := 0) dX2_skipWord_36 (by decide) ?_
          exact ih (b + 1) _ (by omega) (ha.trans ⟨Fr.refl.sI (by simp), rd2 ⟨rfl, rfl⟩, fun j hj => rd1 (by omega)⟩) (by rw [show n - (b + 1) = m by omega, ← e]; exact hs) (by omega)
  exact LP (n + 1) a h ⟨Nat.le_refl _, ha⟩ ⟨Fr.refl, h3, fun _ _ => rfl⟩ rfl (by omega)
