/-! the class LetterCutsModel: missing, tell, longest -/
theorem i8_n (b : Int8) : ∃ n : Fin 256, b = Int8.ofNat n.val := by
  have h : b.toBitVec.toNat < 256 := b.toBitVec.isLt
  refine ⟨⟨b.toBitVec.toNat, h⟩, ?_⟩
  apply Int8.toBitVec_inj.mp
  rw [Int8.toBitVec_ofNat']
  simp
theorem u8_n : ∀ n : Fin 256, (¬ (Int8.ofNat n.val).toInt32 < 0 ∧ (Int8.ofNat n.val).toInt32 &&& 255 = (Int8.ofNat n.val).toInt32) ∨ ((Int8.ofNat n.val).toInt32 < 0 ∧ nI 127 < (Int8.ofNat n.val).toInt32 &&& 255) := by decide +kernel
theorem u8_c {x : Int32} (h : ∃ b : Int8, x = b.toInt32) : (¬ x < 0 ∧ x &&& 255 = x) ∨ (x < 0 ∧ nI 127 < x &&& 255) := by
  obtain ⟨b, rfl⟩ := h
  obtain ⟨n, rfl⟩ := i8_n b
  exact u8_n n
theorem lt_tr {x y z : Int32} (h1 : x < y) (h2 : y < z) : x < z := by
  rw [Int32.lt_iff_toInt_lt] at h1 h2 ⊢
  omega
theorem u8_lt {x : Int32} (h : ∃ b : Int8, x = b.toInt32) : isLt (x &&& 255) ↔ isLt x := by
  rcases u8_c h with z | z
  · rw [z.2]
  · exact ⟨fun q => absurd (lt_tr (by decide : nI 122 < nI 127) z.2) q.2, fun q => absurd (lt_tr z.1 (by decide : (0 : Int32) < nI 97)) q.1⟩
theorem u8_eq {x : Int32} (h : ∃ b : Int8, x = b.toInt32) {n : Nat} (hn : n < 128) : x &&& 255 = nI n ↔ x = nI n := by
  rcases u8_c h with z | z
  · rw [z.2]
  · constructor
    · intro e
      rw [e] at z
      have := (nI_ltI (by omega) (by omega)).mp z.2
      omega
    · intro e
      rw [e] at z
      exact absurd z.1 (nI_pos (by omega))
theorem u8_of {x : Int32} (h : ∃ b : Int8, x = b.toInt32) (hl : isLt x) : x &&& 255 = x := by
  rcases u8_c h with z | z
  · exact z.2
  · exact absurd (lt_tr z.1 (by decide : (0 : Int32) < nI 97)) hl.1
set_option maxHeartbeats 1500000 in
set_option maxRecDepth 100000 in
theorem s5_missing {d : Nat} {h : AH} {t : ST} (m : MM h t) : AC mX5_missing (d + 300) 0 0 [.ref 66] h (Qn (.int (nI (nMiss (tC t)))) t h) := by
  have c := m.1
  have g := m.2.1.1
  have r := m.2.2.1
  have hn := c.1
  have gw := g.1
  have gh := g.2.1
  have gl := g.2.2.2.2.2.1
  have gc := cells48 g
  refine AC.of (by decide) rfl (Nat.le_of_ble_eq_true rfl) (fun X => ?_)
  show AW X mX5_missing (d + 300) 0 0 0 [(0, .ref 66)] [] h (Qn (.int (nI (nMiss (tC t)))) t h)
  refine a_aload_n (pc := 0) (i := 0) dX5_missing_0 rfl rfl ?_
  refine a_iconst (pc := 1) (v := nI 0) dX5_missing_1 (by decide) ?_
  refine a_putI (pc := 2) (ci := 5) (k := 0) dX5_missing_2 (lf_RX5_64 rfl) (by decide) (Or.inl rfl) rfl (lt90 hn (shK_lt (show shK 66 = _ from rfl))) rfl ?_
  obtain ⟨H0, hH0⟩ : ∃ Hx, Hx = sI h 66 0 (nI 0) := ⟨_, rfl⟩
  have f0 : Fr [66] h H0 := by rw [hH0]; exact Fr.refl.sI (by simp)
  have k0 : ∀ j, j ≠ 0 → hI H0 66 j = hI h 66 j := fun j hj => by rw [hH0]; exact rd1 (by omega)
  have t0 : hI H0 66 0 = nI 0 := by rw [hH0]; exact rd2 ⟨rfl, rfl⟩
  refine a_heap (h' := H0) hH0.symm ?_
  have m0 : MM H0 t := m.scr f0 (by simp) (k0 2 (by omega)) (k0 7 (by omega)) (k0 12 (by omega))
  have c0 := m0.1
  have r0 := m0.2.2.1
  have hn0 := c0.1
  refine a_aload_n (pc := 5) (i := 0) dX5_missing_5 rfl rfl ?_
  refine a_wV1 (pc := 6) (as := []) (b := 66) (ci := 5) (v := .int (nI (nMiss (tC t)))) dX5_missing_6 (lc_RX5_241 rfl) ceX5_missingNow rfl (lt90 hn0 (shK_lt (show shK 66 = _ from rfl))) (s5_missingNow (d := d + 238) c0 g r0) rfl rfl (Nat.le_of_ble_eq_true rfl) (fun H1 f1 e1 => ?_)
  exact a_ireturn (pc := 9) dX5_missing_9 rfl rfl (⟨rfl, m0.scr f1 (by simp) (by rw [e1]) (by rw [e1]) (by rw [e1]), f0.fm.trans (f1.fm' (by simp))⟩)
set_option maxHeartbeats 1500000 in
set_option maxRecDepth 100000 in
theorem s5_areLetters {d n : Nat} {h : AH} {Y : Nat → Int32} (c : CB h) (hn4 : n ≤ 400) (hY : ∀ j, j < n → hI h 67 j = Y j &&& 255) (h8 : ∀ j, ∃ b : Int8, Y j = b.toInt32) : AC mX5_areLetters (d + 1) 0 0 [.ref 66, .int (nI n)] h (Qe (some (.int (bi (∀ i, i < n → isLt (Y i))))) h) := by
  have hn := c.1
  refine AC.of (by decide) rfl (Nat.le_of_ble_eq_true rfl) (fun X => ?_)
  show AW X mX5_areLetters (d + 1) 0 0 0 [(0, .ref 66), (1, .int (nI n))] [] h (Qe (some (.int (bi (∀ i, i < n → isLt (Y i))))) h)
  have LP : ∀ (fu : Nat) (k : Nat), k ≤ n → (∀ i, i < k → isLt (Y i)) → n - k < fu → AW X mX5_areLetters (d + 1) 0 0 2 [(0, .ref 66), (1, .int (nI n)), (2, .int (nI k))] [] h (Qe (some (.int (bi (∀ i, i < n → isLt (Y i))))) h) := by
    intro fu
    induction fu with
    | zero => intro k hk ha hz; exact absurd hz (Nat.not_lt_zero _)
    | succ fu ih =>
      intro k hk ha hz
      refine a_iload_n (pc := 2) (i := 2) dX5_areLetters_2 rfl rfl ?_
      refine a_iload_n (pc := 3) (i := 1) dX5_areLetters_3 rfl rfl ?_
      refine n_icmp_ge (pc := 4) (tgt := 31) dX5_areLetters_4 (by decide) (by omega) (by omega) (fun c4 => ?_) (fun c4 => ?_)
      · have e : ∀ i, i < n → isLt (Y i) := fun i hi => ha i (by omega)
        refine a_iconst (pc := 31) (v := nI 1) dX5_areLetters_31 (by decide) ?_
        exact a_ireturn (pc := 32) dX5_areLetters_32 rfl rfl (⟨by rw [bi_t e]; rfl, rfl⟩)
      · skip
        refine a_aload_n (pc := 7) (i := 0) dX5_areLetters_7 rfl rfl ?_
        refine a_getR (pc := 8) (ci := 5) (k := 1) (b := 67) dX5_areLetters_8 (lf_RX5_9 rfl) (by decide) rfl rfl (lt90 hn (shK_lt (show shK 66 = _ from rfl))) c.2.2.2.2.2.2.2.2.1.1 ?_
        refine a_iload_n (pc := 11) (i := 2) dX5_areLetters_11 rfl rfl ?_
        refine a_iald (pc := 12) (j := k) dX5_areLetters_12 rfl (lt90 hn (shK_lt (show shK 67 = _ from rfl))) rfl (by omega) ?_
        refine a_top (show (.int (hI h 67 k) : Value) = .int (Y k &&& 255) from congrArg Value.int (hY k c4)) ?_
        refine a_bipush (pc := 13) (v := nI 97) dX5_areLetters_13 (by decide) ?_
        refine a_bipush (pc := 15) (v := nI 122) dX5_areLetters_15 (by decide) ?_
        refine a_vS1 (pc := 17) (as := [.int (Y k &&& 255), .int (nI 97), .int (nI 122)]) (v := .int (bi (isLt (Y k &&& 255)))) (h' := h) dX5_areLetters_17 (lc_RX5_86 rfl) ceX5_in s5_in rfl rfl (Nat.le_of_ble_eq_true rfl) rfl ?_
        refine b_if_ne (pc := 20) (tgt := 25) dX5_areLetters_20 (by decide) (fun c20 => ?_) (fun c20 => ?_)
        · rw [u8_lt (h8 k)] at c20
          refine n_iinc (pc := 25) (k := 1) (ls' := [(0, .ref 66), (1, .int (nI n)), (2, .int (nI (k + 1)))]) dX5_areLetters_25 rfl (by decide) (by decide) rfl ?_
          refine a_goto (pc := 28) (tgt := 2) dX5_areLetters_28 (by decide) ?_
          exact ih (k + 1) (by omega) (fun i hi => by rcases (by omega : i < k ∨ i = k) with z | z; exact ha i z; rw [z]; exact c20) (by omega)
        · rw [u8_lt (h8 k)] at c20
          have e : ¬ ∀ i, i < n → isLt (Y i) := fun z => c20 (z k c4)
          refine a_iconst (pc := 23) (v := nI 0) dX5_areLetters_23 (by decide) ?_
          exact a_ireturn (pc := 24) dX5_areLetters_24 rfl rfl (⟨by rw [bi_f e]; rfl, rfl⟩)
  refine a_iconst (pc := 0) (v := nI 0) dX5_areLetters_0 (by decide) ?_
  refine a_istore_n (pc := 1) (i := 2) (ls' := [(0, .ref 66), (1, .int (nI n)), (2, .int (nI 0))]) dX5_areLetters_1 rfl (by decide) rfl ?_
  exact LP (n + 1) 0 (Nat.zero_le _) (fun i hi => absurd hi (by omega)) (by omega)
theorem MM.tel {h h2 : AH} {t : ST} {s : SH} (m : MM h t) (f : Fr [66, 68] h h2) (k : ∀ j, j ≠ 2 → hI h2 66 j = hI h 66 j) (e2 : hI h2 66 2 = nI 0) (r : DM h2 68 s) (g : GS s) : MM h2 (s, (0, tY t), t.2.2) := by
  obtain ⟨c, g0, r0, ⟨b1, b2⟩, a7, a12, p⟩ := m
  exact ⟨c.fr f, ⟨g, Nat.zero_le _, g0.2.2⟩, r, ⟨e2, fun j hj => absurd hj (Nat.not_lt_zero _)⟩, (k 7 (by omega)).trans a7, (k 12 (by omega)).trans a12, fun i hi => (p i hi).fr f (by simp; omega)⟩
set_option maxHeartbeats 1500000 in
set_option maxRecDepth 100000 in
theorem s5_tell {d : Nat} {h : AH} {t : ST} {x : Int32} (m : MM h t) : AC mX5_tell (d + 300) 0 0 [.ref 66, .int x] h (Qm [eIA] (oTell t x).1 (oTell t x).2 h) := by
  have c := m.1
  have g := m.2.1.1
  have r := m.2.2.1
  have hn := c.1
  have gw := g.1
  have gh := g.2.1
  have gl := g.2.2.2.2.2.1
  have gc := cells48 g
  refine AC.of (by decide) rfl (Nat.le_of_ble_eq_true rfl) (fun X => ?_)
  show AW X mX5_tell (d + 300) 0 0 0 [(0, .ref 66), (1, .int x)] [] h (Qm [eIA] (oTell t x).1 (oTell t x).2 h)
  refine a_aload_n (pc := 0) (i := 0) dX5_tell_0 rfl rfl ?_
  refine a_iconst (pc := 1) (v := nI 0) dX5_tell_1 (by decide) ?_
  refine a_putI (pc := 2) (ci := 5) (k := 0) dX5_tell_2 (lf_RX5_64 rfl) (by decide) (Or.inl rfl) rfl (lt90 hn (shK_lt (show shK 66 = _ from rfl))) rfl ?_
  obtain ⟨H0, hH0⟩ : ∃ Hx, Hx = sI h 66 0 (nI 0) := ⟨_, rfl⟩
  have f0 : Fr [66] h H0 := by rw [hH0]; exact Fr.refl.sI (by simp)
  have k0 : ∀ j, j ≠ 0 → hI H0 66 j = hI h 66 j := fun j hj => by rw [hH0]; exact rd1 (by omega)
  have t0 : hI H0 66 0 = nI 0 := by rw [hH0]; exact rd2 ⟨rfl, rfl⟩
  refine a_heap (h' := H0) hH0.symm ?_
  have m0 : MM H0 t := m.scr f0 (by simp) (k0 2 (by omega)) (k0 7 (by omega)) (k0 12 (by omega))
  have c0 := m0.1
  have r0 := m0.2.2.1
  have hn0 := c0.1
  have b0 := m0.2.2.2.1
  have hb4 := m0.2.1.2.1
  have h8 := m0.2.1.2.2.1
  refine a_aload_n (pc := 5) (i := 0) dX5_tell_5 rfl rfl ?_
  refine a_iload_n (pc := 6) (i := 1) dX5_tell_6 rfl rfl ?_
  refine a_iconst (pc := 7) (v := nI 1) dX5_tell_7 (by decide) ?_
  refine a_bipush (pc := 8) (v := nI 24) dX5_tell_8 (by decide) ?_
  refine a_aload_n (pc := 10) (i := 0) dX5_tell_10 rfl rfl ?_
  refine a_getI (pc := 11) (ci := 5) (k := 2) dX5_tell_11 (lf_RX5_67 rfl) (by decide) rfl rfl (lt90 hn0 (shK_lt (show shK 66 = _ from rfl))) ?_
  refine a_top (show (.int (hI H0 66 2) : Value) = .int (nI (tB t)) from congrArg Value.int b0.1) ?_
  refine a_vS1 (pc := 14) (as := [.int (nI 24), .int (nI (tB t))]) (v := .int (nI (min 24 (tB t)))) (h' := H0) dX5_tell_14 (lc_RX5_119 rfl) ceX5_min (s5_min (by omega) (by omega)) rfl rfl (Nat.le_of_ble_eq_true rfl) rfl ?_
  refine a_vS1 (pc := 17) (as := [.int x, .int (nI 1), .int (nI (min 24 (tB t)))]) (v := .int (bi (inB x (nI 1) (nI (min 24 (tB t)))))) (h' := H0) dX5_tell_17 (lc_RX5_86 rfl) ceX5_in s5_in rfl rfl (Nat.le_of_ble_eq_true rfl) rfl ?_
  refine b_if_eq (pc := 20) (tgt := 31) dX5_tell_20 (by decide) (fun c20 => ?_) (fun c20 => ?_)
  · have e : oTell t x = (.inr eIA, t) := cif_f (fun ⟨n, h1, h2, h3⟩ => c20 ((inB_n (by omega) (by omega)).mpr ⟨n, by omega, h2⟩))
    refine a_iconst (pc := 31) (v := nI 1) dX5_tell_31 (by decide) ?_
    refine a_goto (pc := 32) (tgt := 36) dX5_tell_32 (by decide) ?_
    refine a_iconst (pc := 36) (v := nI 1) dX5_tell_36 (by decide) ?_
    refine a_vV1 (pc := 37) (as := [.int (nI 1), .int (nI 1)]) (b := 66) (ci := 5) (v := .int (nI 1)) (h' := (sI H0 66 0 (nI 1))) dX5_tell_37 (lc_RX5_156 rfl) ceX5_fails rfl (lt90 hn0 (shK_lt (show shK 66 = _ from rfl))) (s5_fails1 c0 t0 (by omega)) rfl rfl (Nat.le_of_ble_eq_true rfl) rfl ?_
    refine n_if_eq (pc := 40) (tgt := 45) dX5_tell_40 (by decide) (by omega) (fun cz => ?_) (fun cz => ?_)
    · exact absurd cz (by omega)
    · skip
      refine a_iconst (pc := 43) (v := nI 0) dX5_tell_43 (by decide) ?_
      exact a_ireturn (pc := 44) dX5_tell_44 rfl rfl (⟨_, rfl, (fun w hw => by rw [e] at hw; cases hw), by rw [e, show kn [eIA] (.inr eIA) = 1 from by decide +kernel]; exact rd2 ⟨rfl, rfl⟩, by rw [e]; exact m0.scr (S := [66]) (Fr.refl.sI (by simp)) (by simp) (rd1 (by omega)) (rd1 (by omega)) (rd1 (by omega)), f0.fm.trans (Fr.fm (Fr.refl.sI (by simp)))⟩)
  · obtain ⟨n, hn2, rfl⟩ := (inB_n (by omega) (by omega)).mp c20
    refine a_aload_n (pc := 23) (i := 0) dX5_tell_23 rfl rfl ?_
    refine a_iload_n (pc := 24) (i := 1) dX5_tell_24 rfl rfl ?_
    refine a_vV1 (pc := 25) (as := [.int (nI n)]) (b := 66) (ci := 5) (v := .int (bi (∀ i, i < n → isLt (tY t i)))) (h' := H0) dX5_tell_25 (lc_RX5_305 rfl) ceX5_areLetters rfl (lt90 hn0 (shK_lt (show shK 66 = _ from rfl))) (s5_areLetters (d := d + 298) c0 (by omega) (fun j hj => b0.2 j (by omega)) h8) rfl rfl (Nat.le_of_ble_eq_true rfl) rfl ?_
    refine b_if_ne (pc := 28) (tgt := 35) dX5_tell_28 (by decide) (fun c28 => ?_) (fun c28 => ?_)
    · have e : oTell t (nI n) = (.inl (some (.int (nI (nMiss (msOf (tC t) n (tY t)))))), (msOf (tC t) n (tY t), (0, tY t), (tRem t).2.2)) := by
        refine (cif_t ⟨n, by omega, rfl, c28⟩).trans ?_
        rw [i2n_nI (by omega)]; rfl
      refine a_iconst (pc := 35) (v := nI 0) dX5_tell_35 (by decide) ?_
      refine a_iconst (pc := 36) (v := nI 1) dX5_tell_36 (by decide) ?_
      refine a_vV1 (pc := 37) (as := [.int (nI 0), .int (nI 1)]) (b := 66) (ci := 5) (v := .int (nI 0)) (h' := H0) dX5_tell_37 (lc_RX5_156 rfl) ceX5_fails rfl (lt90 hn0 (shK_lt (show shK 66 = _ from rfl))) (s5_fails0 c0 t0) rfl rfl (Nat.le_of_ble_eq_true rfl) rfl ?_
      refine n_if_eq (pc := 40) (tgt := 45) dX5_tell_40 (by decide) (by omega) (fun cz => ?_) (fun cz => ?_)
      · skip
        refine a_aload_n (pc := 45) (i := 0) dX5_tell_45 rfl rfl ?_
        refine a_uV (pc := 46) (as := []) (b := 66) (ci := 5) dX5_tell_46 (lc_RX5_165 rfl) ceX5_remember rfl (lt90 hn0 (shK_lt (show shK 66 = _ from rfl))) (s5_remember (d := d + 298) m0) rfl rfl (Nat.le_of_ble_eq_true rfl) (fun h2 y => y.2.1.1) (fun H1 y => ?_)
        obtain ⟨m1, f1, k1⟩ := y
        have c1 := m1.1
        have r1 := m1.2.2.1
        rw [tRem_c] at r1
        have hn1 := c1.1
        have t1 : hI H1 66 0 = nI 0 := (k1 0 (by omega)).trans t0
        have w1 : Fm H0 H1 := f1.fm' (by intro a ha; simp at ha; omega)
        have b1 := m1.2.2.2.1.2
        rw [(tRem_b t).1, (tRem_b t).2.1] at b1
        refine a_aload_n (pc := 49) (i := 0) dX5_tell_49 rfl rfl ?_
        refine a_iconst (pc := 50) (v := nI 0) dX5_tell_50 (by decide) ?_
        refine a_putI (pc := 51) (ci := 5) (k := 2) dX5_tell_51 (lf_RX5_67 rfl) (by decide) (Or.inl rfl) rfl (lt90 hn1 (shK_lt (show shK 66 = _ from rfl))) rfl ?_
        refine a_aload_n (pc := 54) (i := 0) dX5_tell_54 rfl rfl ?_
        refine a_getR (pc := 55) (ci := 5) (k := 8) (b := 68) dX5_tell_55 (lf_RX5_17 rfl) (by decide) rfl rfl (lt90 hn1 (shK_lt (show shK 66 = _ from rfl))) c1.2.2.2.2.2.2.2.2.1.2.1 ?_
        refine a_iconst (pc := 58) (v := nI 3) dX5_tell_58 (by decide) ?_
        refine a_iload_n (pc := 59) (i := 1) dX5_tell_59 rfl rfl ?_
        refine a_iast (pc := 60) (j := 3) dX5_tell_60 rfl (lt90 hn1 (shK_lt (show shK 68 = _ from rfl))) rfl (by omega) ?_
        refine a_iconst (pc := 61) (v := nI 0) dX5_tell_61 (by decide) ?_
        refine a_istore_n (pc := 62) (i := 2) (ls' := [(0, .ref 66), (1, .int (nI n)), (2, .int (nI 0))]) dX5_tell_62 rfl (by decide) rfl ?_
        obtain ⟨H2, hH2⟩ : ∃ Hx, Hx = sI (sI H1 66 2 (nI 0)) 68 3 (nI n) := ⟨_, rfl⟩
        have f2 : Fr [66, 68] H1 H2 := by rw [hH2]; exact (Fr.refl.sI (by simp)).sI (by simp)
        have k2 : ∀ j, j ≠ 2 → hI H2 66 j = hI H1 66 j := fun j hj => by rw [hH2, rd1 (by omega), rd1 (by omega)]
        have e2 : hI H2 66 2 = nI 0 := by rw [hH2, rd1 (by omega)]; exact rd2 ⟨rfl, rfl⟩
        have q2 : ∀ j, j ≠ 3 → hI H2 68 j = hI H1 68 j := fun j hj => by rw [hH2, rd1 (by omega), rd1 (by omega)]
        have q3 : hI H2 68 3 = nI n := by rw [hH2]; exact rd2 ⟨rfl, rfl⟩
        refine a_heap (h' := H2) hH2.symm ?_
        have c2 := c1.fr f2
        have LP : ∀ (fu : Nat) (k : Nat) (H3 : AH), k ≤ n → Fr [68] H2 H3 → (∀ j, j < 162 → hI H3 68 j = hI H2 68 j) → (∀ j, j < k → hI H3 68 (162 + j) = tY t j - nI 97) → n - k < fu → AW X mX5_tell (d + 300) 0 0 63 [(0, .ref 66), (1, .int (nI n)), (2, .int (nI k))] [] H3 (Qm [eIA] (oTell t (nI n)).1 (oTell t (nI n)).2 h) := by
          intro fu
          induction fu with
          | zero => intro k H3 hk hf hu hm hz; exact absurd hz (Nat.not_lt_zero _)
          | succ fu ih =>
            intro k H3 hk hf hu hm hz
            have c3 := c2.fr hf
            have hn3 := c3.1
            refine a_iload_n (pc := 63) (i := 2) dX5_tell_63 rfl rfl ?_
            refine a_iload_n (pc := 64) (i := 1) dX5_tell_64 rfl rfl ?_
            refine n_icmp_ge (pc := 65) (tgt := 93) dX5_tell_65 (by decide) (by omega) (by omega) (fun c65 => ?_) (fun c65 => ?_)
            · have ek : k = n := by omega
              have r3 : DM H3 68 (msOf (tC t) n (tY t)) := by
                obtain ⟨⟨x0, x1, x2, -, x4, x5⟩, rl, rs, rg, -⟩ := r1
                refine ⟨⟨by rw [hu 0 (by omega), q2 0 (by omega)]; exact x0, by rw [hu 1 (by omega), q2 1 (by omega)]; exact x1, by rw [hu 2 (by omega), q2 2 (by omega)]; exact x2, by rw [hu 3 (by omega)]; exact q3, by rw [hu 4 (by omega), q2 4 (by omega)]; exact x4, by rw [hu 5 (by omega), q2 5 (by omega)]; exact x5⟩, fun y p hy hp => ?_, fun y p hy hp => ?_, fun b hb => ?_, fun j hj => ?_⟩
                · have : p < sCells (tC t) := hp
                  rw [hu _ (by omega), q2 _ (by omega)]; exact rl y p hy hp
                · have : p < sH (tC t) := hp
                  rw [hu _ (by omega), q2 _ (by omega)]; exact rs y p hy hp
                · have : b < sCells (tC t) := hb
                  rw [hu _ (by omega), q2 _ (by omega)]; exact rg b hb
                · have hj : j < n := hj
                  show _ = nI (cif (isLt (tY t j)) (i2n (tY t j - nI 97)) 0)
                  rw [hm j (by omega), cif_t (c28 j hj)]
                  obtain ⟨v, a1, a2, a3⟩ := isLt_n (c28 j hj)
                  rw [a3, a2]
              have f13 : Fr [66, 68] H1 H3 := f2.trans (hf.mono (by simp))
              have e66 : hI H3 66 = hI H2 66 := (hf.2.2 66 (by simp)).1
              have m3 : MM H3 (msOf (tC t) n (tY t), (0, tY t), (tRem t).2.2) := by
                have z := m1.tel (s := msOf (tC t) n (tY t)) f13 (fun j hj => by rw [e66]; exact k2 j hj) (by rw [e66]; exact e2) r3 (GS_ms g (by omega))
                rw [(tRem_b t).2.1] at z; exact z
              refine a_aload_n (pc := 93) (i := 0) dX5_tell_93 rfl rfl ?_
              refine a_wV1 (pc := 94) (as := []) (b := 66) (ci := 5) (v := .int (nI (nMiss (msOf (tC t) n (tY t))))) dX5_tell_94 (lc_RX5_241 rfl) ceX5_missingNow rfl (lt90 hn3 (shK_lt (show shK 66 = _ from rfl))) (s5_missingNow (d := d + 238) c3 (GS_ms g (by omega)) r3) rfl rfl (Nat.le_of_ble_eq_true rfl) (fun H4 f4 e4 => ?_)
              exact a_ireturn (pc := 97) dX5_tell_97 rfl rfl (⟨_, rfl, (fun w hw => by rw [e] at hw; cases hw; rfl), by rw [e]; exact (by rw [e4, e66, k2 0 (by omega)]; exact t1), by rw [e]; exact m3.scr f4 (by simp) (by rw [e4]) (by rw [e4]) (by rw [e4]), ((f0.fm.trans w1).trans (f13.fm' (by simp))).trans (f4.fm' (by simp))⟩)
            · skip
              refine a_aload_n (pc := 68) (i := 0) dX5_tell_68 rfl rfl ?_
              refine a_getR (pc := 69) (ci := 5) (k := 8) (b := 68) dX5_tell_69 (lf_RX5_17 rfl) (by decide) rfl rfl (lt90 hn3 (shK_lt (show shK 66 = _ from rfl))) c3.2.2.2.2.2.2.2.2.1.2.1 ?_
              refine a_sipush (pc := 72) (v := nI 162) dX5_tell_72 (by decide) ?_
              refine a_iload_n (pc := 75) (i := 2) dX5_tell_75 rfl rfl ?_
              refine n_iadd (pc := 76) dX5_tell_76 ?_
              refine a_aload_n (pc := 77) (i := 0) dX5_tell_77 rfl rfl ?_
              refine a_getR (pc := 78) (ci := 5) (k := 1) (b := 67) dX5_tell_78 (lf_RX5_9 rfl) (by decide) rfl rfl (lt90 hn3 (shK_lt (show shK 66 = _ from rfl))) c3.2.2.2.2.2.2.2.2.1.1 ?_
              refine a_iload_n (pc := 81) (i := 2) dX5_tell_81 rfl rfl ?_
              refine a_iald (pc := 82) (j := k) dX5_tell_82 rfl (lt90 hn3 (shK_lt (show shK 67 = _ from rfl))) rfl (by omega) ?_
              refine a_top (show (.int (hI H3 67 k) : Value) = .int (tY t k) from congrArg Value.int (by rw [(hf.2.2 67 (by simp)).1, (f2.2.2 67 (by simp)).1, (f1.2.2 67 (by simp)).1, b0.2 k (by omega), u8_of (h8 k) (c28 k c65)])) ?_
              refine a_bipush (pc := 83) (v := nI 97) dX5_tell_83 (by decide) ?_
              refine a_isub (pc := 85) dX5_tell_85 ?_
              refine a_iast (pc := 86) (j := (162 + k)) dX5_tell_86 rfl (lt90 hn3 (shK_lt (show shK 68 = _ from rfl))) rfl (by omega) ?_
              refine n_iinc (pc := 87) (k := 1) (ls' := [(0, .ref 66), (1, .int (nI n)), (2, .int (nI (k + 1)))]) dX5_tell_87 rfl (by decide) (by decide) rfl ?_
              refine a_goto (pc := 90) (tgt := 63) dX5_tell_90 (by decide) ?_
              exact ih (k + 1) _ (by omega) (hf.sI (by simp)) (fun j hj => by rw [rd1 (by omega)]; exact hu j hj) (fun j hj => by
                  by_cases ej : j = k
                  · rw [rd2 ⟨rfl, by omega⟩, ej]
                  · rw [rd1 (by omega)]; exact hm j (by omega)) (by omega)
        exact LP (n + 1) 0 H2 (Nat.zero_le _) Fr.refl (fun _ _ => rfl) (fun j hj => absurd hj (by omega)) (by omega)
      · exact absurd cz (by omega)
    · have e : oTell t (nI n) = (.inr eIA, t) := cif_f (fun ⟨k, h1, h2, h3⟩ => c28 (by have := (nI_eq (by omega) (by omega)).mp h2; subst this; exact h3))
      refine a_iconst (pc := 31) (v := nI 1) dX5_tell_31 (by decide) ?_
      refine a_goto (pc := 32) (tgt := 36) dX5_tell_32 (by decide) ?_
      refine a_iconst (pc := 36) (v := nI 1) dX5_tell_36 (by decide) ?_
      refine a_vV1 (pc := 37) (as := [.int (nI 1), .int (nI 1)]) (b := 66) (ci := 5) (v := .int (nI 1)) (h' := (sI H0 66 0 (nI 1))) dX5_tell_37 (lc_RX5_156 rfl) ceX5_fails rfl (lt90 hn0 (shK_lt (show shK 66 = _ from rfl))) (s5_fails1 c0 t0 (by omega)) rfl rfl (Nat.le_of_ble_eq_true rfl) rfl ?_
      refine n_if_eq (pc := 40) (tgt := 45) dX5_tell_40 (by decide) (by omega) (fun cz => ?_) (fun cz => ?_)
      · exact absurd cz (by omega)
      · skip
        refine a_iconst (pc := 43) (v := nI 0) dX5_tell_43 (by decide) ?_
        exact a_ireturn (pc := 44) dX5_tell_44 rfl rfl (⟨_, rfl, (fun w hw => by rw [e] at hw; cases hw), by rw [e, show kn [eIA] (.inr eIA) = 1 from by decide +kernel]; exact rd2 ⟨rfl, rfl⟩, by rw [e]; exact m0.scr (S := [66]) (Fr.refl.sI (by simp)) (by simp) (rd1 (by omega)) (rd1 (by omega)) (rd1 (by omega)), f0.fm.trans (Fr.fm (Fr.refl.sI (by simp)))⟩)
theorem maxN_ge {f : Nat → Nat} {i : Nat} : ∀ {n : Nat}, i < n → f i ≤ maxN f n
  | 0, h => absurd h (Nat.not_lt_zero _)
  | n + 1, h => by
    show f i ≤ max (maxN f n) (f n)
    rcases (by omega : i < n ∨ i = n) with z | rfl
    · have := maxN_ge (f := f) z; omega
    · omega
theorem maxN_le {f : Nat → Nat} {b : Nat} : ∀ {n : Nat}, (∀ i, i < n → f i ≤ b) → maxN f n ≤ b
  | 0, _ => Nat.zero_le _
  | n + 1, h => by
    show max (maxN f n) (f n) ≤ b
    have := maxN_le (f := f) (b := b) (n := n) (fun i hi => h i (by omega))
    have := h n (by omega)
    omega
theorem strip_iff {s : SH} (g : GS s) {x p n f : Nat} (hx : x < 2) (hp : p < sCells s) (hn : 1 ≤ n) (hf : f + n ≤ sLen s) : (mq s x p % 8 + n ≤ sW s ∧ ∀ i, i < n → qlt s (mq s x p + i) = nI (sMs s (f + i)) ∧ qcu s (mq s x p + i)) ↔ n ≤ qrun s f (mq s x p) := by
  constructor
  · rintro ⟨h1, h2⟩
    exact qrun_ge (fun j hj => ⟨by rw [msA_lt (by omega)]; exact (h2 j hj).1, (h2 j hj).2⟩) h1
  · intro h
    have h1 := qrun_ok h
    exact ⟨h1.2 hn, fun i hi => ⟨by rw [← msA_lt (by omega)]; exact (h1.1 i hi).1, (h1.1 i hi).2⟩⟩
theorem run_mq {s : SH} (g : GS s) {q f : Nat} (hq : q < 96) (h : 1 ≤ qrun s f q) : ∃ x p, (x < 2 ∧ p < sCells s) ∧ q = mq s x p := by
  have h1 := (qrun_ok h).1 0 (by omega)
  have h2 := qcu_has h1.2
  rw [Nat.add_zero] at h2
  have h3 := mq_of g hq h2
  exact ⟨q / 48, qpl s q, ⟨by omega, h3.1⟩, h3.2.symm⟩
theorem run_max {s : SH} (g : GS s) {q f : Nat} : qrun s f q ≤ sW s ∧ (1 ≤ qrun s f q → f + qrun s f q ≤ sLen s) := by
  refine ⟨?_, fun h => qrun_len (Nat.le_refl _) h⟩
  rcases Nat.eq_zero_or_pos (qrun s f q) with z | z
  · omega
  · have := (qrun_ok (Nat.le_refl (qrun s f q))).2 z; omega
noncomputable def lngN (s : SH) (f : Nat) : Nat := maxN (fun q => qrun s f q) 96
set_option maxHeartbeats 1500000 in
set_option maxRecDepth 100000 in
theorem s5_longestFrom {d f : Nat} {h : AH} {s : SH} (c : CB h) (g : GS s) (r : DM h 68 s) (hf : f < sLen s) : AC mX5_longestFrom (d + 6) 0 0 [.ref 66, .int (nI f)] h (Qe (some (.int (nI (lngN s f)))) h) := by
  have hn := c.1
  have gw := g.1
  have gh := g.2.1
  have gl := g.2.2.2.2.2.1
  have gc := cells48 g
  have hnn := hn
  refine AC.of (by decide) rfl (Nat.le_of_ble_eq_true rfl) (fun X => ?_)
  show AW X mX5_longestFrom (d + 6) 0 0 0 [(0, .ref 66), (1, .int (nI f))] [] h (Qe (some (.int (nI (lngN s f)))) h)
  have LP : ∀ (fu : Nat) (n : Nat), n ≤ min (sW s) (sLen s - f) → (∀ q, q < 96 → qrun s f q ≤ n) → n < fu → AW X mX5_longestFrom (d + 6) 0 0 20 [(0, .ref 66), (1, .int (nI f)), (2, .int (nI (min (sW s) (sLen s - f)))), (3, .int (nI n))] [] h (Qe (some (.int (nI (lngN s f)))) h) := by
    intro fu
    induction fu with
    | zero => intro n hn ha hz; exact absurd hz (Nat.not_lt_zero _)
    | succ fu ih =>
      intro n hn ha hz
      refine a_iload_n (pc := 20) (i := 3) dX5_longestFrom_20 rfl rfl ?_
      refine n_if_le (pc := 21) (tgt := 78) dX5_longestFrom_21 (by decide) (by omega) (fun c21 => ?_) (fun c21 => ?_)
      · have e : lngN s f = 0 := Nat.le_zero.mp (maxN_le (fun i hi => by have := ha i hi; omega))
        refine a_iconst (pc := 78) (v := nI 0) dX5_longestFrom_78 (by decide) ?_
        exact a_ireturn (pc := 79) dX5_longestFrom_79 rfl rfl (⟨by rw [e], rfl⟩)
      · skip
        refine a_iconst (pc := 24) (v := nI 0) dX5_longestFrom_24 (by decide) ?_
        refine a_istore (pc := 25) (i := 4) (ls' := [(0, .ref 66), (1, .int (nI f)), (2, .int (nI (min (sW s) (sLen s - f)))), (3, .int (nI n)), (4, .int (nI 0))]) dX5_longestFrom_25 (by decide) rfl ?_
        have ihO := ih
        have LM : ∀ (fu : Nat) (x : Nat), x ≤ 2 → (∀ y p, y < x → p < sCells s → ¬ n ≤ qrun s f (mq s y p)) → 2 - x < fu → AW X mX5_longestFrom (d + 6) 0 0 27 [(0, .ref 66), (1, .int (nI f)), (2, .int (nI (min (sW s) (sLen s - f)))), (3, .int (nI n)), (4, .int (nI x))] [] h (Qe (some (.int (nI (lngN s f)))) h) := by
          intro fu
          induction fu with
          | zero => intro x hx hb hz; exact absurd hz (Nat.not_lt_zero _)
          | succ fu ih =>
            intro x hx hb hz
            refine a_iload (pc := 27) (i := 4) dX5_longestFrom_27 rfl ?_
            refine a_iconst (pc := 29) (v := nI 2) dX5_longestFrom_29 (by decide) ?_
            refine n_icmp_ge (pc := 30) (tgt := 72) dX5_longestFrom_30 (by decide) (by omega) (by omega) (fun c30 => ?_) (fun c30 => ?_)
            · have ex : x = 2 := by omega
              refine n_idec (pc := 72) (ls' := [(0, .ref 66), (1, .int (nI f)), (2, .int (nI (min (sW s) (sLen s - f)))), (3, .int (nI (n - 1))), (4, .int (nI x))]) dX5_longestFrom_72 rfl (by omega) (by decide) rfl ?_
              refine a_goto (pc := 75) (tgt := 20) dX5_longestFrom_75 (by decide) ?_
              refine a_drop (ls' := [(0, .ref 66), (1, .int (nI f)), (2, .int (nI (min (sW s) (sLen s - f)))), (3, .int (nI (n - 1)))]) (by simp) ?_
              exact ihO (n - 1) (by omega) (fun q hq => by
                  have h1 := ha q hq
                  rcases (by omega : qrun s f q ≤ n - 1 ∨ qrun s f q = n) with z | z
                  · exact z
                  · obtain ⟨y, p, ⟨hy, hp⟩, rfl⟩ := run_mq g hq (f := f) (by omega)
                    exact absurd (by omega) (hb y p (by omega) hp)) (by omega)
            · skip
              refine a_iconst (pc := 33) (v := nI 0) dX5_longestFrom_33 (by decide) ?_
              refine a_istore (pc := 34) (i := 5) (ls' := [(0, .ref 66), (1, .int (nI f)), (2, .int (nI (min (sW s) (sLen s - f)))), (3, .int (nI n)), (4, .int (nI x)), (5, .int (nI 0))]) dX5_longestFrom_34 (by decide) rfl ?_
              have ihM := ih
              have LI : ∀ (fu : Nat) (p : Nat), p ≤ sCells s → (∀ j, j < p → ¬ n ≤ qrun s f (mq s x j)) → sCells s - p < fu → AW X mX5_longestFrom (d + 6) 0 0 36 [(0, .ref 66), (1, .int (nI f)), (2, .int (nI (min (sW s) (sLen s - f)))), (3, .int (nI n)), (4, .int (nI x)), (5, .int (nI p))] [] h (Qe (some (.int (nI (lngN s f)))) h) := by
                intro fu
                induction fu with
                | zero => intro p hp hc2 hz; exact absurd hz (Nat.not_lt_zero _)
                | succ fu ih =>
                  intro p hp hc2 hz
                  refine a_iload (pc := 36) (i := 5) dX5_longestFrom_36 rfl ?_
                  refine a_aload_n (pc := 38) (i := 0) dX5_longestFrom_38 rfl rfl ?_
                  refine a_vV1 (pc := 39) (as := []) (b := 66) (ci := 5) (v := .int (nI (sCells s))) (h' := h) dX5_longestFrom_39 (lc_RX5_172 rfl) ceX5_cells rfl (lt90 hnn (shK_lt (show shK 66 = _ from rfl))) (s5_cells c g r) rfl rfl (Nat.le_of_ble_eq_true rfl) rfl ?_
                  refine n_icmp_ge (pc := 42) (tgt := 66) dX5_longestFrom_42 (by decide) (by omega) (by omega) (fun c42 => ?_) (fun c42 => ?_)
                  · skip
                    refine n_iinc (pc := 66) (k := 1) (ls' := [(0, .ref 66), (1, .int (nI f)), (2, .int (nI (min (sW s) (sLen s - f)))), (3, .int (nI n)), (4, .int (nI (x + 1))), (5, .int (nI p))]) dX5_longestFrom_66 rfl (by decide) (by decide) rfl ?_
                    refine a_goto (pc := 69) (tgt := 27) dX5_longestFrom_69 (by decide) ?_
                    refine a_drop (ls' := [(0, .ref 66), (1, .int (nI f)), (2, .int (nI (min (sW s) (sLen s - f)))), (3, .int (nI n)), (4, .int (nI (x + 1)))]) (by simp) ?_
                    exact ihM (x + 1) (by omega) (fun y j hy hj => by
                        rcases (by omega : y < x ∨ y = x) with z | rfl
                        · exact hb y j z hj
                        · exact hc2 j (by omega)) (by omega)
                  · skip
                    have hsi := strip_iff g (x := x) (n := n) (f := f) (by omega) c42 c21 (by omega)
                    refine a_aload_n (pc := 45) (i := 0) dX5_longestFrom_45 rfl rfl ?_
                    refine a_iload (pc := 46) (i := 4) dX5_longestFrom_46 rfl ?_
                    refine a_iload (pc := 48) (i := 5) dX5_longestFrom_48 rfl ?_
                    refine a_iload_n (pc := 50) (i := 3) dX5_longestFrom_50 rfl rfl ?_
                    refine a_iload_n (pc := 51) (i := 1) dX5_longestFrom_51 rfl rfl ?_
                    refine a_vV1 (pc := 52) (as := [.int (nI x), .int (nI p), .int (nI n), .int (nI f)]) (b := 66) (ci := 5) (v := .int (bi (mq s x p % 8 + n ≤ sW s ∧ ∀ i, i < n → qlt s (mq s x p + i) = nI (sMs s (f + i)) ∧ qcu s (mq s x p + i)))) (h' := h) dX5_longestFrom_52 (lc_RX5_210 rfl) ceX5_isStrip rfl (lt90 hnn (shK_lt (show shK 66 = _ from rfl))) (s5_isStrip (d := d) (n := n) c g r (by omega) c42 (by omega) (by omega)) rfl rfl (Nat.le_of_ble_eq_true rfl) rfl ?_
                    refine b_if_eq (pc := 55) (tgt := 60) dX5_longestFrom_55 (by decide) (fun c55 => ?_) (fun c55 => ?_)
                    · skip
                      refine n_iinc (pc := 60) (k := 1) (ls' := [(0, .ref 66), (1, .int (nI f)), (2, .int (nI (min (sW s) (sLen s - f)))), (3, .int (nI n)), (4, .int (nI x)), (5, .int (nI (p + 1)))]) dX5_longestFrom_60 rfl (by decide) (by decide) rfl ?_
                      refine a_goto (pc := 63) (tgt := 36) dX5_longestFrom_63 (by decide) ?_
                      exact ih (p + 1) (by omega) (fun j hj => by rcases (by omega : j < p ∨ j = p) with z | rfl; exact hc2 j z; exact fun z => c55 (hsi.mpr z)) (by omega)
                    · have e : lngN s f = n := Nat.le_antisymm (maxN_le ha) (Nat.le_trans (hsi.mp c55) (maxN_ge (f := fun q => qrun s f q) (mq_ok g (by omega) c42).1))
                      refine a_iload_n (pc := 58) (i := 3) dX5_longestFrom_58 rfl rfl ?_
                      exact a_ireturn (pc := 59) dX5_longestFrom_59 rfl rfl (⟨by rw [e], rfl⟩)
              exact LI (sCells s + 1) 0 (Nat.zero_le _) (fun j hj => absurd hj (by omega)) (by omega)
        exact LM 3 0 (by omega) (fun y p hy => absurd hy (by omega)) (by omega)
  refine a_aload_n (pc := 0) (i := 0) dX5_longestFrom_0 rfl rfl ?_
  refine a_getR (pc := 1) (ci := 5) (k := 8) (b := 68) dX5_longestFrom_1 (lf_RX5_17 rfl) (by decide) rfl rfl (lt90 hnn (shK_lt (show shK 66 = _ from rfl))) c.2.2.2.2.2.2.2.2.1.2.1 ?_
  refine a_iconst (pc := 4) (v := nI 0) dX5_longestFrom_4 (by decide) ?_
  refine a_iald (pc := 5) (j := 0) dX5_longestFrom_5 rfl (lt90 hnn (shK_lt (show shK 68 = _ from rfl))) rfl (by omega) ?_
  refine a_top (show (.int (hI h 68 0) : Value) = .int (nI (sW s)) from congrArg Value.int r.1.1) ?_
  refine a_aload_n (pc := 6) (i := 0) dX5_longestFrom_6 rfl rfl ?_
  refine a_getR (pc := 7) (ci := 5) (k := 8) (b := 68) dX5_longestFrom_7 (lf_RX5_17 rfl) (by decide) rfl rfl (lt90 hnn (shK_lt (show shK 66 = _ from rfl))) c.2.2.2.2.2.2.2.2.1.2.1 ?_
  refine a_iconst (pc := 10) (v := nI 3) dX5_longestFrom_10 (by decide) ?_
  refine a_iald (pc := 11) (j := 3) dX5_longestFrom_11 rfl (lt90 hnn (shK_lt (show shK 68 = _ from rfl))) rfl (by omega) ?_
  refine a_top (show (.int (hI h 68 3) : Value) = .int (nI (sLen s)) from congrArg Value.int r.1.2.2.2.1) ?_
  refine a_iload_n (pc := 12) (i := 1) dX5_longestFrom_12 rfl rfl ?_
  refine n_isub (pc := 13) dX5_longestFrom_13 (by omega) ?_
  refine a_vS1 (pc := 14) (as := [.int (nI (sW s)), .int (nI ((sLen s) - f))]) (v := .int (nI (min (sW s) (sLen s - f)))) (h' := h) dX5_longestFrom_14 (lc_RX5_119 rfl) ceX5_min (s5_min (by omega) (by omega)) rfl rfl (Nat.le_of_ble_eq_true rfl) rfl ?_
  refine a_istore_n (pc := 17) (i := 2) (ls' := [(0, .ref 66), (1, .int (nI f)), (2, .int (nI (min (sW s) (sLen s - f))))]) dX5_longestFrom_17 rfl (by decide) rfl ?_
  refine a_iload_n (pc := 18) (i := 2) dX5_longestFrom_18 rfl rfl ?_
  refine a_istore_n (pc := 19) (i := 3) (ls' := [(0, .ref 66), (1, .int (nI f)), (2, .int (nI (min (sW s) (sLen s - f)))), (3, .int (nI (min (sW s) (sLen s - f))))]) dX5_longestFrom_19 rfl (by decide) rfl ?_
  exact LP (min (sW s) (sLen s - f) + 1) _ (Nat.le_refl _) (fun q hq => by
    have h1 := run_max g (q := q) (f := f)
    rcases Nat.eq_zero_or_pos (qrun s f q) with z | z
    · omega
    · have := h1.1; have := h1.2 z; omega) (by omega)
set_option maxHeartbeats 1500000 in
set_option maxRecDepth 100000 in
theorem s5_longest {d : Nat} {h : AH} {t : ST} {x : Int32} (m : MM h t) : AC mX5_longest (d + 300) 0 0 [.ref 66, .int x] h (Qm [eNS] (rLongest (tC t) x) t h) := by
  have c := m.1
  have g := m.2.1.1
  have r := m.2.2.1
  have hn := c.1
  have gw := g.1
  have gh := g.2.1
  have gl := g.2.2.2.2.2.1
  have gc := cells48 g
  refine AC.of (by decide) rfl (Nat.le_of_ble_eq_true rfl) (fun X => ?_)
  show AW X mX5_longest (d + 300) 0 0 0 [(0, .ref 66), (1, .int x)] [] h (Qm [eNS] (rLongest (tC t) x) t h)
  refine a_aload_n (pc := 0) (i := 0) dX5_longest_0 rfl rfl ?_
  refine a_iconst (pc := 1) (v := nI 0) dX5_longest_1 (by decide) ?_
  refine a_putI (pc := 2) (ci := 5) (k := 0) dX5_longest_2 (lf_RX5_64 rfl) (by decide) (Or.inl rfl) rfl (lt90 hn (shK_lt (show shK 66 = _ from rfl))) rfl ?_
  obtain ⟨H0, hH0⟩ : ∃ Hx, Hx = sI h 66 0 (nI 0) := ⟨_, rfl⟩
  have f0 : Fr [66] h H0 := by rw [hH0]; exact Fr.refl.sI (by simp)
  have k0 : ∀ j, j ≠ 0 → hI H0 66 j = hI h 66 j := fun j hj => by rw [hH0]; exact rd1 (by omega)
  have t0 : hI H0 66 0 = nI 0 := by rw [hH0]; exact rd2 ⟨rfl, rfl⟩
  refine a_heap (h' := H0) hH0.symm ?_
  have m0 : MM H0 t := m.scr f0 (by simp) (k0 2 (by omega)) (k0 7 (by omega)) (k0 12 (by omega))
  have c0 := m0.1
  have r0 := m0.2.2.1
  have hn0 := c0.1
  refine a_aload_n (pc := 5) (i := 0) dX5_longest_5 rfl rfl ?_
  refine a_iload_n (pc := 6) (i := 1) dX5_longest_6 rfl rfl ?_
  refine a_iconst (pc := 7) (v := nI 0) dX5_longest_7 (by decide) ?_
  refine a_aload_n (pc := 8) (i := 0) dX5_longest_8 rfl rfl ?_
  refine a_getR (pc := 9) (ci := 5) (k := 8) (b := 68) dX5_longest_9 (lf_RX5_17 rfl) (by decide) rfl rfl (lt90 hn0 (shK_lt (show shK 66 = _ from rfl))) c0.2.2.2.2.2.2.2.2.1.2.1 ?_
  refine a_iconst (pc := 12) (v := nI 3) dX5_longest_12 (by decide) ?_
  refine a_iald (pc := 13) (j := 3) dX5_longest_13 rfl (lt90 hn0 (shK_lt (show shK 68 = _ from rfl))) rfl (by omega) ?_
  refine a_top (show (.int (hI H0 68 3) : Value) = .int (nI (sLen (tC t))) from congrArg Value.int r0.1.2.2.2.1) ?_
  refine a_iconst (pc := 14) (v := nI 1) dX5_longest_14 (by decide) ?_
  refine a_isub (pc := 15) dX5_longest_15 ?_
  refine a_vS1 (pc := 16) (as := [.int x, .int (nI 0), .int ((nI (sLen (tC t))) - (nI 1))]) (v := .int (bi (inB x (nI 0) (nI (sLen (tC t)) - nI 1)))) (h' := H0) dX5_longest_16 (lc_RX5_86 rfl) ceX5_in s5_in rfl rfl (Nat.le_of_ble_eq_true rfl) rfl ?_
  refine b_if_ne (pc := 19) (tgt := 26) dX5_longest_19 (by decide) (fun c19 => ?_) (fun c19 => ?_)
  · obtain ⟨k, hk, rfl⟩ := (inB_l (by omega)).mp c19
    have e : rLongest (tC t) (nI k) = .inl (some (.int (nI (lngN (tC t) k)))) := by
      refine (cif_t ⟨k, hk, rfl⟩).trans ?_
      rw [i2n_nI (by omega)]; rfl
    refine a_iconst (pc := 26) (v := nI 0) dX5_longest_26 (by decide) ?_
    refine a_iconst (pc := 27) (v := nI 1) dX5_longest_27 (by decide) ?_
    refine a_vV1 (pc := 28) (as := [.int (nI 0), .int (nI 1)]) (b := 66) (ci := 5) (v := .int (nI 0)) (h' := H0) dX5_longest_28 (lc_RX5_156 rfl) ceX5_fails rfl (lt90 hn0 (shK_lt (show shK 66 = _ from rfl))) (s5_fails0 c0 t0) rfl rfl (Nat.le_of_ble_eq_true rfl) rfl ?_
    refine n_if_eq (pc := 31) (tgt := 38) dX5_longest_31 (by decide) (by omega) (fun cz => ?_) (fun cz => ?_)
    · skip
      refine a_aload_n (pc := 38) (i := 0) dX5_longest_38 rfl rfl ?_
      refine a_iload_n (pc := 39) (i := 1) dX5_longest_39 rfl rfl ?_
      refine a_vV1 (pc := 40) (as := [.int (nI k)]) (b := 66) (ci := 5) (v := .int (nI (lngN (tC t) k))) (h' := H0) dX5_longest_40 (lc_RX5_214 rfl) ceX5_longestFrom rfl (lt90 hn0 (shK_lt (show shK 66 = _ from rfl))) (s5_longestFrom (d := d + 293) c0 g r0 hk) rfl rfl (Nat.le_of_ble_eq_true rfl) rfl ?_
      exact a_ireturn (pc := 43) dX5_longest_43 rfl rfl (⟨_, rfl, (fun w hw => by rw [e] at hw; exact Value.int.inj (Option.some.inj (Sum.inl.inj hw))), by rw [e]; exact t0, m0, f0.fm⟩)
    · exact absurd cz (by omega)
  · have e : rLongest (tC t) x = .inr eNS := cif_f (fun z => c19 ((inB_l (by omega)).mpr z))
    refine a_iconst (pc := 22) (v := nI 1) dX5_longest_22 (by decide) ?_
    refine a_goto (pc := 23) (tgt := 27) dX5_longest_23 (by decide) ?_
    refine a_iconst (pc := 27) (v := nI 1) dX5_longest_27 (by decide) ?_
    refine a_vV1 (pc := 28) (as := [.int (nI 1), .int (nI 1)]) (b := 66) (ci := 5) (v := .int (nI 1)) (h' := (sI H0 66 0 (nI 1))) dX5_longest_28 (lc_RX5_156 rfl) ceX5_fails rfl (lt90 hn0 (shK_lt (show shK 66 = _ from rfl))) (s5_fails1 c0 t0 (by omega)) rfl rfl (Nat.le_of_ble_eq_true rfl) rfl ?_
    refine n_if_eq (pc := 31) (tgt := 38) dX5_longest_31 (by decide) (by omega) (fun cz => ?_) (fun cz => ?_)
    · exact absurd cz (by omega)
    · skip
      refine a_iconst (pc := 34) (v := nI 0) dX5_longest_34 (by decide) ?_
      refine a_goto (pc := 35) (tgt := 43) dX5_longest_35 (by decide) ?_
      exact a_ireturn (pc := 43) dX5_longest_43 rfl rfl (⟨_, rfl, (fun w hw => by rw [e] at hw; cases hw), by rw [e, show kn [eNS] (.inr eNS) = 1 from by decide +kernel]; exact rd2 ⟨rfl, rfl⟩, m0.scr (S := [66]) (Fr.refl.sI (by simp)) (by simp) (rd1 (by omega)) (rd1 (by omega)) (rd1 (by omega)), f0.fm.trans (Fr.fm (Fr.refl.sI (by simp)))⟩)
