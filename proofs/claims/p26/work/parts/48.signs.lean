/-! the class SetupReader: errors, semicolons -/
/-- place, error, offset of the reader -/
abbrev PS : Type := Nat × Int32 × Int32
noncomputable def pF (q : PS) (code : Int32) (off : Nat) : PS := cif (q.2.1 = 0) (q.1, code, nI off) q
noncomputable def pSp (n : Nat) (Y : Nat → Int32) (q : PS) : PS := (skp (fun z => z = nI 32) Y (n - q.1) q.1, q.2)
noncomputable def pW (n : Nat) (Y : Nat → Int32) (q : PS) : PS := (skp isLt Y (n - q.1) q.1, q.2)
noncomputable def pSc (n : Nat) (Y : Nat → Int32) (q : PS) : PS := cif ((pSp n Y q).1 < n ∧ Y (pSp n Y q).1 = nI 59) ((pSp n Y q).1 + 1, q.2) (pF (pSp n Y q) (-2) (pSp n Y q).1)
def R7 (h : AH) (q : PS) : Prop := hI h 7 3 = nI q.1 ∧ hI h 7 4 = q.2.1 ∧ hI h 7 5 = q.2.2
/-- only place, error and offset changed -/
def K7 (h h2 : AH) : Prop := Fr [7] h h2 ∧ ∀ j, j < 3 ∨ 5 < j → hI h2 7 j = hI h 7 j
theorem K7.trans {h h2 h3 : AH} (a : K7 h h2) (b : K7 h2 h3) : K7 h h3 := ⟨a.1.trans b.1, fun j hj => (b.2 j hj).trans (a.2 j hj)⟩
theorem K7.refl {h : AH} : K7 h h := ⟨Fr.refl, fun _ _ => rfl⟩
theorem TX.k {h h2 : AH} {n : Nat} {Y : Nat → Int32} (x : TX h n Y) (a : K7 h h2) : TX h2 n Y := ⟨x.1.fr a.1, x.2.1, (a.2 2 (by omega)).trans x.2.2.1, fun j hj => by rw [(a.1.2.2 12 (by simp)).1]; exact x.2.2.2 j hj⟩
theorem At7.k {h h2 : AH} {b : Nat} (a : At7 h h2 b) : K7 h h2 := ⟨a.1, fun j hj => a.2.2 j (by omega)⟩
theorem At7.r {h h2 : AH} {b : Nat} {q : PS} (a : At7 h h2 b) (r : R7 h q) : R7 h2 (b, q.2) := ⟨a.2.1, (a.2.2 4 (by omega)).trans r.2.1, (a.2.2 5 (by omega)).trans r.2.2⟩
set_option maxHeartbeats 1500000 in
set_option maxRecDepth 100000 in
theorem sp_fail {d : Nat} {h : AH} {q : PS} {code : Int32} {off : Nat} (c : CB h) (r : R7 h q) : AC mX2_fail (d + 1) 0 0 [.ref 7, .int code, .int (nI off)] h (Qu (fun h2 => K7 h h2 ∧ R7 h2 (pF q code off))) := by
  refine AC.of (by decide) rfl (Nat.le_of_ble_eq_true rfl) (fun X => ?_)
  show AW X mX2_fail (d + 1) 0 0 0 [(0, .ref 7), (1, .int code), (2, .int (nI off))] [] h (Qu (fun h2 => K7 h h2 ∧ R7 h2 (pF q code off)))
  have hn := c.1
  refine a_aload_n (pc := 0) (i := 0) dX2_fail_0 rfl rfl ?_
  refine a_getI (pc := 1) (ci := 2) (k := 4) dX2_fail_1 (lf_RX2_47 rfl) (by decide) rfl rfl (lt90 hn (shK_lt (show shK 7 = _ from rfl))) ?_
  refine a_top (show (.int (hI h 7 4) : Value) = .int q.2.1 from congrArg Value.int r.2.1) ?_
  refine a_if_ne (pc := 4) (tgt := 17) dX2_fail_4 (by decide) (fun c4 => ?_) (fun c4 => ?_)
  · skip
    exact a_return (pc := 17) dX2_fail_17 rfl (⟨rfl, K7.refl, by rw [show pF q code off = q from cif_f c4]; exact r⟩)
  · have e : pF q code off = _ := cif_t c4
    refine a_aload_n (pc := 7) (i := 0) dX2_fail_7 rfl rfl ?_
    refine a_iload_n (pc := 8) (i := 1) dX2_fail_8 rfl rfl ?_
    refine a_putI (pc := 9) (ci := 2) (k := 4) dX2_fail_9 (lf_RX2_47 rfl) (by decide) (Or.inl rfl) rfl (lt90 hn (shK_lt (show shK 7 = _ from rfl))) rfl ?_
    refine a_aload_n (pc := 12) (i := 0) dX2_fail_12 rfl rfl ?_
    refine a_iload_n (pc := 13) (i := 2) dX2_fail_13 rfl rfl ?_
    refine a_putI (pc := 14) (ci := 2) (k := 5) dX2_fail_14 (lf_RX2_22 rfl) (by decide) (Or.inl rfl) rfl (lt90 hn (shK_lt (show shK 7 = _ from rfl))) rfl ?_
    exact a_return (pc := 17) dX2_fail_17 rfl (⟨rfl, ⟨(Fr.refl.sI (by simp)).sI (by simp), fun j hj => by rw [rd1 (by omega), rd1 (by omega)]⟩, by rw [e]; exact ⟨by rw [rd1 (by omega), rd1 (by omega)]; exact r.1, by rw [rd1 (by omega), rd2 ⟨rfl, rfl⟩], rd2 ⟨rfl, rfl⟩⟩⟩)
set_option maxHeartbeats 1500000 in
set_option maxRecDepth 100000 in
theorem sp_readSemicolon {d : Nat} {h : AH} {n : Nat} {Y : Nat → Int32} {q : PS} (x : TX h n Y) (r : R7 h q) (ha : q.1 ≤ n) : AC mX2_readSemicolon (d + 3) 0 0 [.ref 7] h (Qu (fun h2 => K7 h h2 ∧ R7 h2 (pSc n Y q))) := by
  refine AC.of (by decide) rfl (Nat.le_of_ble_eq_true rfl) (fun X => ?_)
  show AW X mX2_readSemicolon (d + 3) 0 0 0 [(0, .ref 7)] [] h (Qu (fun h2 => K7 h h2 ∧ R7 h2 (pSc n Y q)))
  have hn := x.1.1
  have hn4 := x.2.1
  refine a_aload_n (pc := 0) (i := 0) dX2_readSemicolon_0 rfl rfl ?_
  refine a_uV (pc := 1) (as := []) (b := 7) (ci := 2) dX2_readSemicolon_1 (lc_RX2_73 rfl) ceX2_skipSpaces rfl (lt90 hn (shK_lt (show shK 7 = _ from rfl))) (sp_skipSpaces (d := d) x r.1 ha) rfl rfl (Nat.le_of_ble_eq_true rfl) (fun h2 y => y.1.1) (fun H y => ?_)
  have x1 := x.at y
  have hn1 := x1.1.1
  have r1 : R7 H (pSp n Y q) := y.r r
  have hle : (pSp n Y q).1 ≤ n := by have := (skp_le (P := fun z => z = nI 32) (Y := Y) (n - q.1) q.1).2; show skp _ _ _ _ ≤ n; omega
  obtain ⟨b, hb⟩ : ∃ b, b = (pSp n Y q).1 := ⟨_, rfl⟩
  have e0 : pSc n Y q = cif (b < n ∧ Y b = nI 59) (b + 1, q.2) (pF (pSp n Y q) (-2) b) := by rw [hb]; rfl
  rw [← hb] at hle
  have r10 : hI H 7 3 = nI b := by rw [hb]; exact r1.1
  refine a_aload_n (pc := 4) (i := 0) dX2_readSemicolon_4 rfl rfl ?_
  refine a_getI (pc := 5) (ci := 2) (k := 3) dX2_readSemicolon_5 (lf_RX2_44 rfl) (by decide) rfl rfl (lt90 hn1 (shK_lt (show shK 7 = _ from rfl))) ?_
  refine a_top (show (.int (hI H 7 3) : Value) = .int (nI b) from congrArg Value.int r10) ?_
  refine a_aload_n (pc := 8) (i := 0) dX2_readSemicolon_8 rfl rfl ?_
  refine a_getI (pc := 9) (ci := 2) (k := 2) dX2_readSemicolon_9 (lf_RX2_35 rfl) (by decide) rfl rfl (lt90 hn1 (shK_lt (show shK 7 = _ from rfl))) ?_
  refine a_top (show (.int (hI H 7 2) : Value) = .int (nI n) from congrArg Value.int x1.2.2.1) ?_
  refine n_icmp_ge (pc := 12) (tgt := 42) dX2_readSemicolon_12 (by decide) (by omega) (by omega) (fun c12 => ?_) (fun c12 => ?_)
  · skip
    have e : pSc n Y q = pF (pSp n Y q) (-2) b := e0.trans (cif_f (fun z => absurd z.1 (by omega)))
    refine a_aload_n (pc := 42) (i := 0) dX2_readSemicolon_42 rfl rfl ?_
    refine a_bipush (pc := 43) (v := (-2)) dX2_readSemicolon_43 (by decide) ?_
    refine a_aload_n (pc := 45) (i := 0) dX2_readSemicolon_45 rfl rfl ?_
    refine a_getI (pc := 46) (ci := 2) (k := 3) dX2_readSemicolon_46 (lf_RX2_44 rfl) (by decide) rfl rfl (lt90 hn1 (shK_lt (show shK 7 = _ from rfl))) ?_
    refine a_top (show (.int (hI H 7 3) : Value) = .int (nI b) from congrArg Value.int r10) ?_
    refine a_uV (pc := 49) (as := [.int ((-2)), .int (nI b)]) (b := 7) (ci := 2) dX2_readSemicolon_49 (lc_RX2_85 rfl) ceX2_fail rfl (lt90 hn1 (shK_lt (show shK 7 = _ from rfl))) (sp_fail (d := d + 1) x1.1 r1) rfl rfl (Nat.le_of_ble_eq_true rfl) (fun h2 z => z.1.1.1) (fun H2 z => ?_)
    exact a_return (pc := 52) dX2_readSemicolon_52 rfl (⟨rfl, y.k.trans z.1, by rw [e]; exact z.2⟩)
  · skip
    refine a_aload_n (pc := 15) (i := 0) dX2_readSemicolon_15 rfl rfl ?_
    refine a_getR (pc := 16) (ci := 2) (k := 1) (b := 12) dX2_readSemicolon_16 (lf_RX2_18 rfl) (by decide) rfl rfl (lt90 hn1 (shK_lt (show shK 7 = _ from rfl))) x1.1.2.2.2.1.2 ?_
    refine a_aload_n (pc := 19) (i := 0) dX2_readSemicolon_19 rfl rfl ?_
    refine a_getI (pc := 20) (ci := 2) (k := 3) dX2_readSemicolon_20 (lf_RX2_44 rfl) (by decide) rfl rfl (lt90 hn1 (shK_lt (show shK 7 = _ from rfl))) ?_
    refine a_top (show (.int (hI H 7 3) : Value) = .int (nI b) from congrArg Value.int r10) ?_
    refine a_bald (pc := 23) (j := b) dX2_readSemicolon_23 rfl (lt90 hn1 (shK_lt (show shK 12 = _ from rfl))) rfl (by omega) ?_
    refine a_top (show (.int (hI H 12 b) : Value) = .int (Y b) from congrArg Value.int (x1.2.2.2 b c12)) ?_
    refine a_bipush (pc := 24) (v := nI 59) dX2_readSemicolon_24 (by decide) ?_
    refine a_icmp_ne (pc := 26) (tgt := 42) dX2_readSemicolon_26 (by decide) (fun c26 => ?_) (fun c26 => ?_)
    · skip
      have e : pSc n Y q = pF (pSp n Y q) (-2) b := e0.trans (cif_f (fun z => c26 z.2))
      refine a_aload_n (pc := 42) (i := 0) dX2_readSemicolon_42 rfl rfl ?_
      refine a_bipush (pc := 43) (v := (-2)) dX2_readSemicolon_43 (by decide) ?_
      refine a_aload_n (pc := 45) (i := 0) dX2_readSemicolon_45 rfl rfl ?_
      refine a_getI (pc := 46) (ci := 2) (k := 3) dX2_readSemicolon_46 (lf_RX2_44 rfl) (by decide) rfl rfl (lt90 hn1 (shK_lt (show shK 7 = _ from rfl))) ?_
      refine a_top (show (.int (hI H 7 3) : Value) = .int (nI b) from congrArg Value.int r10) ?_
      refine a_uV (pc := 49) (as := [.int ((-2)), .int (nI b)]) (b := 7) (ci := 2) dX2_readSemicolon_49 (lc_RX2_85 rfl) ceX2_fail rfl (lt90 hn1 (shK_lt (show shK 7 = _ from rfl))) (sp_fail (d := d + 1) x1.1 r1) rfl rfl (Nat.le_of_ble_eq_true rfl) (fun h2 z => z.1.1.1) (fun H2 z => ?_)
      exact a_return (pc := 52) dX2_readSemicolon_52 rfl (⟨rfl, y.k.trans z.1, by rw [e]; exact z.2⟩)
    · have e : pSc n Y q = (b + 1, q.2) := e0.trans (cif_t ⟨c12, c26⟩)
      refine a_aload_n (pc := 29) (i := 0) dX2_readSemicolon_29 rfl rfl ?_
      refine a_dup (pc := 30) dX2_readSemicolon_30 rfl ?_
      refine a_getI (pc := 31) (ci := 2) (k := 3) dX2_readSemicolon_31 (lf_RX2_44 rfl) (by decide) rfl rfl (lt90 hn1 (shK_lt (show shK 7 = _ from rfl))) ?_
      refine a_top (show (.int (hI H 7 3) : Value) = .int (nI b) from congrArg Value.int r10) ?_
      refine a_iconst (pc := 34) (v := nI 1) dX2_readSemicolon_34 (by decide) ?_
      refine n_iadd (pc := 35) dX2_readSemicolon_35 ?_
      refine a_putI (pc := 36) (ci := 2) (k := 3) dX2_readSemicolon_36 (lf_RX2_44 rfl) (by decide) (Or.inl rfl) rfl (lt90 hn1 (shK_lt (show shK 7 = _ from rfl))) rfl ?_
      refine a_goto (pc := 39) (tgt := 52) dX2_readSemicolon_39 (by decide) ?_
      exact a_return (pc := 52) dX2_readSemicolon_52 rfl (⟨rfl, y.k.trans ⟨Fr.refl.sI (by simp), fun j hj => rd1 (by omega)⟩, by rw [e]; exact ⟨rd2 ⟨rfl, rfl⟩, (rd1 (by omega)).trans r1.2.1, (rd1 (by omega)).trans r1.2.2⟩⟩)
