/-! the class SetupReader: hasMore, numbers -/
/-- a number from place a on, beginning with v; held at 1000 -/
noncomputable def numF (Y : Nat → Int32) : Nat → Nat → Nat → Nat × Nat
  | 0, a, v => (a, v)
  | m + 1, a, v => cif (¬ Y a < nI 48 ∧ ¬ nI 57 < Y a) (numF Y m (a + 1) (min 1000 (v * 10 + i2n (Y a) - 48))) (a, v)
theorem numF_le {Y : Nat → Int32} : ∀ m a v, v ≤ 1000 → a ≤ (numF Y m a v).1 ∧ (numF Y m a v).1 ≤ a + m ∧ (numF Y m a v).2 ≤ 1000
  | 0, a, v, h => ⟨Nat.le_refl _, Nat.le_refl _, h⟩
  | m + 1, a, v, h => by
    have := numF_le (Y := Y) m (a + 1) (min 1000 (v * 10 + i2n (Y a) - 48)) (by omega)
    unfold numF
    rcases Classical.em (¬ Y a < nI 48 ∧ ¬ nI 57 < Y a) with q | q
    · rw [cif_t q]; omega
    · rw [cif_f q]; show a ≤ a ∧ a ≤ a + (m + 1) ∧ v ≤ 1000; omega
set_option maxHeartbeats 1500000 in
set_option maxRecDepth 100000 in
theorem sp_hasMore {d : Nat} {h : AH} {n : Nat} {Y : Nat → Int32} {q : PS} (x : TX h n Y) (r : R7 h q) (ha : q.1 ≤ n) : AC mX2_hasMore (d + 3) 0 0 [.ref 7] h (Qf [7] (some (.int (bi ((pSp n Y q).1 < n)))) h (fun h2 => K7 h h2 ∧ R7 h2 (pSp n Y q))) := by
  refine AC.of (by decide) rfl (Nat.le_of_ble_eq_true rfl) (fun X => ?_)
  show AW X mX2_hasMore (d + 3) 0 0 0 [(0, .ref 7)] [] h (Qf [7] (some (.int (bi ((pSp n Y q).1 < n)))) h (fun h2 => K7 h h2 ∧ R7 h2 (pSp n Y q)))
  have hn := x.1.1
  have hn4 := x.2.1
  refine a_aload_n (pc := 0) (i := 0) dX2_hasMore_0 rfl rfl ?_
  refine a_uV (pc := 1) (as := []) (b := 7) (ci := 2) dX2_hasMore_1 (lc_RX2_73 rfl) ceX2_skipSpaces rfl (lt90 hn (shK_lt (show shK 7 = _ from rfl))) (sp_skipSpaces (d := d) x r.1 ha) rfl rfl (Nat.le_of_ble_eq_true rfl) (fun h2 y => y.1.1) (fun H y => ?_)
  have x1 := x.at y
  have hn1 := x1.1.1
  have r1 : R7 H (pSp n Y q) := y.r r
  have hle : (pSp n Y q).1 ≤ n := by have := (skp_le (P := fun z => z = nI 32) (Y := Y) (n - q.1) q.1).2; show skp _ _ _ _ ≤ n; omega
  refine a_aload_n (pc := 4) (i := 0) dX2_hasMore_4 rfl rfl ?_
  refine a_getI (pc := 5) (ci := 2) (k := 3) dX2_hasMore_5 (lf_RX2_44 rfl) (by decide) rfl rfl (lt90 hn1 (shK_lt (show shK 7 = _ from rfl))) ?_
  refine a_top (show (.int (hI H 7 3) : Value) = .int (nI ((pSp n Y q).1)) from congrArg Value.int r1.1) ?_
  refine a_aload_n (pc := 8) (i := 0) dX2_hasMore_8 rfl rfl ?_
  refine a_getI (pc := 9) (ci := 2) (k := 2) dX2_hasMore_9 (lf_RX2_35 rfl) (by decide) rfl rfl (lt90 hn1 (shK_lt (show shK 7 = _ from rfl))) ?_
  refine a_top (show (.int (hI H 7 2) : Value) = .int (nI n) from congrArg Value.int x1.2.2.1) ?_
  refine n_icmp_ge (pc := 12) (tgt := 19) dX2_hasMore_12 (by decide) (by omega) (by omega) (fun c12 => ?_) (fun c12 => ?_)
  · skip
    refine a_iconst (pc := 19) (v := nI 0) dX2_hasMore_19 (by decide) ?_
    exact a_ireturn (pc := 20) dX2_hasMore_20 rfl rfl (⟨by rw [bi_f (by omega)]; rfl, y.1, y.k, r1⟩)
  · skip
    refine a_iconst (pc := 15) (v := nI 1) dX2_hasMore_15 (by decide) ?_
    refine a_goto (pc := 16) (tgt := 20) dX2_hasMore_16 (by decide) ?_
    exact a_ireturn (pc := 20) dX2_hasMore_20 rfl rfl (⟨by rw [bi_t c12]; rfl, y.1, y.k, r1⟩)
