/-! the class LetterCutsModel: how it holds a sheet; its leaves -/
/-- the row at k holds s -/
def DM (h : AH) (k : Nat) (s : SH) : Prop :=
  (hI h k 0 = nI (sW s) ∧ hI h k 1 = nI (sH s) ∧ hI h k 2 = nI (sS s) ∧ hI h k 3 = nI (sLen s) ∧ hI h k 4 = nI (sCu s) ∧ hI h k 5 = nI (sTk s)) ∧
  (∀ x p, x < 2 → p < sCells s → hI h k (6 + 48 * x + p) = sLt s x p) ∧ (∀ x r, x < 2 → r < sH s → hI h k (102 + 6 * x + r) = nI (sSz s x r)) ∧ (∀ c, c < sCells s → hI h k (114 + c) = bi (sGn s c)) ∧ ∀ j, j < sLen s → hI h k (162 + j) = nI (sMs s j)
theorem DM.row {h h2 : AH} {k : Nat} {s : SH} (r : DM h k s) (e : hI h2 k = hI h k) : DM h2 k s := by
  unfold DM at r ⊢
  rw [e]
  exact r
theorem DM.fr {S : List Nat} {h h2 : AH} {k : Nat} {s : SH} (r : DM h k s) (f : Fr S h h2) (hs : k ∉ S) : DM h2 k s := r.row (f.2.2 k hs).1
/-- spot, cell and back of a place -/
def mq (s : SH) (x p : Nat) : Nat := 48 * x + 8 * (p / sW s) + p % sW s
def mb (s : SH) (p : Nat) : Nat := 8 * (p / sW s) + p % sW s
def mbh (s : SH) (p : Nat) : Nat := p / sW s * sW s + sW s - 1 - p % sW s
def mcl (s : SH) (x p : Nat) : Nat := if x = 0 then p else mbh s p
theorem cells48 {s : SH} (g : GS s) : 1 ≤ sCells s ∧ sCells s ≤ 48 := ⟨Nat.mul_pos g.1.1 g.2.1.1, Nat.mul_le_mul g.1.2 g.2.1.2⟩
theorem mq_ok {s : SH} (g : GS s) {x p : Nat} (hx : x < 2) (hp : p < sCells s) : mq s x p < 96 ∧ qhas s (mq s x p) ∧ mq s x p / 48 = x ∧ mq s x p % 48 / 8 = p / sW s ∧ mq s x p % 8 = p % sW s ∧ qpl s (mq s x p) = p := by
  obtain ⟨-, -, h3, h4, h5⟩ := cell_q g hp
  have g1 := g.1
  have g2 := g.2.1
  have e1 : mq s x p / 48 = x := by unfold mq; omega
  have e2 : mq s x p % 48 / 8 = p / sW s := by unfold mq; omega
  have e3 : mq s x p % 8 = p % sW s := by unfold mq; omega
  refine ⟨by unfold mq; omega, ⟨by rw [e2]; exact h3, by rw [e3]; exact h4⟩, e1, e2, e3, ?_⟩
  unfold qpl
  rw [e2, e3, h5]
theorem mq_lt {s : SH} (g : GS s) {x p : Nat} (hx : x < 2) (hp : p < sCells s) : qlt s (mq s x p) = sLt s x p := by
  obtain ⟨-, h2, h3, -, -, h6⟩ := mq_ok g hx hp
  unfold qlt
  rw [cif_t h2, h3, h6]
theorem mq_sz {s : SH} (g : GS s) {x p : Nat} (hx : x < 2) (hp : p < sCells s) : qsz s (mq s x p) = sSz s x (p / sW s) := by
  obtain ⟨-, h2, h3, h4, -, -⟩ := mq_ok g hx hp
  unfold qsz
  rw [cif_t h2, h3, h4]
theorem mbh_ok {s : SH} (g : GS s) {p : Nat} (hp : p < sCells s) : mbh s p < sCells s ∧ mbh s p / sW s = p / sW s ∧ mbh s p % sW s = sW s - 1 - p % sW s := by
  obtain ⟨-, -, h3, h4, h5⟩ := cell_q g hp
  have g1 := g.1
  have e : mbh s p = p / sW s * sW s + (sW s - 1 - p % sW s) := by unfold mbh; omega
  have hlt : sW s - 1 - p % sW s < sW s := by omega
  refine ⟨?_, ?_, ?_⟩
  · rw [e]
    have h6 : (p / sW s + 1) * sW s ≤ sH s * sW s := Nat.mul_le_mul_right _ h3
    rw [Nat.succ_mul] at h6
    have h7 : sCells s = sH s * sW s := Nat.mul_comm _ _
    omega
  · rw [e, Nat.mul_comm, Nat.mul_add_div (by omega), Nat.div_eq_of_lt hlt]; omega
  · rw [e, Nat.mul_comm, Nat.mul_add_mod, Nat.mod_eq_of_lt hlt]
theorem mcl_lt {s : SH} (g : GS s) {x p : Nat} (hp : p < sCells s) : mcl s x p < sCells s := by
  unfold mcl
  split
  · exact hp
  · exact (mbh_ok g hp).1
theorem mq_cell {s : SH} (g : GS s) {x p : Nat} (hx : x < 2) (hp : p < sCells s) : qcell s (mq s x p) = mb s (mcl s x p) := by
  obtain ⟨-, -, e1, e2, e3, -⟩ := mq_ok g hx hp
  obtain ⟨-, b1, b2⟩ := mbh_ok g hp
  unfold qcell mcl mb
  by_cases e : x = 0
  · subst e
    rw [if_pos (by omega), if_pos rfl]
    unfold mq
    omega
  · rw [if_neg (by omega), if_neg e, e2, e3, b1, b2]
theorem mq_bh {s : SH} (g : GS s) {x p : Nat} (hx : x < 2) (hp : p < sCells s) : qbh s (mq s x p) = mq s (1 - x) (mbh s p) := by
  obtain ⟨-, -, e1, e2, e3, -⟩ := mq_ok g hx hp
  obtain ⟨-, b1, b2⟩ := mbh_ok g hp
  unfold qbh
  rw [e2, e3]
  unfold mq
  rw [b1, b2]
  have : mq s x p / 48 = x := e1
  by_cases e : x = 0
  · subst e
    rw [if_pos (by unfold mq at e1; omega)]
  · have e : x = 1 := by omega
    subst e
    rw [if_neg (by unfold mq at e1; omega)]
theorem mq_of {s : SH} (g : GS s) {q : Nat} (hq : q < 96) (hh : qhas s q) : qpl s q < sCells s ∧ mq s (q / 48) (qpl s q) = q := by
  have g1 := g.1
  have e1 : qpl s q / sW s = q % 48 / 8 := by unfold qpl; rw [Nat.mul_comm, Nat.mul_add_div (by omega), Nat.div_eq_of_lt hh.2]; omega
  have e2 : qpl s q % sW s = q % 8 := by unfold qpl; rw [Nat.mul_comm, Nat.mul_add_mod, Nat.mod_eq_of_lt hh.2]
  refine ⟨?_, ?_⟩
  · have h6 : (q % 48 / 8 + 1) * sW s ≤ sH s * sW s := Nat.mul_le_mul_right _ hh.1
    rw [Nat.succ_mul] at h6
    have h7 : sCells s = sH s * sW s := Nat.mul_comm _ _
    have h8 := hh.2
    unfold qpl
    omega
  · unfold mq
    rw [e1, e2]
    omega
theorem mb_gn {s : SH} (g : GS s) {c : Nat} (hc : c < sCells s) : gnB s (mb s c) ↔ sGn s c := gnB_q g hc
theorem mb_inj {s : SH} (g : GS s) {a b : Nat} (ha : a < sCells s) (hb : b < sCells s) (e : mb s a = mb s b) : a = b := by
  obtain ⟨a1, a2, -, -, a5⟩ := cell_q g ha
  obtain ⟨b1, b2, -, -, b5⟩ := cell_q g hb
  unfold mb at e
  rw [e] at a1 a2
  rw [← a5, ← b5, ← a1, ← a2, b1, b2]
theorem qcu_has {s : SH} {q : Nat} (h : qcu s q) : qhas s q := qhas_of_lt h.1
theorem cw_has {s : SH} (g : GS s) {x : Int32} {c : Nat} (hc : c < sCells s) : cwP s x (mb s c) ↔ (qlt s (mq s 0 c) = x ∧ qcu s (mq s 0 c)) ∨ (qlt s (mq s 1 (mbh s c)) = x ∧ qcu s (mq s 1 (mbh s c))) := by
  obtain ⟨b0, b1, b2⟩ := mbh_ok g hc
  have k0 := mq_ok g (x := 0) (by omega) hc
  have k1 := mq_ok g (x := 1) (by omega) b0
  have g1 := g.1
  have h4 := (cell_q g hc).2.2.2.1
  constructor
  · rintro ⟨q, hq, hu, e⟩
    have hh := qcu_has hu.2
    have hb := hh.2
    unfold qcell at e
    by_cases h48 : q < 48
    · rw [if_pos h48] at e
      have : q = mq s 0 c := by rw [← e]; unfold mq mb; omega
      rw [← this]; exact Or.inl hu
    · rw [if_neg h48] at e
      have : q = mq s 1 (mbh s c) := by unfold mb at e; unfold mq; rw [b1, b2]; omega
      rw [← this]; exact Or.inr hu
  · rintro (hu | hu)
    · exact ⟨_, k0.1, hu, by rw [mq_cell g (by omega) hc]; unfold mcl; rw [if_pos rfl]⟩
    · refine ⟨_, k1.1, hu, ?_⟩
      rw [mq_cell g (by omega) b0]
      unfold mcl
      rw [if_neg (by omega)]
      have e : mbh s (mbh s c) = c := by
        have := (cell_q g hc).2.2.2.2
        show mbh s c / sW s * sW s + sW s - 1 - mbh s c % sW s = c
        rw [b1, b2]
        omega
      rw [e]
theorem bi_eq1 {P : Prop} : bi P = nI 1 ↔ P := by
  rcases Classical.em P with h | h
  · rw [bi_t h]; exact ⟨fun _ => h, fun _ => rfl⟩
  · rw [bi_f h]; exact ⟨fun z => absurd z (by decide), fun z => absurd z h⟩
theorem bi_eq0 {P : Prop} : bi P = nI 0 ↔ ¬ P := by
  rcases Classical.em P with h | h
  · rw [bi_t h]; exact ⟨fun z => absurd z (by decide), fun z => absurd h z⟩
  · rw [bi_f h]; exact ⟨fun _ => h, fun _ => rfl⟩
/-- between two numbers -/
def inB (x lo hi : Int32) : Prop := ¬ x < lo ∧ ¬ hi < x
theorem inB_n {x : Int32} {lo hi : Nat} (hh : hi < 2 ^ 31) (hl : lo < 1000) : inB x (nI lo) (nI hi) ↔ ∃ n, (lo ≤ n ∧ n ≤ hi) ∧ x = nI n := by
  constructor
  · rintro ⟨h1, h2⟩
    obtain ⟨n, a, b, rfl⟩ := ge_n hl h1
    exact ⟨n, ⟨b, Nat.le_of_not_lt fun z => h2 ((nI_ltI hh a).mpr z)⟩, rfl⟩
  · rintro ⟨n, ⟨h1, h2⟩, rfl⟩
    exact ⟨fun z => by have := (nI_ltI (by omega) (by omega)).mp z; omega, fun z => by have := (nI_ltI hh (by omega)).mp z; omega⟩
set_option maxHeartbeats 1500000 in
set_option maxRecDepth 100000 in
theorem s5_in {d : Nat} {h : AH} {x lo hi : Int32} : AC mX5_in d 0 0 [.int x, .int lo, .int hi] h (Qe (some (.int (bi (inB x lo hi)))) h) := by
  refine AC.of (by decide) rfl (Nat.le_of_ble_eq_true rfl) (fun X => ?_)
  show AW X mX5_in d 0 0 0 [(0, .int x), (1, .int lo), (2, .int hi)] [] h (Qe (some (.int (bi (inB x lo hi)))) h)
  refine a_iload_n (pc := 0) (i := 0) dX5_in_0 rfl rfl ?_
  refine a_iload_n (pc := 1) (i := 1) dX5_in_1 rfl rfl ?_
  refine a_icmp_lt (pc := 2) (tgt := 14) dX5_in_2 (by decide) (fun c2 => ?_) (fun c2 => ?_)
  · have e : ¬ inB x lo hi := fun z => z.1 c2
    refine a_iconst (pc := 14) (v := nI 0) dX5_in_14 (by decide) ?_
    exact a_ireturn (pc := 15) dX5_in_15 rfl rfl (⟨by rw [bi_f e]; rfl, rfl⟩)
  · skip
    refine a_iload_n (pc := 5) (i := 0) dX5_in_5 rfl rfl ?_
    refine a_iload_n (pc := 6) (i := 2) dX5_in_6 rfl rfl ?_
    refine a_icmp_gt (pc := 7) (tgt := 14) dX5_in_7 (by decide) (fun c7 => ?_) (fun c7 => ?_)
    · have e : ¬ inB x lo hi := fun z => z.2 c7
      refine a_iconst (pc := 14) (v := nI 0) dX5_in_14 (by decide) ?_
      exact a_ireturn (pc := 15) dX5_in_15 rfl rfl (⟨by rw [bi_f e]; rfl, rfl⟩)
    · have e : inB x lo hi := ⟨c2, c7⟩
      refine a_iconst (pc := 10) (v := nI 1) dX5_in_10 (by decide) ?_
      refine a_goto (pc := 11) (tgt := 15) dX5_in_11 (by decide) ?_
      exact a_ireturn (pc := 15) dX5_in_15 rfl rfl (⟨by rw [bi_t e]; rfl, rfl⟩)
set_option maxHeartbeats 1500000 in
set_option maxRecDepth 100000 in
theorem s5_min {d a b : Nat} {h : AH} (ha : a < 2 ^ 31) (hb : b < 2 ^ 31) : AC mX5_min d 0 0 [.int (nI a), .int (nI b)] h (Qe (some (.int (nI (min a b)))) h) := by
  refine AC.of (by decide) rfl (Nat.le_of_ble_eq_true rfl) (fun X => ?_)
  show AW X mX5_min d 0 0 0 [(0, .int (nI a)), (1, .int (nI b))] [] h (Qe (some (.int (nI (min a b)))) h)
  refine a_iload_n (pc := 0) (i := 0) dX5_min_0 rfl rfl ?_
  refine a_iload_n (pc := 1) (i := 1) dX5_min_1 rfl rfl ?_
  refine n_icmp_ge (pc := 2) (tgt := 9) dX5_min_2 (by decide) (by omega) (by omega) (fun c2 => ?_) (fun c2 => ?_)
  · skip
    refine a_iload_n (pc := 9) (i := 1) dX5_min_9 rfl rfl ?_
    exact a_ireturn (pc := 10) dX5_min_10 rfl rfl (⟨by rw [show min a b = b by omega], rfl⟩)
  · skip
    refine a_iload_n (pc := 5) (i := 0) dX5_min_5 rfl rfl ?_
    refine a_goto (pc := 6) (tgt := 10) dX5_min_6 (by decide) ?_
    exact a_ireturn (pc := 10) dX5_min_10 rfl rfl (⟨by rw [show min a b = a by omega], rfl⟩)
set_option maxHeartbeats 1500000 in
set_option maxRecDepth 100000 in
theorem s5_fails1 {d e : Nat} {h : AH} (c : CB h) (h0 : hI h 66 0 = nI 0) (he : 1 ≤ e ∧ e < 9) : AC mX5_fails d 0 0 [.ref 66, .int (nI 1), .int (nI e)] h (Qe (some (.int (nI 1))) (sI h 66 0 (nI e))) := by
  refine AC.of (by decide) rfl (Nat.le_of_ble_eq_true rfl) (fun X => ?_)
  show AW X mX5_fails d 0 0 0 [(0, .ref 66), (1, .int (nI 1)), (2, .int (nI e))] [] h (Qe (some (.int (nI 1))) (sI h 66 0 (nI e)))
  have hn := c.1
  refine a_iload_n (pc := 0) (i := 1) dX5_fails_0 rfl rfl ?_
  refine n_if_eq (pc := 1) (tgt := 16) dX5_fails_1 (by decide) (by omega) (fun c1 => ?_) (fun c1 => ?_)
  · exact absurd c1 (by omega)
  · skip
    refine a_aload_n (pc := 4) (i := 0) dX5_fails_4 rfl rfl ?_
    refine a_getI (pc := 5) (ci := 5) (k := 0) dX5_fails_5 (lf_RX5_64 rfl) (by decide) rfl rfl (lt90 hn (shK_lt (show shK 66 = _ from rfl))) ?_
    refine a_top (show (.int (hI h 66 0) : Value) = .int (nI 0) from congrArg Value.int h0) ?_
    refine n_if_ne (pc := 8) (tgt := 16) dX5_fails_8 (by decide) (by omega) (fun c8 => ?_) (fun c8 => ?_)
    · exact absurd c8 (by omega)
    · skip
      refine a_aload_n (pc := 11) (i := 0) dX5_fails_11 rfl rfl ?_
      refine a_iload_n (pc := 12) (i := 2) dX5_fails_12 rfl rfl ?_
      refine a_putI (pc := 13) (ci := 5) (k := 0) dX5_fails_13 (lf_RX5_64 rfl) (by decide) (Or.inl rfl) rfl (lt90 hn (shK_lt (show shK 66 = _ from rfl))) rfl ?_
      refine a_aload_n (pc := 16) (i := 0) dX5_fails_16 rfl rfl ?_
      refine a_getI (pc := 17) (ci := 5) (k := 0) dX5_fails_17 (lf_RX5_64 rfl) (by decide) rfl rfl (lt90 hn (shK_lt (show shK 66 = _ from rfl))) ?_
      refine a_top (show (.int (hI (sI h 66 0 (nI e)) 66 0) : Value) = .int (nI e) from congrArg Value.int (rd2 ⟨rfl, rfl⟩)) ?_
      refine n_if_eq (pc := 20) (tgt := 27) dX5_fails_20 (by decide) (by omega) (fun c20 => ?_) (fun c20 => ?_)
      · exact absurd c20 (by omega)
      · skip
        refine a_iconst (pc := 23) (v := nI 1) dX5_fails_23 (by decide) ?_
        refine a_goto (pc := 24) (tgt := 28) dX5_fails_24 (by decide) ?_
        exact a_ireturn (pc := 28) dX5_fails_28 rfl rfl (⟨rfl, rfl⟩)
set_option maxHeartbeats 1500000 in
set_option maxRecDepth 100000 in
theorem s5_fails0 {d e : Nat} {h : AH} (c : CB h) (h0 : hI h 66 0 = nI 0) : AC mX5_fails d 0 0 [.ref 66, .int (nI 0), .int (nI e)] h (Qe (some (.int (nI 0))) h) := by
  refine AC.of (by decide) rfl (Nat.le_of_ble_eq_true rfl) (fun X => ?_)
  show AW X mX5_fails d 0 0 0 [(0, .ref 66), (1, .int (nI 0)), (2, .int (nI e))] [] h (Qe (some (.int (nI 0))) h)
  have hn := c.1
  refine a_iload_n (pc := 0) (i := 1) dX5_fails_0 rfl rfl ?_
  refine n_if_eq (pc := 1) (tgt := 16) dX5_fails_1 (by decide) (by omega) (fun c1 => ?_) (fun c1 => ?_)
  · skip
    refine a_aload_n (pc := 16) (i := 0) dX5_fails_16 rfl rfl ?_
    refine a_getI (pc := 17) (ci := 5) (k := 0) dX5_fails_17 (lf_RX5_64 rfl) (by decide) rfl rfl (lt90 hn (shK_lt (show shK 66 = _ from rfl))) ?_
    refine a_top (show (.int (hI h 66 0) : Value) = .int (nI 0) from congrArg Value.int h0) ?_
    refine n_if_eq (pc := 20) (tgt := 27) dX5_fails_20 (by decide) (by omega) (fun c20 => ?_) (fun c20 => ?_)
    · skip
      refine a_iconst (pc := 27) (v := nI 0) dX5_fails_27 (by decide) ?_
      exact a_ireturn (pc := 28) dX5_fails_28 rfl rfl (⟨rfl, rfl⟩)
    · exact absurd c20 (by omega)
  · exact absurd c1 (by omega)
set_option maxHeartbeats 1500000 in
set_option maxRecDepth 100000 in
theorem s5_cells {d : Nat} {h : AH} {s : SH} (c : CB h) (g : GS s) (r : DM h 68 s) : AC mX5_cells d 0 0 [.ref 66] h (Qe (some (.int (nI (sCells s)))) h) := by
  have hn := c.1
  have gw := g.1
  have gh := g.2.1
  have gl := g.2.2.2.2.2.1
  have gc := cells48 g
  refine AC.of (by decide) rfl (Nat.le_of_ble_eq_true rfl) (fun X => ?_)
  show AW X mX5_cells d 0 0 0 [(0, .ref 66)] [] h (Qe (some (.int (nI (sCells s)))) h)
  refine a_aload_n (pc := 0) (i := 0) dX5_cells_0 rfl rfl ?_
  refine a_getR (pc := 1) (ci := 5) (k := 8) (b := 68) dX5_cells_1 (lf_RX5_17 rfl) (by decide) rfl rfl (lt90 hn (shK_lt (show shK 66 = _ from rfl))) c.2.2.2.2.2.2.2.2.1.2.1 ?_
  refine a_iconst (pc := 4) (v := nI 0) dX5_cells_4 (by decide) ?_
  refine a_iald (pc := 5) (j := 0) dX5_cells_5 rfl (lt90 hn (shK_lt (show shK 68 = _ from rfl))) rfl (by omega) ?_
  refine a_top (show (.int (hI h 68 0) : Value) = .int (nI (sW s)) from congrArg Value.int r.1.1) ?_
  refine a_aload_n (pc := 6) (i := 0) dX5_cells_6 rfl rfl ?_
  refine a_getR (pc := 7) (ci := 5) (k := 8) (b := 68) dX5_cells_7 (lf_RX5_17 rfl) (by decide) rfl rfl (lt90 hn (shK_lt (show shK 66 = _ from rfl))) c.2.2.2.2.2.2.2.2.1.2.1 ?_
  refine a_iconst (pc := 10) (v := nI 1) dX5_cells_10 (by decide) ?_
  refine a_iald (pc := 11) (j := 1) dX5_cells_11 rfl (lt90 hn (shK_lt (show shK 68 = _ from rfl))) rfl (by omega) ?_
  refine a_top (show (.int (hI h 68 1) : Value) = .int (nI (sH s)) from congrArg Value.int r.1.2.1) ?_
  refine n_imul (pc := 12) dX5_cells_12 ?_
  exact a_ireturn (pc := 13) dX5_cells_13 rfl rfl (⟨rfl, rfl⟩)
set_option maxHeartbeats 1500000 in
set_option maxRecDepth 100000 in
theorem s5_behind {d p : Nat} {h : AH} {s : SH} (c : CB h) (g : GS s) (r : DM h 68 s) (hp : p < sCells s) : AC mX5_behind d 0 0 [.ref 66, .int (nI p)] h (Qe (some (.int (nI (mbh s p)))) h) := by
  have hn := c.1
  have gw := g.1
  have gh := g.2.1
  have gl := g.2.2.2.2.2.1
  have gc := cells48 g
  refine AC.of (by decide) rfl (Nat.le_of_ble_eq_true rfl) (fun X => ?_)
  show AW X mX5_behind d 0 0 0 [(0, .ref 66), (1, .int (nI p))] [] h (Qe (some (.int (nI (mbh s p)))) h)
  have hq := cell_q g hp
  refine a_iload_n (pc := 0) (i := 1) dX5_behind_0 rfl rfl ?_
  refine a_aload_n (pc := 1) (i := 0) dX5_behind_1 rfl rfl ?_
  refine a_getR (pc := 2) (ci := 5) (k := 8) (b := 68) dX5_behind_2 (lf_RX5_17 rfl) (by decide) rfl rfl (lt90 hn (shK_lt (show shK 66 = _ from rfl))) c.2.2.2.2.2.2.2.2.1.2.1 ?_
  refine a_iconst (pc := 5) (v := nI 0) dX5_behind_5 (by decide) ?_
  refine a_iald (pc := 6) (j := 0) dX5_behind_6 rfl (lt90 hn (shK_lt (show shK 68 = _ from rfl))) rfl (by omega) ?_
  refine a_top (show (.int (hI h 68 0) : Value) = .int (nI (sW s)) from congrArg Value.int r.1.1) ?_
  refine n_idiv (pc := 7) dX5_behind_7 (by omega) (by omega) (by omega) ?_
  refine a_istore_n (pc := 8) (i := 2) (ls' := [(0, .ref 66), (1, .int (nI p)), (2, .int (nI (p / (sW s))))]) dX5_behind_8 rfl (by decide) rfl ?_
  refine a_iload_n (pc := 9) (i := 1) dX5_behind_9 rfl rfl ?_
  refine a_aload_n (pc := 10) (i := 0) dX5_behind_10 rfl rfl ?_
  refine a_getR (pc := 11) (ci := 5) (k := 8) (b := 68) dX5_behind_11 (lf_RX5_17 rfl) (by decide) rfl rfl (lt90 hn (shK_lt (show shK 66 = _ from rfl))) c.2.2.2.2.2.2.2.2.1.2.1 ?_
  refine a_iconst (pc := 14) (v := nI 0) dX5_behind_14 (by decide) ?_
  refine a_iald (pc := 15) (j := 0) dX5_behind_15 rfl (lt90 hn (shK_lt (show shK 68 = _ from rfl))) rfl (by omega) ?_
  refine a_top (show (.int (hI h 68 0) : Value) = .int (nI (sW s)) from congrArg Value.int r.1.1) ?_
  refine n_irem (pc := 16) dX5_behind_16 (by omega) (by omega) (by omega) ?_
  refine a_istore_n (pc := 17) (i := 3) (ls' := [(0, .ref 66), (1, .int (nI p)), (2, .int (nI (p / (sW s)))), (3, .int (nI (p % (sW s))))]) dX5_behind_17 rfl (by decide) rfl ?_
  refine a_iload_n (pc := 18) (i := 2) dX5_behind_18 rfl rfl ?_
  refine a_aload_n (pc := 19) (i := 0) dX5_behind_19 rfl rfl ?_
  refine a_getR (pc := 20) (ci := 5) (k := 8) (b := 68) dX5_behind_20 (lf_RX5_17 rfl) (by decide) rfl rfl (lt90 hn (shK_lt (show shK 66 = _ from rfl))) c.2.2.2.2.2.2.2.2.1.2.1 ?_
  refine a_iconst (pc := 23) (v := nI 0) dX5_behind_23 (by decide) ?_
  refine a_iald (pc := 24) (j := 0) dX5_behind_24 rfl (lt90 hn (shK_lt (show shK 68 = _ from rfl))) rfl (by omega) ?_
  refine a_top (show (.int (hI h 68 0) : Value) = .int (nI (sW s)) from congrArg Value.int r.1.1) ?_
  refine n_imul (pc := 25) dX5_behind_25 ?_
  refine a_aload_n (pc := 26) (i := 0) dX5_behind_26 rfl rfl ?_
  refine a_getR (pc := 27) (ci := 5) (k := 8) (b := 68) dX5_behind_27 (lf_RX5_17 rfl) (by decide) rfl rfl (lt90 hn (shK_lt (show shK 66 = _ from rfl))) c.2.2.2.2.2.2.2.2.1.2.1 ?_
  refine a_iconst (pc := 30) (v := nI 0) dX5_behind_30 (by decide) ?_
  refine a_iald (pc := 31) (j := 0) dX5_behind_31 rfl (lt90 hn (shK_lt (show shK 68 = _ from rfl))) rfl (by omega) ?_
  refine a_top (show (.int (hI h 68 0) : Value) = .int (nI (sW s)) from congrArg Value.int r.1.1) ?_
  refine n_iadd (pc := 32) dX5_behind_32 ?_
  refine a_iconst (pc := 33) (v := nI 1) dX5_behind_33 (by decide) ?_
  refine n_isub (pc := 34) dX5_behind_34 (by omega) ?_
  refine a_iload_n (pc := 35) (i := 3) dX5_behind_35 rfl rfl ?_
  refine n_isub (pc := 36) dX5_behind_36 (by omega) ?_
  exact a_ireturn (pc := 37) dX5_behind_37 rfl rfl (⟨rfl, rfl⟩)
set_option maxHeartbeats 1500000 in
set_option maxRecDepth 100000 in
theorem s5_cellOf {d x p : Nat} {h : AH} {s : SH} (c : CB h) (g : GS s) (r : DM h 68 s) (hx : x < 2) (hp : p < sCells s) : AC mX5_cellOf (d + 1) 0 0 [.ref 66, .int (nI x), .int (nI p)] h (Qe (some (.int (nI (mcl s x p)))) h) := by
  have hn := c.1
  have gw := g.1
  have gh := g.2.1
  have gl := g.2.2.2.2.2.1
  have gc := cells48 g
  refine AC.of (by decide) rfl (Nat.le_of_ble_eq_true rfl) (fun X => ?_)
  show AW X mX5_cellOf (d + 1) 0 0 0 [(0, .ref 66), (1, .int (nI x)), (2, .int (nI p))] [] h (Qe (some (.int (nI (mcl s x p)))) h)
  refine a_iload_n (pc := 0) (i := 1) dX5_cellOf_0 rfl rfl ?_
  refine n_if_ne (pc := 1) (tgt := 8) dX5_cellOf_1 (by decide) (by omega) (fun c1 => ?_) (fun c1 => ?_)
  · have e : mcl s x p = mbh s p := if_neg (by omega)
    refine a_aload_n (pc := 8) (i := 0) dX5_cellOf_8 rfl rfl ?_
    refine a_iload_n (pc := 9) (i := 2) dX5_cellOf_9 rfl rfl ?_
    refine a_vV1 (pc := 10) (as := [.int (nI p)]) (b := 66) (ci := 5) (v := .int (nI (mbh s p))) (h' := h) dX5_cellOf_10 (lc_RX5_175 rfl) ceX5_behind rfl (lt90 hn (shK_lt (show shK 66 = _ from rfl))) (s5_behind c g r hp) rfl rfl (Nat.le_of_ble_eq_true rfl) rfl ?_
    exact a_ireturn (pc := 13) dX5_cellOf_13 rfl rfl (⟨by rw [e], rfl⟩)
  · have e : mcl s x p = p := if_pos c1
    refine a_iload_n (pc := 4) (i := 2) dX5_cellOf_4 rfl rfl ?_
    refine a_goto (pc := 5) (tgt := 13) dX5_cellOf_5 (by decide) ?_
    exact a_ireturn (pc := 13) dX5_cellOf_13 rfl rfl (⟨by rw [e], rfl⟩)
set_option maxHeartbeats 1500000 in
set_option maxRecDepth 100000 in
theorem s5_letterAt {d x p : Nat} {h : AH} {s : SH} (c : CB h) (g : GS s) (r : DM h 68 s) (hx : x < 2) (hp : p < sCells s) : AC mX5_letterAt d 0 0 [.ref 66, .int (nI x), .int (nI p)] h (Qe (some (.int (qlt s (mq s x p)))) h) := by
  have hn := c.1
  have gw := g.1
  have gh := g.2.1
  have gl := g.2.2.2.2.2.1
  have gc := cells48 g
  refine AC.of (by decide) rfl (Nat.le_of_ble_eq_true rfl) (fun X => ?_)
  show AW X mX5_letterAt d 0 0 0 [(0, .ref 66), (1, .int (nI x)), (2, .int (nI p))] [] h (Qe (some (.int (qlt s (mq s x p)))) h)
  refine a_aload_n (pc := 0) (i := 0) dX5_letterAt_0 rfl rfl ?_
  refine a_getR (pc := 1) (ci := 5) (k := 8) (b := 68) dX5_letterAt_1 (lf_RX5_17 rfl) (by decide) rfl rfl (lt90 hn (shK_lt (show shK 66 = _ from rfl))) c.2.2.2.2.2.2.2.2.1.2.1 ?_
  refine a_bipush (pc := 4) (v := nI 6) dX5_letterAt_4 (by decide) ?_
  refine a_bipush (pc := 6) (v := nI 48) dX5_letterAt_6 (by decide) ?_
  refine a_iload_n (pc := 8) (i := 1) dX5_letterAt_8 rfl rfl ?_
  refine n_imul (pc := 9) dX5_letterAt_9 ?_
  refine n_iadd (pc := 10) dX5_letterAt_10 ?_
  refine a_iload_n (pc := 11) (i := 2) dX5_letterAt_11 rfl rfl ?_
  refine n_iadd (pc := 12) dX5_letterAt_12 ?_
  refine a_iald (pc := 13) (j := ((6 + (48 * x)) + p)) dX5_letterAt_13 rfl (lt90 hn (shK_lt (show shK 68 = _ from rfl))) rfl (by omega) ?_
  refine a_top (show (.int (hI h 68 ((6 + (48 * x)) + p)) : Value) = .int (qlt s (mq s x p)) from congrArg Value.int ((r.2.1 x p hx hp).trans (mq_lt g hx hp).symm)) ?_
  exact a_ireturn (pc := 14) dX5_letterAt_14 rfl rfl (⟨rfl, rfl⟩)
set_option maxHeartbeats 1500000 in
set_option maxRecDepth 100000 in
theorem s5_sizeAt {d x p : Nat} {h : AH} {s : SH} (c : CB h) (g : GS s) (r : DM h 68 s) (hx : x < 2) (hp : p < sCells s) : AC mX5_sizeAt d 0 0 [.ref 66, .int (nI x), .int (nI p)] h (Qe (some (.int (nI (qsz s (mq s x p))))) h) := by
  have hn := c.1
  have gw := g.1
  have gh := g.2.1
  have gl := g.2.2.2.2.2.1
  have gc := cells48 g
  refine AC.of (by decide) rfl (Nat.le_of_ble_eq_true rfl) (fun X => ?_)
  show AW X mX5_sizeAt d 0 0 0 [(0, .ref 66), (1, .int (nI x)), (2, .int (nI p))] [] h (Qe (some (.int (nI (qsz s (mq s x p))))) h)
  have hq := cell_q g hp
  refine a_aload_n (pc := 0) (i := 0) dX5_sizeAt_0 rfl rfl ?_
  refine a_getR (pc := 1) (ci := 5) (k := 8) (b := 68) dX5_sizeAt_1 (lf_RX5_17 rfl) (by decide) rfl rfl (lt90 hn (shK_lt (show shK 66 = _ from rfl))) c.2.2.2.2.2.2.2.2.1.2.1 ?_
  refine a_bipush (pc := 4) (v := nI 102) dX5_sizeAt_4 (by decide) ?_
  refine a_bipush (pc := 6) (v := nI 6) dX5_sizeAt_6 (by decide) ?_
  refine a_iload_n (pc := 8) (i := 1) dX5_sizeAt_8 rfl rfl ?_
  refine n_imul (pc := 9) dX5_sizeAt_9 ?_
  refine n_iadd (pc := 10) dX5_sizeAt_10 ?_
  refine a_iload_n (pc := 11) (i := 2) dX5_sizeAt_11 rfl rfl ?_
  refine a_aload_n (pc := 12) (i := 0) dX5_sizeAt_12 rfl rfl ?_
  refine a_getR (pc := 13) (ci := 5) (k := 8) (b := 68) dX5_sizeAt_13 (lf_RX5_17 rfl) (by decide) rfl rfl (lt90 hn (shK_lt (show shK 66 = _ from rfl))) c.2.2.2.2.2.2.2.2.1.2.1 ?_
  refine a_iconst (pc := 16) (v := nI 0) dX5_sizeAt_16 (by decide) ?_
  refine a_iald (pc := 17) (j := 0) dX5_sizeAt_17 rfl (lt90 hn (shK_lt (show shK 68 = _ from rfl))) rfl (by omega) ?_
  refine a_top (show (.int (hI h 68 0) : Value) = .int (nI (sW s)) from congrArg Value.int r.1.1) ?_
  refine n_idiv (pc := 18) dX5_sizeAt_18 (by omega) (by omega) (by omega) ?_
  refine n_iadd (pc := 19) dX5_sizeAt_19 ?_
  refine a_iald (pc := 20) (j := ((102 + (6 * x)) + (p / (sW s)))) dX5_sizeAt_20 rfl (lt90 hn (shK_lt (show shK 68 = _ from rfl))) rfl (by omega) ?_
  refine a_top (show (.int (hI h 68 ((102 + (6 * x)) + (p / (sW s)))) : Value) = .int (nI (qsz s (mq s x p))) from congrArg Value.int ((r.2.2.1 x (p / sW s) hx hq.2.2.1).trans (by rw [mq_sz g hx hp]))) ?_
  exact a_ireturn (pc := 21) dX5_sizeAt_21 rfl rfl (⟨rfl, rfl⟩)
set_option maxHeartbeats 1500000 in
set_option maxRecDepth 100000 in
theorem s5_isGone {d x p : Nat} {h : AH} {s : SH} (c : CB h) (g : GS s) (r : DM h 68 s) (hx : x < 2) (hp : p < sCells s) : AC mX5_isGone (d + 2) 0 0 [.ref 66, .int (nI x), .int (nI p)] h (Qe (some (.int (bi (gnB s (qcell s (mq s x p)))))) h) := by
  have hn := c.1
  have gw := g.1
  have gh := g.2.1
  have gl := g.2.2.2.2.2.1
  have gc := cells48 g
  refine AC.of (by decide) rfl (Nat.le_of_ble_eq_true rfl) (fun X => ?_)
  show AW X mX5_isGone (d + 2) 0 0 0 [(0, .ref 66), (1, .int (nI x)), (2, .int (nI p))] [] h (Qe (some (.int (bi (gnB s (qcell s (mq s x p)))))) h)
  have hm := mcl_lt g (x := x) hp
  have ee : gnB s (qcell s (mq s x p)) ↔ sGn s (mcl s x p) := by rw [mq_cell g hx hp]; exact mb_gn g hm
  refine a_aload_n (pc := 0) (i := 0) dX5_isGone_0 rfl rfl ?_
  refine a_getR (pc := 1) (ci := 5) (k := 8) (b := 68) dX5_isGone_1 (lf_RX5_17 rfl) (by decide) rfl rfl (lt90 hn (shK_lt (show shK 66 = _ from rfl))) c.2.2.2.2.2.2.2.2.1.2.1 ?_
  refine a_bipush (pc := 4) (v := nI 114) dX5_isGone_4 (by decide) ?_
  refine a_aload_n (pc := 6) (i := 0) dX5_isGone_6 rfl rfl ?_
  refine a_iload_n (pc := 7) (i := 1) dX5_isGone_7 rfl rfl ?_
  refine a_iload_n (pc := 8) (i := 2) dX5_isGone_8 rfl rfl ?_
  refine a_vV1 (pc := 9) (as := [.int (nI x), .int (nI p)]) (b := 66) (ci := 5) (v := .int (nI (mcl s x p))) (h' := h) dX5_isGone_9 (lc_RX5_178 rfl) ceX5_cellOf rfl (lt90 hn (shK_lt (show shK 66 = _ from rfl))) (s5_cellOf c g r hx hp) rfl rfl (Nat.le_of_ble_eq_true rfl) rfl ?_
  refine n_iadd (pc := 12) dX5_isGone_12 ?_
  refine a_iald (pc := 13) (j := (114 + (mcl s x p))) dX5_isGone_13 rfl (lt90 hn (shK_lt (show shK 68 = _ from rfl))) rfl (by omega) ?_
  refine a_top (show (.int (hI h 68 (114 + (mcl s x p))) : Value) = .int (bi (sGn s (mcl s x p))) from congrArg Value.int (r.2.2.2.1 _ hm)) ?_
  refine a_iconst (pc := 14) (v := nI 1) dX5_isGone_14 (by decide) ?_
  refine a_icmp_ne (pc := 15) (tgt := 22) dX5_isGone_15 (by decide) (fun c15 => ?_) (fun c15 => ?_)
  · have e : ¬ gnB s (qcell s (mq s x p)) := fun z => c15 (bi_eq1.mpr (ee.mp z))
    refine a_iconst (pc := 22) (v := nI 0) dX5_isGone_22 (by decide) ?_
    exact a_ireturn (pc := 23) dX5_isGone_23 rfl rfl (⟨by rw [bi_f e]; rfl, rfl⟩)
  · have e : gnB s (qcell s (mq s x p)) := ee.mpr (bi_eq1.mp c15)
    refine a_iconst (pc := 18) (v := nI 1) dX5_isGone_18 (by decide) ?_
    refine a_goto (pc := 19) (tgt := 23) dX5_isGone_19 (by decide) ?_
    exact a_ireturn (pc := 23) dX5_isGone_23 rfl rfl (⟨by rw [bi_t e]; rfl, rfl⟩)
set_option maxHeartbeats 1500000 in
set_option maxRecDepth 100000 in
theorem s5_canUse {d x p : Nat} {h : AH} {s : SH} (c : CB h) (g : GS s) (r : DM h 68 s) (hx : x < 2) (hp : p < sCells s) : AC mX5_canUse (d + 3) 0 0 [.ref 66, .int (nI x), .int (nI p)] h (Qe (some (.int (bi (qcu s (mq s x p))))) h) := by
  have hn := c.1
  have gw := g.1
  have gh := g.2.1
  have gl := g.2.2.2.2.2.1
  have gc := cells48 g
  refine AC.of (by decide) rfl (Nat.le_of_ble_eq_true rfl) (fun X => ?_)
  show AW X mX5_canUse (d + 3) 0 0 0 [(0, .ref 66), (1, .int (nI x)), (2, .int (nI p))] [] h (Qe (some (.int (bi (qcu s (mq s x p))))) h)
  have hz9 : qsz s (mq s x p) < 2 ^ 31 := by have := qsz_9 g (mq s x p); omega
  have hs9 := g.2.2.1
  refine a_aload_n (pc := 0) (i := 0) dX5_canUse_0 rfl rfl ?_
  refine a_iload_n (pc := 1) (i := 1) dX5_canUse_1 rfl rfl ?_
  refine a_iload_n (pc := 2) (i := 2) dX5_canUse_2 rfl rfl ?_
  refine a_vV1 (pc := 3) (as := [.int (nI x), .int (nI p)]) (b := 66) (ci := 5) (v := .int (qlt s (mq s x p))) (h' := h) dX5_canUse_3 (lc_RX5_181 rfl) ceX5_letterAt rfl (lt90 hn (shK_lt (show shK 66 = _ from rfl))) (s5_letterAt c g r hx hp) rfl rfl (Nat.le_of_ble_eq_true rfl) rfl ?_
  refine a_iconst (pc := 6) (v := (-1)) dX5_canUse_6 (by decide) ?_
  refine a_icmp_eq (pc := 7) (tgt := 38) dX5_canUse_7 (by decide) (fun c7 => ?_) (fun c7 => ?_)
  · skip
    have e : ¬ qcu s (mq s x p) := fun z => z.1 c7
    refine a_iconst (pc := 38) (v := nI 0) dX5_canUse_38 (by decide) ?_
    exact a_ireturn (pc := 39) dX5_canUse_39 rfl rfl (⟨by rw [bi_f e]; rfl, rfl⟩)
  · skip
    refine a_aload_n (pc := 10) (i := 0) dX5_canUse_10 rfl rfl ?_
    refine a_iload_n (pc := 11) (i := 1) dX5_canUse_11 rfl rfl ?_
    refine a_iload_n (pc := 12) (i := 2) dX5_canUse_12 rfl rfl ?_
    refine a_vV1 (pc := 13) (as := [.int (nI x), .int (nI p)]) (b := 66) (ci := 5) (v := .int (bi (gnB s (qcell s (mq s x p))))) (h' := h) dX5_canUse_13 (lc_RX5_184 rfl) ceX5_isGone rfl (lt90 hn (shK_lt (show shK 66 = _ from rfl))) (s5_isGone (d := d) c g r hx hp) rfl rfl (Nat.le_of_ble_eq_true rfl) rfl ?_
    refine b_if_ne (pc := 16) (tgt := 38) dX5_canUse_16 (by decide) (fun c16 => ?_) (fun c16 => ?_)
    · skip
      have e : ¬ qcu s (mq s x p) := fun z => z.2.1 c16
      refine a_iconst (pc := 38) (v := nI 0) dX5_canUse_38 (by decide) ?_
      exact a_ireturn (pc := 39) dX5_canUse_39 rfl rfl (⟨by rw [bi_f e]; rfl, rfl⟩)
    · skip
      refine a_aload_n (pc := 19) (i := 0) dX5_canUse_19 rfl rfl ?_
      refine a_iload_n (pc := 20) (i := 1) dX5_canUse_20 rfl rfl ?_
      refine a_iload_n (pc := 21) (i := 2) dX5_canUse_21 rfl rfl ?_
      refine a_vV1 (pc := 22) (as := [.int (nI x), .int (nI p)]) (b := 66) (ci := 5) (v := .int (nI (qsz s (mq s x p)))) (h' := h) dX5_canUse_22 (lc_RX5_188 rfl) ceX5_sizeAt rfl (lt90 hn (shK_lt (show shK 66 = _ from rfl))) (s5_sizeAt c g r hx hp) rfl rfl (Nat.le_of_ble_eq_true rfl) rfl ?_
      refine a_aload_n (pc := 25) (i := 0) dX5_canUse_25 rfl rfl ?_
      refine a_getR (pc := 26) (ci := 5) (k := 8) (b := 68) dX5_canUse_26 (lf_RX5_17 rfl) (by decide) rfl rfl (lt90 hn (shK_lt (show shK 66 = _ from rfl))) c.2.2.2.2.2.2.2.2.1.2.1 ?_
      refine a_iconst (pc := 29) (v := nI 2) dX5_canUse_29 (by decide) ?_
      refine a_iald (pc := 30) (j := 2) dX5_canUse_30 rfl (lt90 hn (shK_lt (show shK 68 = _ from rfl))) rfl (by omega) ?_
      refine a_top (show (.int (hI h 68 2) : Value) = .int (nI (sS s)) from congrArg Value.int r.1.2.2.1) ?_
      refine n_icmp_lt (pc := 31) (tgt := 38) dX5_canUse_31 (by decide) (by omega) (by omega) (fun c31 => ?_) (fun c31 => ?_)
      · skip
        have e : ¬ qcu s (mq s x p) := fun z => by have := z.2.2; omega
        refine a_iconst (pc := 38) (v := nI 0) dX5_canUse_38 (by decide) ?_
        exact a_ireturn (pc := 39) dX5_canUse_39 rfl rfl (⟨by rw [bi_f e]; rfl, rfl⟩)
      · have e : qcu s (mq s x p) := ⟨c7, c16, c31⟩
        refine a_iconst (pc := 34) (v := nI 1) dX5_canUse_34 (by decide) ?_
        refine a_goto (pc := 35) (tgt := 39) dX5_canUse_35 (by decide) ?_
        exact a_ireturn (pc := 39) dX5_canUse_39 rfl rfl (⟨by rw [bi_t e]; rfl, rfl⟩)
set_option maxHeartbeats 1500000 in
set_option maxRecDepth 100000 in
theorem s5_isLetter {d x p : Nat} {l : Int32} {h : AH} {s : SH} (c : CB h) (g : GS s) (r : DM h 68 s) (hx : x < 2) (hp : p < sCells s) : AC mX5_isLetter (d + 4) 0 0 [.ref 66, .int (nI x), .int (nI p), .int l] h (Qe (some (.int (bi (qlt s (mq s x p) = l ∧ qcu s (mq s x p))))) h) := by
  have hn := c.1
  have gw := g.1
  have gh := g.2.1
  have gl := g.2.2.2.2.2.1
  have gc := cells48 g
  refine AC.of (by decide) rfl (Nat.le_of_ble_eq_true rfl) (fun X => ?_)
  show AW X mX5_isLetter (d + 4) 0 0 0 [(0, .ref 66), (1, .int (nI x)), (2, .int (nI p)), (3, .int l)] [] h (Qe (some (.int (bi (qlt s (mq s x p) = l ∧ qcu s (mq s x p))))) h)
  refine a_aload_n (pc := 0) (i := 0) dX5_isLetter_0 rfl rfl ?_
  refine a_iload_n (pc := 1) (i := 1) dX5_isLetter_1 rfl rfl ?_
  refine a_iload_n (pc := 2) (i := 2) dX5_isLetter_2 rfl rfl ?_
  refine a_vV1 (pc := 3) (as := [.int (nI x), .int (nI p)]) (b := 66) (ci := 5) (v := .int (qlt s (mq s x p))) (h' := h) dX5_isLetter_3 (lc_RX5_181 rfl) ceX5_letterAt rfl (lt90 hn (shK_lt (show shK 66 = _ from rfl))) (s5_letterAt c g r hx hp) rfl rfl (Nat.le_of_ble_eq_true rfl) rfl ?_
  refine a_iload_n (pc := 6) (i := 3) dX5_isLetter_6 rfl rfl ?_
  refine a_icmp_ne (pc := 7) (tgt := 23) dX5_isLetter_7 (by decide) (fun c7 => ?_) (fun c7 => ?_)
  · skip
    have e : ¬ (qlt s (mq s x p) = l ∧ qcu s (mq s x p)) := fun z => c7 z.1
    refine a_iconst (pc := 23) (v := nI 0) dX5_isLetter_23 (by decide) ?_
    exact a_ireturn (pc := 24) dX5_isLetter_24 rfl rfl (⟨by rw [bi_f e]; rfl, rfl⟩)
  · skip
    refine a_aload_n (pc := 10) (i := 0) dX5_isLetter_10 rfl rfl ?_
    refine a_iload_n (pc := 11) (i := 1) dX5_isLetter_11 rfl rfl ?_
    refine a_iload_n (pc := 12) (i := 2) dX5_isLetter_12 rfl rfl ?_
    refine a_vV1 (pc := 13) (as := [.int (nI x), .int (nI p)]) (b := 66) (ci := 5) (v := .int (bi (qcu s (mq s x p)))) (h' := h) dX5_isLetter_13 (lc_RX5_191 rfl) ceX5_canUse rfl (lt90 hn (shK_lt (show shK 66 = _ from rfl))) (s5_canUse (d := d) c g r hx hp) rfl rfl (Nat.le_of_ble_eq_true rfl) rfl ?_
    refine b_if_eq (pc := 16) (tgt := 23) dX5_isLetter_16 (by decide) (fun c16 => ?_) (fun c16 => ?_)
    · skip
      have e : ¬ (qlt s (mq s x p) = l ∧ qcu s (mq s x p)) := fun z => c16 z.2
      refine a_iconst (pc := 23) (v := nI 0) dX5_isLetter_23 (by decide) ?_
      exact a_ireturn (pc := 24) dX5_isLetter_24 rfl rfl (⟨by rw [bi_f e]; rfl, rfl⟩)
    · have e : qlt s (mq s x p) = l ∧ qcu s (mq s x p) := ⟨c7, c16⟩
      refine a_iconst (pc := 19) (v := nI 1) dX5_isLetter_19 (by decide) ?_
      refine a_goto (pc := 20) (tgt := 24) dX5_isLetter_20 (by decide) ?_
      exact a_ireturn (pc := 24) dX5_isLetter_24 rfl rfl (⟨by rw [bi_t e]; rfl, rfl⟩)
set_option maxHeartbeats 1500000 in
set_option maxRecDepth 100000 in
theorem s5_hasLetter {d k : Nat} {l : Int32} {h : AH} {s : SH} (c : CB h) (g : GS s) (r : DM h 68 s) (hk : k < sCells s) : AC mX5_hasLetter (d + 5) 0 0 [.ref 66, .int (nI k), .int l] h (Qe (some (.int (bi (cwP s l (mb s k))))) h) := by
  have hn := c.1
  have gw := g.1
  have gh := g.2.1
  have gl := g.2.2.2.2.2.1
  have gc := cells48 g
  refine AC.of (by decide) rfl (Nat.le_of_ble_eq_true rfl) (fun X => ?_)
  show AW X mX5_hasLetter (d + 5) 0 0 0 [(0, .ref 66), (1, .int (nI k)), (2, .int l)] [] h (Qe (some (.int (bi (cwP s l (mb s k))))) h)
  have hb := (mbh_ok g hk).1
  refine a_aload_n (pc := 0) (i := 0) dX5_hasLetter_0 rfl rfl ?_
  refine a_iconst (pc := 1) (v := nI 0) dX5_hasLetter_1 (by decide) ?_
  refine a_iload_n (pc := 2) (i := 1) dX5_hasLetter_2 rfl rfl ?_
  refine a_iload_n (pc := 3) (i := 2) dX5_hasLetter_3 rfl rfl ?_
  refine a_vV1 (pc := 4) (as := [.int (nI 0), .int (nI k), .int l]) (b := 66) (ci := 5) (v := .int (bi (qlt s (mq s 0 k) = l ∧ qcu s (mq s 0 k)))) (h' := h) dX5_hasLetter_4 (lc_RX5_194 rfl) ceX5_isLetter rfl (lt90 hn (shK_lt (show shK 66 = _ from rfl))) (s5_isLetter (d := d) (x := 0) c g r (by omega) hk) rfl rfl (Nat.le_of_ble_eq_true rfl) rfl ?_
  refine b_if_ne (pc := 7) (tgt := 24) dX5_hasLetter_7 (by decide) (fun c7 => ?_) (fun c7 => ?_)
  · skip
    have e : cwP s l (mb s k) := (cw_has g hk).mpr (Or.inl c7)
    refine a_iconst (pc := 24) (v := nI 1) dX5_hasLetter_24 (by decide) ?_
    refine a_goto (pc := 25) (tgt := 29) dX5_hasLetter_25 (by decide) ?_
    exact a_ireturn (pc := 29) dX5_hasLetter_29 rfl rfl (⟨by rw [bi_t e]; rfl, rfl⟩)
  · skip
    refine a_aload_n (pc := 10) (i := 0) dX5_hasLetter_10 rfl rfl ?_
    refine a_iconst (pc := 11) (v := nI 1) dX5_hasLetter_11 (by decide) ?_
    refine a_aload_n (pc := 12) (i := 0) dX5_hasLetter_12 rfl rfl ?_
    refine a_iload_n (pc := 13) (i := 1) dX5_hasLetter_13 rfl rfl ?_
    refine a_vV1 (pc := 14) (as := [.int (nI k)]) (b := 66) (ci := 5) (v := .int (nI (mbh s k))) (h' := h) dX5_hasLetter_14 (lc_RX5_175 rfl) ceX5_behind rfl (lt90 hn (shK_lt (show shK 66 = _ from rfl))) (s5_behind c g r hk) rfl rfl (Nat.le_of_ble_eq_true rfl) rfl ?_
    refine a_iload_n (pc := 17) (i := 2) dX5_hasLetter_17 rfl rfl ?_
    refine a_vV1 (pc := 18) (as := [.int (nI 1), .int (nI (mbh s k)), .int l]) (b := 66) (ci := 5) (v := .int (bi (qlt s (mq s 1 (mbh s k)) = l ∧ qcu s (mq s 1 (mbh s k))))) (h' := h) dX5_hasLetter_18 (lc_RX5_194 rfl) ceX5_isLetter rfl (lt90 hn (shK_lt (show shK 66 = _ from rfl))) (s5_isLetter (d := d) (x := 1) c g r (by omega) hb) rfl rfl (Nat.le_of_ble_eq_true rfl) rfl ?_
    refine b_if_eq (pc := 21) (tgt := 28) dX5_hasLetter_21 (by decide) (fun c21 => ?_) (fun c21 => ?_)
    · have e : ¬ cwP s l (mb s k) := fun z => ((cw_has g hk).mp z).elim c7 c21
      refine a_iconst (pc := 28) (v := nI 0) dX5_hasLetter_28 (by decide) ?_
      exact a_ireturn (pc := 29) dX5_hasLetter_29 rfl rfl (⟨by rw [bi_f e]; rfl, rfl⟩)
    · skip
      have e : cwP s l (mb s k) := (cw_has g hk).mpr (Or.inr c21)
      refine a_iconst (pc := 24) (v := nI 1) dX5_hasLetter_24 (by decide) ?_
      refine a_goto (pc := 25) (tgt := 29) dX5_hasLetter_25 (by decide) ?_
      exact a_ireturn (pc := 29) dX5_hasLetter_29 rfl rfl (⟨by rw [bi_t e]; rfl, rfl⟩)
set_option maxHeartbeats 1500000 in
set_option maxRecDepth 100000 in
theorem s5_inMessage {d : Nat} {l : Int32} {h : AH} {s : SH} (c : CB h) (g : GS s) (r : DM h 68 s) : AC mX5_inMessage d 0 0 [.ref 66, .int l] h (Qe (some (.int (nI (inMs s l)))) h) := by
  have hn := c.1
  have gw := g.1
  have gh := g.2.1
  have gl := g.2.2.2.2.2.1
  have gc := cells48 g
  refine AC.of (by decide) rfl (Nat.le_of_ble_eq_true rfl) (fun X => ?_)
  show AW X mX5_inMessage d 0 0 0 [(0, .ref 66), (1, .int l)] [] h (Qe (some (.int (nI (inMs s l)))) h)
  have LP : ∀ (fu : Nat) (j : Nat), j ≤ sLen s → sLen s - j < fu → AW X mX5_inMessage d 0 0 4 [(0, .ref 66), (1, .int l), (2, .int (nI (cnt (fun k => nI (sMs s k) = l) j))), (3, .int (nI j))] [] h (Qe (some (.int (nI (inMs s l)))) h) := by
    intro fu
    induction fu with
    | zero => intro j hj hz; exact absurd hz (Nat.not_lt_zero _)
    | succ fu ih =>
      intro j hj hz
      have hcl := cnt_le (fun k => nI (sMs s k) = l) j
      refine a_iload_n (pc := 4) (i := 3) dX5_inMessage_4 rfl rfl ?_
      refine a_aload_n (pc := 5) (i := 0) dX5_inMessage_5 rfl rfl ?_
      refine a_getR (pc := 6) (ci := 5) (k := 8) (b := 68) dX5_inMessage_6 (lf_RX5_17 rfl) (by decide) rfl rfl (lt90 hn (shK_lt (show shK 66 = _ from rfl))) c.2.2.2.2.2.2.2.2.1.2.1 ?_
      refine a_iconst (pc := 9) (v := nI 3) dX5_inMessage_9 (by decide) ?_
      refine a_iald (pc := 10) (j := 3) dX5_inMessage_10 rfl (lt90 hn (shK_lt (show shK 68 = _ from rfl))) rfl (by omega) ?_
      refine a_top (show (.int (hI h 68 3) : Value) = .int (nI (sLen s)) from congrArg Value.int r.1.2.2.2.1) ?_
      refine n_icmp_ge (pc := 11) (tgt := 42) dX5_inMessage_11 (by decide) (by omega) (by omega) (fun c11 => ?_) (fun c11 => ?_)
      · have ej : j = sLen s := by omega
        refine a_iload_n (pc := 42) (i := 2) dX5_inMessage_42 rfl rfl ?_
        exact a_ireturn (pc := 43) dX5_inMessage_43 rfl rfl (⟨by rw [ej]; rfl, rfl⟩)
      · skip
        refine a_iload_n (pc := 14) (i := 2) dX5_inMessage_14 rfl rfl ?_
        refine a_aload_n (pc := 15) (i := 0) dX5_inMessage_15 rfl rfl ?_
        refine a_getR (pc := 16) (ci := 5) (k := 8) (b := 68) dX5_inMessage_16 (lf_RX5_17 rfl) (by decide) rfl rfl (lt90 hn (shK_lt (show shK 66 = _ from rfl))) c.2.2.2.2.2.2.2.2.1.2.1 ?_
        refine a_sipush (pc := 19) (v := nI 162) dX5_inMessage_19 (by decide) ?_
        refine a_iload_n (pc := 22) (i := 3) dX5_inMessage_22 rfl rfl ?_
        refine n_iadd (pc := 23) dX5_inMessage_23 ?_
        refine a_iald (pc := 24) (j := (162 + j)) dX5_inMessage_24 rfl (lt90 hn (shK_lt (show shK 68 = _ from rfl))) rfl (by omega) ?_
        refine a_top (show (.int (hI h 68 (162 + j)) : Value) = .int (nI (sMs s j)) from congrArg Value.int (r.2.2.2.2 j c11)) ?_
        refine a_iload_n (pc := 25) (i := 1) dX5_inMessage_25 rfl rfl ?_
        refine a_icmp_ne (pc := 26) (tgt := 33) dX5_inMessage_26 (by decide) (fun c26 => ?_) (fun c26 => ?_)
        · skip
          refine a_iconst (pc := 33) (v := nI 0) dX5_inMessage_33 (by decide) ?_
          refine n_iadd (pc := 34) dX5_inMessage_34 ?_
          refine a_istore_n (pc := 35) (i := 2) (ls' := [(0, .ref 66), (1, .int l), (2, .int (nI ((cnt (fun k => nI (sMs s k) = l) j) + 0))), (3, .int (nI j))]) dX5_inMessage_35 rfl (by decide) rfl ?_
          refine n_iinc (pc := 36) (k := 1) (ls' := [(0, .ref 66), (1, .int l), (2, .int (nI ((cnt (fun k => nI (sMs s k) = l) j) + 0))), (3, .int (nI (j + 1)))]) dX5_inMessage_36 rfl (by decide) (by decide) rfl ?_
          refine a_goto (pc := 39) (tgt := 4) dX5_inMessage_39 (by decide) ?_
          refine a_locs (ls' := [(0, .ref 66), (1, .int l), (2, .int (nI (cnt (fun k => nI (sMs s k) = l) (j + 1)))), (3, .int (nI (j + 1)))]) (by rw [cnt_no (P := fun k => nI (sMs s k) = l) c26]; rfl) ?_
          exact ih (j + 1) (by omega) (by omega)
        · skip
          refine a_iconst (pc := 29) (v := nI 1) dX5_inMessage_29 (by decide) ?_
          refine a_goto (pc := 30) (tgt := 34) dX5_inMessage_30 (by decide) ?_
          refine n_iadd (pc := 34) dX5_inMessage_34 ?_
          refine a_istore_n (pc := 35) (i := 2) (ls' := [(0, .ref 66), (1, .int l), (2, .int (nI ((cnt (fun k => nI (sMs s k) = l) j) + 1))), (3, .int (nI j))]) dX5_inMessage_35 rfl (by decide) rfl ?_
          refine n_iinc (pc := 36) (k := 1) (ls' := [(0, .ref 66), (1, .int l), (2, .int (nI ((cnt (fun k => nI (sMs s k) = l) j) + 1))), (3, .int (nI (j + 1)))]) dX5_inMessage_36 rfl (by decide) (by decide) rfl ?_
          refine a_goto (pc := 39) (tgt := 4) dX5_inMessage_39 (by decide) ?_
          refine a_locs (ls' := [(0, .ref 66), (1, .int l), (2, .int (nI (cnt (fun k => nI (sMs s k) = l) (j + 1)))), (3, .int (nI (j + 1)))]) (by rw [cnt_yes (P := fun k => nI (sMs s k) = l) c26]) ?_
          exact ih (j + 1) (by omega) (by omega)
  refine a_iconst (pc := 0) (v := nI 0) dX5_inMessage_0 (by decide) ?_
  refine a_istore_n (pc := 1) (i := 2) (ls' := [(0, .ref 66), (1, .int l), (2, .int (nI 0))]) dX5_inMessage_1 rfl (by decide) rfl ?_
  refine a_iconst (pc := 2) (v := nI 0) dX5_inMessage_2 (by decide) ?_
  refine a_istore_n (pc := 3) (i := 3) (ls' := [(0, .ref 66), (1, .int l), (2, .int (nI 0)), (3, .int (nI 0))]) dX5_inMessage_3 rfl (by decide) rfl ?_
  refine a_locs (ls' := [(0, .ref 66), (1, .int l), (2, .int (nI (cnt (fun k => nI (sMs s k) = l) 0))), (3, .int (nI 0))]) rfl ?_
  exact LP (sLen s + 1) 0 (Nat.zero_le _) (by omega)
