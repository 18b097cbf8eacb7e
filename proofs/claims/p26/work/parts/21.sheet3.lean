/-! the class Sheet: countThere, and what writes it -/
noncomputable def nGone (s : SH) : Nat := cnt (sGn s) (sCells s)
noncomputable def nThere (s : SH) : Nat := sCells s - nGone s
theorem gone_cnt {s : SH} (g : GS s) : cnt (gnB s) 64 = nGone s := by
  have h1 := g.1
  have h2 := g.2.1
  unfold nGone sCells
  rw [Nat.mul_comm (sW s) (sH s)]
  refine cnt_sub (W := 8) (H := 8) (by omega) (by omega) (fun r c q1 q2 => ?_) (fun r c q1 q2 q3 z => ?_)
  · unfold gnB
    rw [show (r * 8 + c) / 8 = r by omega, show (r * 8 + c) % 8 = c by omega]
    exact ⟨fun z => z.2, fun z => ⟨⟨q1, q2⟩, z⟩⟩
  · unfold gnB at z
    rw [show (r * 8 + c) / 8 = r by omega, show (r * 8 + c) % 8 = c by omega] at z
    omega
theorem gone_le (s : SH) : nGone s ≤ sCells s := cnt_le _ _
theorem CR_of {h : AH} {k : Nat} {s : SH} (h0 : hI h k 0 = nI (sW s)) (h1 : hI h k 1 = nI (sH s)) (h2 : hI h k 2 = nI (sS s)) (h3 : hL h k 5 = mkL (gnB s)) (h4 : hI h k 7 = nI (sLen s)) (h5 : hI h k 8 = nI (sCu s)) (h6 : hI h k 9 = nI (sTk s))
    (h7 : ∀ q, q < 96 → qhas s q → hI h (k + 1) q = sLt s (q / 48) (qpl s q)) (h8 : ∀ x r, x < 2 → r < sH s → hI h (k + 2) (6 * x + r) = nI (sSz s x r)) (h9 : ∀ j, j < sLen s → hI h (k + 3) j = nI (sMs s j)) : CR h k s := ⟨⟨h0, h1, h2, h3, h4, h5, h6⟩, h7, h8, h9⟩
/-- the cells P taken, with n cuts; P says of spots of cells -/
noncomputable def tkS (s : SH) (P : Nat → Prop) (n m : Nat) : SH := (s.1, s.2.1, s.2.2.1, (fun c => sGn s c ∨ P (8 * (c / sW s) + c % sW s)), s.2.2.2.2.1, (sCu s + n, sTk s + m))
theorem gnB_tk {s : SH} (g : GS s) {P : Nat → Prop} (hP : ∀ b, P b → b / 8 < sH s ∧ b % 8 < sW s) {n m b : Nat} : (gnB s b ∨ P b) ↔ gnB (tkS s P n m) b := by
  have h1 := g.1
  have e : ∀ b, b % 8 < sW s → 8 * ((b / 8 * sW s + b % 8) / sW s) + (b / 8 * sW s + b % 8) % sW s = b := fun b hb => by
    rw [Nat.mul_comm (b / 8), Nat.mul_add_div (by omega), Nat.mul_add_mod, Nat.div_eq_of_lt hb, Nat.mod_eq_of_lt hb]; omega
  constructor
  · rintro (⟨q1, q2⟩ | q)
    · exact ⟨q1, Or.inl q2⟩
    · refine ⟨hP b q, Or.inr ?_⟩
      show P (8 * ((b / 8 * sW s + b % 8) / sW s) + (b / 8 * sW s + b % 8) % sW s)
      rw [e b (hP b q).2]; exact q
  · rintro ⟨q1, q2⟩
    have q1' : b / 8 < sH s ∧ b % 8 < sW s := q1
    rcases q2 with q2 | q2
    · exact Or.inl ⟨q1, q2⟩
    · right
      have q3 : P (8 * ((b / 8 * sW s + b % 8) / sW s) + (b / 8 * sW s + b % 8) % sW s) := q2
      rw [e b q1'.2] at q3; exact q3
theorem CR_take {h : AH} {k : Nat} {s : SH} (g : GS s) (r : CR h k s) {P : Nat → Prop} (hP : ∀ b, P b → b / 8 < sH s ∧ b % 8 < sW s) {n m : Nat} : CR (sI (sI (sL h k 5 (mkL (fun i => gnB s i ∨ P i))) k 8 (nI (sCu s + n))) k 9 (nI (sTk s + m))) k (tkS s P n m) := by
  refine CR_of ?_ ?_ ?_ ?_ ?_ ?_ ?_ ?_ ?_ ?_
  · rw [hI_sI, if_neg (by omega), hI_sI, if_neg (by omega), hI_sL]; exact r.1.1
  · rw [hI_sI, if_neg (by omega), hI_sI, if_neg (by omega), hI_sL]; exact r.1.2.1
  · rw [hI_sI, if_neg (by omega), hI_sI, if_neg (by omega), hI_sL]; exact r.1.2.2.1
  · rw [hL_sI, hL_sI, hL_sL, if_pos ⟨rfl, rfl⟩]; exact mkL_c fun i _ => gnB_tk g hP
  · rw [hI_sI, if_neg (by omega), hI_sI, if_neg (by omega), hI_sL]; exact r.1.2.2.2.2.1
  · rw [hI_sI, if_neg (by omega), hI_sI, if_pos ⟨rfl, rfl⟩]; rfl
  · rw [hI_sI, if_pos ⟨rfl, rfl⟩]; rfl
  · intro q h1 h2; rw [hI_sI, if_neg (by omega), hI_sI, if_neg (by omega), hI_sL]; exact r.2.1 q h1 h2
  · intro x y h1 h2; rw [hI_sI, if_neg (by omega), hI_sI, if_neg (by omega), hI_sL]; exact r.2.2.1 x y h1 h2
  · intro j h1; rw [hI_sI, if_neg (by omega), hI_sI, if_neg (by omega), hI_sL]; exact r.2.2.2 j h1
set_option maxHeartbeats 4000000 in
set_option maxRecDepth 100000 in
theorem sp_countThere {d : Nat} {h : AH} {s : SH} (c : CB h) (g : GS s) (r : CR h 2 s) : AC mX3_countThere (d + 2) 0 0 [.ref 2] h (Qe (some (.int (nI (nThere s)))) h) := by
  have hn := c.1
  have gw := g.1
  have gh := g.2.1
  have gs := g.2.2.1
  have gl := g.2.2.2.2.2.1
  refine AC.of (by decide) rfl (Nat.le_of_ble_eq_true rfl) (fun X => ?_)
  show AW X mX3_countThere (d + 2) 0 0 0 [(0, .ref 2)] [] h (Qe (some (.int (nI (nThere s)))) h)
  have hle := gone_le s
  rw [← gone_cnt g] at hle
  refine a_aload_n (pc := 0) (i := 0) dX3_countThere_0 rfl rfl ?_
  refine a_vV1 (pc := 1) (as := []) (b := 2) (ci := 3) (v := .int (nI (sCells s))) (h' := h) dX3_countThere_1 (lc_RX3_60 rfl) ceX3_countCells rfl (lt90 hn (shK_lt (show shK 2 = _ from rfl))) (sp_countCells c g r) rfl rfl (Nat.le_of_ble_eq_true rfl) rfl ?_
  refine a_aload_n (pc := 4) (i := 0) dX3_countThere_4 rfl rfl ?_
  refine a_getL (pc := 5) (ci := 3) (k := 5) dX3_countThere_5 (lf_RX3_41 rfl) (by decide) rfl rfl (lt90 hn (shK_lt (show shK 2 = _ from rfl))) ?_
  refine a_top (show (.long (hL h 2 5) : Value) = .long (mkL (gnB s)) from congrArg Value.long r.1.2.2.2.1) ?_
  refine a_vS1 (pc := 8) (as := [.long (mkL (gnB s))]) (v := .int (nI (cnt (gnB s) 64))) (h' := h) dX3_countThere_8 (lc_RX3_93 rfl) ceJ13_bitCount_95d88 sp_bitCount rfl rfl (Nat.le_of_ble_eq_true rfl) rfl ?_
  refine n_isub (pc := 11) dX3_countThere_11 (by omega) ?_
  exact a_ireturn (pc := 12) dX3_countThere_12 rfl rfl (⟨by rw [gone_cnt g]; rfl, rfl⟩)
set_option maxHeartbeats 4000000 in
set_option maxRecDepth 100000 in
theorem sp_take {d : Nat} {h : AH} {s : SH} (c : CB h) (g : GS s) (r : CR h 2 s) {P : Nat → Prop} (hP : ∀ b, P b → b / 8 < sH s ∧ b % 8 < sW s) {n : Nat} : AC mX3_take (d + 1) 0 0 [.ref 2, .long (mkL P), .int (nI n)] h (Qf [2] none h (fun h2 => CR h2 2 (tkS s P n (cnt P 64)))) := by
  have hn := c.1
  have gw := g.1
  have gh := g.2.1
  have gs := g.2.2.1
  have gl := g.2.2.2.2.2.1
  refine AC.of (by decide) rfl (Nat.le_of_ble_eq_true rfl) (fun X => ?_)
  show AW X mX3_take (d + 1) 0 0 0 [(0, .ref 2), (1, .long (mkL P)), (3, .int (nI n))] [] h (Qf [2] none h (fun h2 => CR h2 2 (tkS s P n (cnt P 64))))
  refine a_aload_n (pc := 0) (i := 0) dX3_take_0 rfl rfl ?_
  refine a_dup (pc := 1) dX3_take_1 rfl ?_
  refine a_getL (pc := 2) (ci := 3) (k := 5) dX3_take_2 (lf_RX3_41 rfl) (by decide) rfl rfl (lt90 hn (shK_lt (show shK 2 = _ from rfl))) ?_
  refine a_top (show (.long (hL h 2 5) : Value) = .long (mkL (gnB s)) from congrArg Value.long r.1.2.2.2.1) ?_
  refine a_lload_n (pc := 5) (i := 1) dX3_take_5 rfl rfl ?_
  refine a_lor (pc := 6) dX3_take_6 ?_
  refine a_top (show (.long ((mkL (gnB s)) ||| (mkL P)) : Value) = .long (mkL (fun i => gnB s i ∨ P i)) from congrArg Value.long (mkL_or _ _)) ?_
  refine a_putL (pc := 7) (ci := 3) (k := 5) dX3_take_7 (lf_RX3_41 rfl) (by decide) rfl rfl (lt90 hn (shK_lt (show shK 2 = _ from rfl))) rfl ?_
  refine a_aload_n (pc := 10) (i := 0) dX3_take_10 rfl rfl ?_
  refine a_dup (pc := 11) dX3_take_11 rfl ?_
  refine a_getI (pc := 12) (ci := 3) (k := 8) dX3_take_12 (lf_RX3_48 rfl) (by decide) rfl rfl (lt90 hn (shK_lt (show shK 2 = _ from rfl))) ?_
  refine a_top (show (.int (hI (sL h 2 5 (mkL (fun i => gnB s i ∨ P i))) 2 8) : Value) = .int (nI (sCu s)) from congrArg Value.int r.1.2.2.2.2.2.1) ?_
  refine a_iload_n (pc := 15) (i := 3) dX3_take_15 rfl rfl ?_
  refine n_iadd (pc := 16) dX3_take_16 ?_
  refine a_putI (pc := 17) (ci := 3) (k := 8) dX3_take_17 (lf_RX3_48 rfl) (by decide) (Or.inl rfl) rfl (lt90 hn (shK_lt (show shK 2 = _ from rfl))) rfl ?_
  refine a_aload_n (pc := 20) (i := 0) dX3_take_20 rfl rfl ?_
  refine a_dup (pc := 21) dX3_take_21 rfl ?_
  refine a_getI (pc := 22) (ci := 3) (k := 9) dX3_take_22 (lf_RX3_51 rfl) (by decide) rfl rfl (lt90 hn (shK_lt (show shK 2 = _ from rfl))) ?_
  refine a_top (show (.int (hI (sI (sL h 2 5 (mkL (fun i => gnB s i ∨ P i))) 2 8 (nI ((sCu s) + n))) 2 9) : Value) = .int (nI (sTk s)) from congrArg Value.int ((show _ = _ from by rw [hI_sI, if_neg (by omega), hI_sL]).trans r.1.2.2.2.2.2.2)) ?_
  refine a_lload_n (pc := 25) (i := 1) dX3_take_25 rfl rfl ?_
  refine a_vS1 (pc := 26) (as := [.long (mkL P)]) (v := .int (nI (cnt P 64))) (h' := (sI (sL h 2 5 (mkL (fun i => gnB s i ∨ P i))) 2 8 (nI ((sCu s) + n)))) dX3_take_26 (lc_RX3_93 rfl) ceJ13_bitCount_95d88 sp_bitCount rfl rfl (Nat.le_of_ble_eq_true rfl) rfl ?_
  refine n_iadd (pc := 29) dX3_take_29 ?_
  refine a_putI (pc := 30) (ci := 3) (k := 9) dX3_take_30 (lf_RX3_51 rfl) (by decide) (Or.inl rfl) rfl (lt90 hn (shK_lt (show shK 2 = _ from rfl))) rfl ?_
  exact a_return (pc := 33) dX3_take_33 rfl (⟨rfl, ((Fr.refl.sL (by decide)).sI (by decide)).sI (by decide), CR_take g r hP⟩)
