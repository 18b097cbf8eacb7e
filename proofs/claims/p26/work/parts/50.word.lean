/-! String constants: length, charAt; isWord -/
theorem zL {i : Nat} (hi : i < 14) : zLen.getD i 0 < 8 ∧ True := by
  have h : ∀ i : Fin 14, zLen.getD i.val 0 < 8 := by decide +kernel
  exact ⟨h ⟨i, hi⟩, trivial⟩
def zC (i j : Nat) : Int32 := (zByt.getD i []).getD j 0
theorem zC_ok {i j : Nat} (hi : i < 5) (hj : j < zLen.getD i 0) : ∃ g, (97 ≤ g ∧ g ≤ 122) ∧ zC i j = nI g := by
  have h : ∀ i : Fin 5, ∀ j : Fin 8, j.val < zLen.getD i.val 0 → (97 ≤ (zC i.val j.val).toNatClampNeg ∧ (zC i.val j.val).toNatClampNeg ≤ 122) ∧ zC i.val j.val = nI (zC i.val j.val).toNatClampNeg := by decide +kernel
  exact ⟨_, h ⟨i, hi⟩ ⟨j, by have := (zL (i := i) (by omega)).1; omega⟩ hj⟩
set_option maxHeartbeats 1500000 in
set_option maxRecDepth 100000 in
theorem sp_coder {d i : Nat} {h : AH} (hi : i < 14) : AC mJ0_coder_7d493 d 0 0 [.ref (1001 + i)] h (Qe (some (.int (nI 0))) h) := by
  refine AC.of (by decide) rfl (Nat.le_of_ble_eq_true rfl) (fun X => ?_)
  show AW X mJ0_coder_7d493 d 0 0 0 [(0, .ref (1001 + i))] [] h (Qe (some (.int (nI 0))) h)
  refine a_getCS (pc := 0) dJ0_coder_7d493_0 (by decide +kernel) ?_
  refine a_top (show (.int 1 : Value) = .int (nI 1) from rfl) ?_
  refine n_if_eq (pc := 3) (tgt := 13) dJ0_coder_7d493_3 (by decide) (by omega) (fun c3 => ?_) (fun c3 => ?_)
  · exact absurd c3 (by decide)
  · skip
    refine a_aload_n (pc := 6) (i := 0) dJ0_coder_7d493_6 rfl rfl ?_
    refine a_strC (pc := 7) (i := i) dJ0_coder_7d493_7 (by decide +kernel) (by assumption) ?_
    refine a_top (show (.int 0 : Value) = .int (nI 0) from rfl) ?_
    refine a_goto (pc := 10) (tgt := 14) dJ0_coder_7d493_10 (by decide) ?_
    exact a_ireturn (pc := 14) dJ0_coder_7d493_14 rfl rfl (⟨rfl, rfl⟩)
set_option maxHeartbeats 1500000 in
set_option maxRecDepth 100000 in
theorem sp_isLatin1 {d i : Nat} {h : AH} (hi : i < 14) : AC mJ0_isLatin1_aae02 d 0 0 [.ref (1001 + i)] h (Qe (some (.int (nI 1))) h) := by
  refine AC.of (by decide) rfl (Nat.le_of_ble_eq_true rfl) (fun X => ?_)
  show AW X mJ0_isLatin1_aae02 d 0 0 0 [(0, .ref (1001 + i))] [] h (Qe (some (.int (nI 1))) h)
  refine a_getCS (pc := 0) dJ0_isLatin1_aae02_0 (by decide +kernel) ?_
  refine a_top (show (.int 1 : Value) = .int (nI 1) from rfl) ?_
  refine n_if_eq (pc := 3) (tgt := 17) dJ0_isLatin1_aae02_3 (by decide) (by omega) (fun c3 => ?_) (fun c3 => ?_)
  · exact absurd c3 (by decide)
  · skip
    refine a_aload_n (pc := 6) (i := 0) dJ0_isLatin1_aae02_6 rfl rfl ?_
    refine a_strC (pc := 7) (i := i) dJ0_isLatin1_aae02_7 (by decide +kernel) (by assumption) ?_
    refine a_top (show (.int 0 : Value) = .int (nI 0) from rfl) ?_
    refine n_if_ne (pc := 10) (tgt := 17) dJ0_isLatin1_aae02_10 (by decide) (by omega) (fun c10 => ?_) (fun c10 => ?_)
    · exact absurd c10 (by decide)
    · skip
      refine a_iconst (pc := 13) (v := nI 1) dJ0_isLatin1_aae02_13 (by decide) ?_
      refine a_goto (pc := 14) (tgt := 18) dJ0_isLatin1_aae02_14 (by decide) ?_
      exact a_ireturn (pc := 18) dJ0_isLatin1_aae02_18 rfl rfl (⟨rfl, rfl⟩)
theorem zL_shr {i : Nat} (hi : i < 14) : nI (zLen.getD i 0) >>> (nI 0 &&& 31) = nI (zLen.getD i 0) := by
  have h : ∀ i : Fin 14, nI (zLen.getD i.val 0) >>> (nI 0 &&& 31) = nI (zLen.getD i.val 0) := by decide +kernel
  exact h ⟨i, hi⟩
set_option maxHeartbeats 1500000 in
set_option maxRecDepth 100000 in
theorem sp_strlen {d i : Nat} {h : AH} (hi : i < 14) : AC mJ0_length_8abf5 (d + 1) 0 0 [.ref (1001 + i)] h (Qe (some (.int (nI (zLen.getD i 0)))) h) := by
  refine AC.of (by decide) rfl (Nat.le_of_ble_eq_true rfl) (fun X => ?_)
  show AW X mJ0_length_8abf5 (d + 1) 0 0 0 [(0, .ref (1001 + i))] [] h (Qe (some (.int (nI (zLen.getD i 0)))) h)
  refine a_aload_n (pc := 0) (i := 0) dJ0_length_8abf5_0 rfl rfl ?_
  refine a_strV (pc := 1) (i := i) dJ0_length_8abf5_1 (by decide +kernel) (by assumption) ?_
  refine a_strL (pc := 4) (i := i) dJ0_length_8abf5_4 (by assumption) ?_
  refine a_aload_n (pc := 5) (i := 0) dJ0_length_8abf5_5 rfl rfl ?_
  refine a_vStr (pc := 6) (i := i) (as := []) (v := .int (nI 0)) (h' := h) dJ0_length_8abf5_6 (lc_RJ0_335 rfl) ceJ0_coder_7d493 (by assumption) (sp_coder hi) rfl rfl (Nat.le_of_ble_eq_true rfl) rfl ?_
  refine a_ishr (pc := 9) dJ0_length_8abf5_9 ?_
  refine a_top (show (.int ((nI (zLen.getD i 0)) >>> ((nI 0) &&& 31)) : Value) = .int (nI (zLen.getD i 0)) from congrArg Value.int (zL_shr hi)) ?_
  exact a_ireturn (pc := 10) dJ0_length_8abf5_10 rfl rfl (⟨rfl, rfl⟩)
set_option maxHeartbeats 1500000 in
set_option maxRecDepth 100000 in
theorem sp_chk0 {d j n : Nat} {h : AH} (hj : j < n) (hn : n < 2 ^ 31) : AC mJ3_checkIndex_8e157 d 0 0 [.int (nI j), .int (nI n), .null] h (Qe (some (.int (nI j))) h) := by
  refine AC.of (by decide) rfl (Nat.le_of_ble_eq_true rfl) (fun X => ?_)
  show AW X mJ3_checkIndex_8e157 d 0 0 0 [(0, .int (nI j)), (1, .int (nI n)), (2, .null)] [] h (Qe (some (.int (nI j))) h)
  refine a_iload_n (pc := 0) (i := 0) dJ3_checkIndex_8e157_0 rfl rfl ?_
  refine n_if_lt (pc := 1) (tgt := 9) dJ3_checkIndex_8e157_1 (by decide) (by omega) ?_
  refine a_iload_n (pc := 4) (i := 0) dJ3_checkIndex_8e157_4 rfl rfl ?_
  refine a_iload_n (pc := 5) (i := 1) dJ3_checkIndex_8e157_5 rfl rfl ?_
  refine n_icmp_lt (pc := 6) (tgt := 16) dJ3_checkIndex_8e157_6 (by decide) (by omega) (by omega) (fun c6 => ?_) (fun c6 => ?_)
  · skip
    refine a_iload_n (pc := 16) (i := 0) dJ3_checkIndex_8e157_16 rfl rfl ?_
    exact a_ireturn (pc := 17) dJ3_checkIndex_8e157_17 rfl rfl (⟨rfl, rfl⟩)
  · exact absurd c6 (by omega)
set_option maxHeartbeats 1500000 in
set_option maxRecDepth 100000 in
theorem sp_chk1 {d j n : Nat} {h : AH} (hj : j < n) (hn : n < 2 ^ 31) : AC mJ3_checkIndex_8e157 d 0 0 [.int (nI j), .int (nI n), .ref 1020] h (Qe (some (.int (nI j))) h) := by
  refine AC.of (by decide) rfl (Nat.le_of_ble_eq_true rfl) (fun X => ?_)
  show AW X mJ3_checkIndex_8e157 d 0 0 0 [(0, .int (nI j)), (1, .int (nI n)), (2, .ref 1020)] [] h (Qe (some (.int (nI j))) h)
  refine a_iload_n (pc := 0) (i := 0) dJ3_checkIndex_8e157_0 rfl rfl ?_
  refine n_if_lt (pc := 1) (tgt := 9) dJ3_checkIndex_8e157_1 (by decide) (by omega) ?_
  refine a_iload_n (pc := 4) (i := 0) dJ3_checkIndex_8e157_4 rfl rfl ?_
  refine a_iload_n (pc := 5) (i := 1) dJ3_checkIndex_8e157_5 rfl rfl ?_
  refine n_icmp_lt (pc := 6) (tgt := 16) dJ3_checkIndex_8e157_6 (by decide) (by omega) (by omega) (fun c6 => ?_) (fun c6 => ?_)
  · skip
    refine a_iload_n (pc := 16) (i := 0) dJ3_checkIndex_8e157_16 rfl rfl ?_
    exact a_ireturn (pc := 17) dJ3_checkIndex_8e157_17 rfl rfl (⟨rfl, rfl⟩)
  · exact absurd c6 (by omega)
set_option maxHeartbeats 1500000 in
set_option maxRecDepth 100000 in
theorem sp_schk {d j n : Nat} {h : AH} (hj : j < n) (hn : n < 2 ^ 31) : AC mJ0_checkIndex_df160 (d + 1) 0 0 [.int (nI j), .int (nI n)] h (Qe none h) := by
  refine AC.of (by decide) rfl (Nat.le_of_ble_eq_true rfl) (fun X => ?_)
  show AW X mJ0_checkIndex_df160 (d + 1) 0 0 0 [(0, .int (nI j)), (1, .int (nI n))] [] h (Qe none h)
  refine a_iload_n (pc := 0) (i := 0) dJ0_checkIndex_df160_0 rfl rfl ?_
  refine a_iload_n (pc := 1) (i := 1) dJ0_checkIndex_df160_1 rfl rfl ?_
  refine a_getSF (pc := 2) dJ0_checkIndex_df160_2 (by decide +kernel) ?_ ?_
  · skip
    refine a_vS1 (pc := 5) (as := [.int (nI j), .int (nI n), .null]) (v := .int (nI j)) (h' := h) dJ0_checkIndex_df160_5 (lc_RJ0_1059 rfl) ceJ3_checkIndex_8e157 (sp_chk0 hj hn) rfl rfl (Nat.le_of_ble_eq_true rfl) rfl ?_
    refine a_pop (pc := 8) dJ0_checkIndex_df160_8 rfl ?_
    exact a_return (pc := 9) dJ0_checkIndex_df160_9 rfl (⟨rfl, rfl⟩)
  · skip
    refine a_vS1 (pc := 5) (as := [.int (nI j), .int (nI n), .ref 1020]) (v := .int (nI j)) (h' := h) dJ0_checkIndex_df160_5 (lc_RJ0_1059 rfl) ceJ3_checkIndex_8e157 (sp_chk1 hj hn) rfl rfl (Nat.le_of_ble_eq_true rfl) rfl ?_
    refine a_pop (pc := 8) dJ0_checkIndex_df160_8 rfl ?_
    exact a_return (pc := 9) dJ0_checkIndex_df160_9 rfl (⟨rfl, rfl⟩)
theorem zC_i2c {i j : Nat} (hi : i < 14) (hj : j < zLen.getD i 0) : ((zC i j &&& nI 255).toUInt32 % 65536).toInt32 = zC i j := by
  have h : ∀ i : Fin 14, ∀ j : Fin 8, j.val < zLen.getD i.val 0 → ((zC i.val j.val &&& nI 255).toUInt32 % 65536).toInt32 = zC i.val j.val := by decide +kernel
  exact h ⟨i, hi⟩ ⟨j, by have := (zL hi).1; omega⟩ hj
theorem zC_nc {i j : Nat} (hi : i < 14) (hj : j < zLen.getD i 0) : narrow .char (.int (zC i j)) = .int (zC i j) := by
  have h : ∀ i : Fin 14, ∀ j : Fin 8, j.val < zLen.getD i.val 0 → narrow .char (.int (zC i.val j.val)) = .int (zC i.val j.val) := by decide +kernel
  exact h ⟨i, hi⟩ ⟨j, by have := (zL hi).1; omega⟩ hj
set_option maxHeartbeats 1500000 in
set_option maxRecDepth 100000 in
theorem sp_lcharAt {d i j : Nat} {h : AH} (hi : i < 14) (hj : j < zLen.getD i 0) : AC mJ1_charAt_3b067 (d + 2) 0 0 [.ref (1041 + i), .int (nI j)] h (Qe (some (.int (zC i j))) h) := by
  refine AC.of (by decide) rfl (Nat.le_of_ble_eq_true rfl) (fun X => ?_)
  show AW X mJ1_charAt_3b067 (d + 2) 0 0 0 [(0, .ref (1041 + i)), (1, .int (nI j))] [] h (Qe (some (.int (zC i j))) h)
  refine a_iload_n (pc := 0) (i := 1) dJ1_charAt_3b067_0 rfl rfl ?_
  refine a_aload_n (pc := 1) (i := 0) dJ1_charAt_3b067_1 rfl rfl ?_
  refine a_strL (pc := 2) (i := i) dJ1_charAt_3b067_2 (by assumption) ?_
  refine a_vS0 (pc := 3) (as := [.int (nI j), .int (nI (zLen.getD i 0))]) (h' := h) dJ1_charAt_3b067_3 (lc_RJ1_9 rfl) ceJ0_checkIndex_df160 (sp_schk hj (Nat.lt_trans (zL hi).1 (by decide))) rfl rfl (Nat.le_of_ble_eq_true rfl) rfl ?_
  refine a_aload_n (pc := 6) (i := 0) dJ1_charAt_3b067_6 rfl rfl ?_
  refine a_iload_n (pc := 7) (i := 1) dJ1_charAt_3b067_7 rfl rfl ?_
  refine a_strB (pc := 8) dJ1_charAt_3b067_8 hi hj (Nat.lt_trans (zL hi).1 (by decide)) ?_
  refine a_top (show (.int ((zByt.getD i []).getD j 0) : Value) = .int (zC i j) from rfl) ?_
  refine a_sipush (pc := 9) (v := nI 255) dJ1_charAt_3b067_9 (by decide) ?_
  refine a_iand (pc := 12) dJ1_charAt_3b067_12 ?_
  refine a_i2c (pc := 13) dJ1_charAt_3b067_13 ?_
  refine a_top (show (.int ((((zC i j) &&& (nI 255)).toUInt32 % 65536).toInt32) : Value) = .int (zC i j) from congrArg Value.int (zC_i2c hi hj)) ?_
  exact a_ireturn (pc := 14) dJ1_charAt_3b067_14 rfl (zC_nc hi hj) (⟨rfl, rfl⟩)
set_option maxHeartbeats 1500000 in
set_option maxRecDepth 100000 in
theorem sp_charAt {d i j : Nat} {h : AH} (hi : i < 14) (hj : j < zLen.getD i 0) : AC mJ0_charAt_5068e (d + 3) 0 0 [.ref (1001 + i), .int (nI j)] h (Qe (some (.int (zC i j))) h) := by
  refine AC.of (by decide) rfl (Nat.le_of_ble_eq_true rfl) (fun X => ?_)
  show AW X mJ0_charAt_5068e (d + 3) 0 0 0 [(0, .ref (1001 + i)), (1, .int (nI j))] [] h (Qe (some (.int (zC i j))) h)
  refine a_aload_n (pc := 0) (i := 0) dJ0_charAt_5068e_0 rfl rfl ?_
  refine a_vStr (pc := 1) (i := i) (as := []) (v := .int (nI 1)) (h' := h) dJ0_charAt_5068e_1 (lc_RJ0_492 rfl) ceJ0_isLatin1_aae02 (by assumption) (sp_isLatin1 hi) rfl rfl (Nat.le_of_ble_eq_true rfl) rfl ?_
  refine n_if_eq (pc := 4) (tgt := 16) dJ0_charAt_5068e_4 (by decide) (by omega) (fun c4 => ?_) (fun c4 => ?_)
  · exact absurd c4 (by decide)
  · skip
    refine a_aload_n (pc := 7) (i := 0) dJ0_charAt_5068e_7 rfl rfl ?_
    refine a_strV (pc := 8) (i := i) dJ0_charAt_5068e_8 (by decide +kernel) (by assumption) ?_
    refine a_iload_n (pc := 11) (i := 1) dJ0_charAt_5068e_11 rfl rfl ?_
    refine a_vS1 (pc := 12) (as := [.ref (1041 + i), .int (nI j)]) (v := .int (zC i j)) (h' := h) dJ0_charAt_5068e_12 (lc_RJ0_495 rfl) ceJ1_charAt_3b067 (sp_lcharAt hi hj) rfl rfl (Nat.le_of_ble_eq_true rfl) rfl ?_
    exact a_ireturn (pc := 15) dJ0_charAt_5068e_15 rfl (zC_nc hi hj) (⟨rfl, rfl⟩)
/-- the text has the word i from a up to b -/
def wd (i : Nat) (Y : Nat → Int32) (a b : Nat) : Prop := b = a + zLen.getD i 0 ∧ ∀ j, j < zLen.getD i 0 → Y (a + j) = zC i j
set_option maxHeartbeats 1500000 in
set_option maxRecDepth 100000 in
theorem sp_isWord {d i a b n : Nat} {h : AH} {Y : Nat → Int32} (x : TX h n Y) (hi : i < 14) (hb : hI h 7 3 = nI b) (hab : a ≤ b) (hbn : b ≤ n) : AC mX2_isWord (d + 4) 0 0 [.ref 7, .int (nI a), .ref (1001 + i)] h (Qe (some (.int (bi (wd i Y a b)))) h) := by
  refine AC.of (by decide) rfl (Nat.le_of_ble_eq_true rfl) (fun X => ?_)
  show AW X mX2_isWord (d + 4) 0 0 0 [(0, .ref 7), (1, .int (nI a)), (2, .ref (1001 + i))] [] h (Qe (some (.int (bi (wd i Y a b)))) h)
  have hn := x.1.1
  have hn4 := x.2.1
  have hz := zL hi
  refine a_iload_n (pc := 0) (i := 1) dX2_isWord_0 rfl rfl ?_
  refine n_if_lt (pc := 1) (tgt := 17) dX2_isWord_1 (by decide) (by omega) ?_
  refine a_aload_n (pc := 4) (i := 0) dX2_isWord_4 rfl rfl ?_
  refine a_getI (pc := 5) (ci := 2) (k := 3) dX2_isWord_5 (lf_RX2_44 rfl) (by decide) rfl rfl (lt90 hn (shK_lt (show shK 7 = _ from rfl))) ?_
  refine a_top (show (.int (hI h 7 3) : Value) = .int (nI b) from congrArg Value.int hb) ?_
  refine a_iload_n (pc := 8) (i := 1) dX2_isWord_8 rfl rfl ?_
  refine n_isub (pc := 9) dX2_isWord_9 (by omega) ?_
  refine a_aload_n (pc := 10) (i := 2) dX2_isWord_10 rfl rfl ?_
  refine a_vStr (pc := 11) (i := i) (as := []) (v := .int (nI (zLen.getD i 0))) (h' := h) dX2_isWord_11 (lc_RX2_136 rfl) ceJ0_length_8abf5 (by assumption) (sp_strlen hi) rfl rfl (Nat.le_of_ble_eq_true rfl) rfl ?_
  refine n_icmp_eq (pc := 14) (tgt := 19) dX2_isWord_14 (by decide) (by omega) (by omega) (fun c14 => ?_) (fun c14 => ?_)
  · have hbb : b = a + zLen.getD i 0 := by omega
    have LP : ∀ (fu : Nat) (j : Nat), j ≤ zLen.getD i 0 → (∀ k, k < j → Y (a + k) = zC i k) → zLen.getD i 0 - j < fu → AW X mX2_isWord (d + 4) 0 0 21 [(0, .ref 7), (1, .int (nI a)), (2, .ref (1001 + i)), (3, .int (nI j))] [] h (Qe (some (.int (bi (wd i Y a b)))) h) := by
      intro fu
      induction fu with
      | zero => intro j hj hy hz; exact absurd hz (Nat.not_lt_zero _)
      | succ fu ih =>
        intro j hj hy hz
        refine a_iload_n (pc := 21) (i := 3) dX2_isWord_21 rfl rfl ?_
        refine a_aload_n (pc := 22) (i := 2) dX2_isWord_22 rfl rfl ?_
        refine a_vStr (pc := 23) (i := i) (as := []) (v := .int (nI (zLen.getD i 0))) (h' := h) dX2_isWord_23 (lc_RX2_136 rfl) ceJ0_length_8abf5 (by assumption) (sp_strlen hi) rfl rfl (Nat.le_of_ble_eq_true rfl) rfl ?_
        refine n_icmp_ge (pc := 26) (tgt := 63) dX2_isWord_26 (by decide) (by omega) (by omega) (fun c26 => ?_) (fun c26 => ?_)
        · have e : wd i Y a b := ⟨hbb, fun k hk => hy k (by omega)⟩
          refine a_iconst (pc := 63) (v := nI 1) dX2_isWord_63 (by decide) ?_
          exact a_ireturn (pc := 64) dX2_isWord_64 rfl rfl (⟨by rw [bi_t e]; rfl, rfl⟩)
        · skip
          refine a_iload_n (pc := 29) (i := 1) dX2_isWord_29 rfl rfl ?_
          refine a_iload_n (pc := 30) (i := 3) dX2_isWord_30 rfl rfl ?_
          refine n_iadd (pc := 31) dX2_isWord_31 ?_
          refine a_aload_n (pc := 32) (i := 0) dX2_isWord_32 rfl rfl ?_
          refine a_getI (pc := 33) (ci := 2) (k := 2) dX2_isWord_33 (lf_RX2_35 rfl) (by decide) rfl rfl (lt90 hn (shK_lt (show shK 7 = _ from rfl))) ?_
          refine a_top (show (.int (hI h 7 2) : Value) = .int (nI n) from congrArg Value.int x.2.2.1) ?_
          refine n_icmp_ge (pc := 36) (tgt := 63) dX2_isWord_36 (by decide) (by omega) (by omega) (fun c36 => ?_) (fun c36 => ?_)
          · exact absurd c36 (by omega)
          · skip
            refine a_aload_n (pc := 39) (i := 0) dX2_isWord_39 rfl rfl ?_
            refine a_getR (pc := 40) (ci := 2) (k := 1) (b := 12) dX2_isWord_40 (lf_RX2_18 rfl) (by decide) rfl rfl (lt90 hn (shK_lt (show shK 7 = _ from rfl))) x.1.2.2.2.1.2 ?_
            refine a_iload_n (pc := 43) (i := 1) dX2_isWord_43 rfl rfl ?_
            refine a_iload_n (pc := 44) (i := 3) dX2_isWord_44 rfl rfl ?_
            refine n_iadd (pc := 45) dX2_isWord_45 ?_
            refine a_bald (pc := 46) (j := (a + j)) dX2_isWord_46 rfl (lt90 hn (shK_lt (show shK 12 = _ from rfl))) rfl (by omega) ?_
            refine a_top (show (.int (hI h 12 (a + j)) : Value) = .int (Y (a + j)) from congrArg Value.int (x.2.2.2 (a + j) (by omega))) ?_
            refine a_aload_n (pc := 47) (i := 2) dX2_isWord_47 rfl rfl ?_
            refine a_iload_n (pc := 48) (i := 3) dX2_isWord_48 rfl rfl ?_
            refine a_vStr (pc := 49) (i := i) (as := [.int (nI j)]) (v := .int (zC i j)) (h' := h) dX2_isWord_49 (lc_RX2_141 rfl) ceJ0_charAt_5068e (by assumption) (sp_charAt hi c26) rfl rfl (Nat.le_of_ble_eq_true rfl) rfl ?_
            refine a_icmp_eq (pc := 52) (tgt := 57) dX2_isWord_52 (by decide) (fun c52 => ?_) (fun c52 => ?_)
            · skip
              refine n_iinc (pc := 57) (k := 1) (ls' := [(0, .ref 7), (1, .int (nI a)), (2, .ref (1001 + i)), (3, .int (nI (j + 1)))]) dX2_isWord_57 rfl (by decide) (by decide) rfl ?_
              refine a_goto (pc := 60) (tgt := 21) dX2_isWord_60 (by decide) ?_
              exact ih (j + 1) (by omega) (fun k hk => by rcases (by omega : k < j ∨ k = j) with z | z; exact hy k z; rw [z]; exact c52) (by omega)
            · have e : ¬ wd i Y a b := fun z => c52 (z.2 j c26)
              refine a_iconst (pc := 55) (v := nI 0) dX2_isWord_55 (by decide) ?_
              exact a_ireturn (pc := 56) dX2_isWord_56 rfl rfl (⟨by rw [bi_f e]; rfl, rfl⟩)
    refine a_iconst (pc := 19) (v := nI 0) dX2_isWord_19 (by decide) ?_
    refine a_istore_n (pc := 20) (i := 3) (ls' := [(0, .ref 7), (1, .int (nI a)), (2, .ref (1001 + i)), (3, .int (nI 0))]) dX2_isWord_20 rfl (by decide) rfl ?_
    exact LP (zLen.getD i 0 + 1) 0 (by omega) (fun k hk => absurd hk (by omega)) (by omega)
  · have e : ¬ wd i Y a b := fun z => by have := z.1; omega
    refine a_iconst (pc := 17) (v := nI 0) dX2_isWord_17 (by decide) ?_
    exact a_ireturn (pc := 18) dX2_isWord_18 rfl rfl (⟨by rw [bi_f e]; rfl, rfl⟩)
