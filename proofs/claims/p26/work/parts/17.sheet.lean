/-! the class Sheet: reads -/
set_option maxHeartbeats 4000000 in
set_option maxRecDepth 100000 in
theorem sp_countCells {d : Nat} {h : AH} {s : SH} (c : CB h) (g : GS s) (r : CR h 2 s) : AC mX3_countCells (d + 1) 0 0 [.ref 2] h (Qe (some (.int (nI (sCells s)))) h) := by
  have hn := c.1
  have gw := g.1
  have gh := g.2.1
  have gs := g.2.2.1
  have gl := g.2.2.2.2.2.1
  refine AC.of (by decide) rfl (Nat.le_of_ble_eq_true rfl) (fun X => ?_)
  show AW X mX3_countCells (d + 1) 0 0 0 [(0, .ref 2)] [] h (Qe (some (.int (nI (sCells s)))) h)
  refine a_aload_n (pc := 0) (i := 0) dX3_countCells_0 rfl rfl ?_
  refine a_getI (pc := 1) (ci := 3) (k := 0) dX3_countCells_1 (lf_RX3_25 rfl) (by decide) rfl rfl (lt90 hn (shK_lt (show shK 2 = _ from rfl))) ?_
  refine a_top (show (.int (hI h 2 0) : Value) = .int (nI (sW s)) from congrArg Value.int r.1.1) ?_
  refine a_aload_n (pc := 4) (i := 0) dX3_countCells_4 rfl rfl ?_
  refine a_getI (pc := 5) (ci := 3) (k := 1) dX3_countCells_5 (lf_RX3_29 rfl) (by decide) rfl rfl (lt90 hn (shK_lt (show shK 2 = _ from rfl))) ?_
  refine a_top (show (.int (hI h 2 1) : Value) = .int (nI (sH s)) from congrArg Value.int r.1.2.1) ?_
  refine n_imul (pc := 8) dX3_countCells_8 ?_
  exact a_ireturn (pc := 9) dX3_countCells_9 rfl rfl (⟨rfl, rfl⟩)
set_option maxHeartbeats 4000000 in
set_option maxRecDepth 100000 in
theorem sp_hasPlace {d : Nat} {h : AH} {s : SH} (c : CB h) (g : GS s) (r : CR h 2 s) {x y : Int32} : AC mX3_hasPlace (d + 2) 0 0 [.ref 2, .int x, .int y] h (Qe (some (.int (bi ((x = 0 ∨ x = 1) ∧ ∃ n, n < sCells s ∧ y = nI n)))) h) := by
  have hn := c.1
  have gw := g.1
  have gh := g.2.1
  have gs := g.2.2.1
  have gl := g.2.2.2.2.2.1
  refine AC.of (by decide) rfl (Nat.le_of_ble_eq_true rfl) (fun X => ?_)
  show AW X mX3_hasPlace (d + 2) 0 0 0 [(0, .ref 2), (1, .int x), (2, .int y)] [] h (Qe (some (.int (bi ((x = 0 ∨ x = 1) ∧ ∃ n, n < sCells s ∧ y = nI n)))) h)
  have hcl : sCells s ≤ 48 := Nat.mul_le_mul gw.2 gh.2
  refine a_iload_n (pc := 0) (i := 1) dX3_hasPlace_0 rfl rfl ?_
  refine a_if_eq (pc := 1) (tgt := 9) dX3_hasPlace_1 (by decide) (fun c1 => ?_) (fun c1 => ?_)
  · skip
    refine a_iload_n (pc := 9) (i := 2) dX3_hasPlace_9 rfl rfl ?_
    refine a_if_lt (pc := 10) (tgt := 25) dX3_hasPlace_10 (by decide) (fun c10 => ?_) (fun c10 => ?_)
    · have hy : ¬ ∃ n, n < sCells s ∧ y = nI n := fun ⟨n, q1, q2⟩ => nI_pos (by omega) (q2 ▸ c10)
      refine a_iconst (pc := 25) (v := nI 0) dX3_hasPlace_25 (by decide) ?_
      exact a_ireturn (pc := 26) dX3_hasPlace_26 rfl rfl (⟨by rw [bi_f (fun z => hy z.2)]; rfl, rfl⟩)
    · obtain ⟨n, hn2, rfl⟩ := nI_of c10
      refine a_iload_n (pc := 13) (i := 2) dX3_hasPlace_13 rfl rfl ?_
      refine a_aload_n (pc := 14) (i := 0) dX3_hasPlace_14 rfl rfl ?_
      refine a_vV1 (pc := 15) (as := []) (b := 2) (ci := 3) (v := .int (nI (sCells s))) (h' := h) dX3_hasPlace_15 (lc_RX3_60 rfl) ceX3_countCells rfl (lt90 hn (shK_lt (show shK 2 = _ from rfl))) (sp_countCells c g r) rfl rfl (Nat.le_of_ble_eq_true rfl) rfl ?_
      refine n_icmp_ge (pc := 18) (tgt := 25) dX3_hasPlace_18 (by decide) (by omega) (by omega) (fun c18 => ?_) (fun c18 => ?_)
      · skip
        refine a_iconst (pc := 25) (v := nI 0) dX3_hasPlace_25 (by decide) ?_
        exact a_ireturn (pc := 26) dX3_hasPlace_26 rfl rfl (⟨by rw [bi_f (fun z => by obtain ⟨-, m, q1, q2⟩ := z; have := (nI_eq (by omega) (by omega)).mp q2; omega)]; rfl, rfl⟩)
      · skip
        refine a_iconst (pc := 21) (v := nI 1) dX3_hasPlace_21 (by decide) ?_
        refine a_goto (pc := 22) (tgt := 26) dX3_hasPlace_22 (by decide) ?_
        exact a_ireturn (pc := 26) dX3_hasPlace_26 rfl rfl (⟨by rw [bi_t ⟨Or.inl c1, n, c18, rfl⟩]; rfl, rfl⟩)
  · skip
    refine a_iload_n (pc := 4) (i := 1) dX3_hasPlace_4 rfl rfl ?_
    refine a_iconst (pc := 5) (v := nI 1) dX3_hasPlace_5 (by decide) ?_
    refine a_icmp_ne (pc := 6) (tgt := 25) dX3_hasPlace_6 (by decide) (fun c6 => ?_) (fun c6 => ?_)
    · skip
      refine a_iconst (pc := 25) (v := nI 0) dX3_hasPlace_25 (by decide) ?_
      exact a_ireturn (pc := 26) dX3_hasPlace_26 rfl rfl (⟨by rw [bi_f (fun z => z.1.elim c1 c6)]; rfl, rfl⟩)
    · skip
      refine a_iload_n (pc := 9) (i := 2) dX3_hasPlace_9 rfl rfl ?_
      refine a_if_lt (pc := 10) (tgt := 25) dX3_hasPlace_10 (by decide) (fun c10 => ?_) (fun c10 => ?_)
      · have hy : ¬ ∃ n, n < sCells s ∧ y = nI n := fun ⟨n, q1, q2⟩ => nI_pos (by omega) (q2 ▸ c10)
        refine a_iconst (pc := 25) (v := nI 0) dX3_hasPlace_25 (by decide) ?_
        exact a_ireturn (pc := 26) dX3_hasPlace_26 rfl rfl (⟨by rw [bi_f (fun z => hy z.2)]; rfl, rfl⟩)
      · obtain ⟨n, hn2, rfl⟩ := nI_of c10
        refine a_iload_n (pc := 13) (i := 2) dX3_hasPlace_13 rfl rfl ?_
        refine a_aload_n (pc := 14) (i := 0) dX3_hasPlace_14 rfl rfl ?_
        refine a_vV1 (pc := 15) (as := []) (b := 2) (ci := 3) (v := .int (nI (sCells s))) (h' := h) dX3_hasPlace_15 (lc_RX3_60 rfl) ceX3_countCells rfl (lt90 hn (shK_lt (show shK 2 = _ from rfl))) (sp_countCells c g r) rfl rfl (Nat.le_of_ble_eq_true rfl) rfl ?_
        refine n_icmp_ge (pc := 18) (tgt := 25) dX3_hasPlace_18 (by decide) (by omega) (by omega) (fun c18 => ?_) (fun c18 => ?_)
        · skip
          refine a_iconst (pc := 25) (v := nI 0) dX3_hasPlace_25 (by decide) ?_
          exact a_ireturn (pc := 26) dX3_hasPlace_26 rfl rfl (⟨by rw [bi_f (fun z => by obtain ⟨-, m, q1, q2⟩ := z; have := (nI_eq (by omega) (by omega)).mp q2; omega)]; rfl, rfl⟩)
        · skip
          refine a_iconst (pc := 21) (v := nI 1) dX3_hasPlace_21 (by decide) ?_
          refine a_goto (pc := 22) (tgt := 26) dX3_hasPlace_22 (by decide) ?_
          exact a_ireturn (pc := 26) dX3_hasPlace_26 rfl rfl (⟨by rw [bi_t ⟨Or.inr c6, n, c18, rfl⟩]; rfl, rfl⟩)
set_option maxHeartbeats 4000000 in
set_option maxRecDepth 100000 in
theorem sp_hasSpot {d : Nat} {h : AH} {s : SH} (c : CB h) (g : GS s) (r : CR h 2 s) {q : Nat} (hq : q < 96) : AC mX3_hasSpot (d + 2) 0 0 [.ref 2, .int (nI q)] h (Qe (some (.int (bi (qhas s q)))) h) := by
  have hn := c.1
  have gw := g.1
  have gh := g.2.1
  have gs := g.2.2.1
  have gl := g.2.2.2.2.2.1
  refine AC.of (by decide) rfl (Nat.le_of_ble_eq_true rfl) (fun X => ?_)
  show AW X mX3_hasSpot (d + 2) 0 0 0 [(0, .ref 2), (1, .int (nI q))] [] h (Qe (some (.int (bi (qhas s q)))) h)
  refine a_iload_n (pc := 0) (i := 1) dX3_hasSpot_0 rfl rfl ?_
  refine n_if_lt (pc := 1) (tgt := 36) dX3_hasSpot_1 (by decide) (by omega) ?_
  refine a_iload_n (pc := 4) (i := 1) dX3_hasSpot_4 rfl rfl ?_
  refine a_bipush (pc := 5) (v := nI 96) dX3_hasSpot_5 (by decide) ?_
  refine n_icmp_ge (pc := 7) (tgt := 36) dX3_hasSpot_7 (by decide) (by omega) (by omega) (fun c7 => ?_) (fun c7 => ?_)
  · exact absurd hq (by omega)
  · skip
    refine a_iload_n (pc := 10) (i := 1) dX3_hasSpot_10 rfl rfl ?_
    refine a_vSN1 (pc := 11) (as := [.int (nI q)]) (v := .int (nI (q % 48 / 8))) (h' := h) dX3_hasSpot_11 (lc_RX3_64 rfl) ceX4_rowOf (sp_rowOf (by omega)) rfl rfl (Nat.le_of_ble_eq_true rfl) rfl ?_
    refine a_aload_n (pc := 14) (i := 0) dX3_hasSpot_14 rfl rfl ?_
    refine a_getI (pc := 15) (ci := 3) (k := 1) dX3_hasSpot_15 (lf_RX3_29 rfl) (by decide) rfl rfl (lt90 hn (shK_lt (show shK 2 = _ from rfl))) ?_
    refine a_top (show (.int (hI h 2 1) : Value) = .int (nI (sH s)) from congrArg Value.int r.1.2.1) ?_
    refine n_icmp_ge (pc := 18) (tgt := 36) dX3_hasSpot_18 (by decide) (by omega) (by omega) (fun c18 => ?_) (fun c18 => ?_)
    · skip
      refine a_iconst (pc := 36) (v := nI 0) dX3_hasSpot_36 (by decide) ?_
      exact a_ireturn (pc := 37) dX3_hasSpot_37 rfl rfl (⟨by rw [bi_f (fun z => absurd z.1 (by omega))]; rfl, rfl⟩)
    · skip
      refine a_iload_n (pc := 21) (i := 1) dX3_hasSpot_21 rfl rfl ?_
      refine a_vSN1 (pc := 22) (as := [.int (nI q)]) (v := .int (nI (q % 8))) (h' := h) dX3_hasSpot_22 (lc_RX3_68 rfl) ceX4_columnOf (sp_columnOf (by omega)) rfl rfl (Nat.le_of_ble_eq_true rfl) rfl ?_
      refine a_aload_n (pc := 25) (i := 0) dX3_hasSpot_25 rfl rfl ?_
      refine a_getI (pc := 26) (ci := 3) (k := 0) dX3_hasSpot_26 (lf_RX3_25 rfl) (by decide) rfl rfl (lt90 hn (shK_lt (show shK 2 = _ from rfl))) ?_
      refine a_top (show (.int (hI h 2 0) : Value) = .int (nI (sW s)) from congrArg Value.int r.1.1) ?_
      refine n_icmp_ge (pc := 29) (tgt := 36) dX3_hasSpot_29 (by decide) (by omega) (by omega) (fun c29 => ?_) (fun c29 => ?_)
      · skip
        refine a_iconst (pc := 36) (v := nI 0) dX3_hasSpot_36 (by decide) ?_
        exact a_ireturn (pc := 37) dX3_hasSpot_37 rfl rfl (⟨by rw [bi_f (fun z => absurd z.2 (by omega))]; rfl, rfl⟩)
      · skip
        refine a_iconst (pc := 32) (v := nI 1) dX3_hasSpot_32 (by decide) ?_
        refine a_goto (pc := 33) (tgt := 37) dX3_hasSpot_33 (by decide) ?_
        exact a_ireturn (pc := 37) dX3_hasSpot_37 rfl rfl (⟨by rw [bi_t ⟨c18, c29⟩]; rfl, rfl⟩)
set_option maxHeartbeats 4000000 in
set_option maxRecDepth 100000 in
theorem sp_spotOf {d : Nat} {h : AH} {s : SH} (c : CB h) (g : GS s) (r : CR h 2 s) {x p : Nat} (hx : x < 2) (hp : p < sCells s) : AC mX3_spotOf (d + 2) 0 0 [.ref 2, .int (nI x), .int (nI p)] h (Qe (some (.int (nI (48 * x + 8 * (p / sW s) + p % sW s)))) h) := by
  have hn := c.1
  have gw := g.1
  have gh := g.2.1
  have gs := g.2.2.1
  have gl := g.2.2.2.2.2.1
  refine AC.of (by decide) rfl (Nat.le_of_ble_eq_true rfl) (fun X => ?_)
  show AW X mX3_spotOf (d + 2) 0 0 0 [(0, .ref 2), (1, .int (nI x)), (2, .int (nI p))] [] h (Qe (some (.int (nI (48 * x + 8 * (p / sW s) + p % sW s)))) h)
  have hp2 : p < 48 := Nat.lt_of_lt_of_le hp (Nat.mul_le_mul gw.2 gh.2)
  have hpd : sW s * (p / sW s) + p % sW s = p := Nat.div_add_mod p (sW s)
  have hpw : p / sW s * sW s = sW s * (p / sW s) := Nat.mul_comm _ _
  refine a_aload_n (pc := 0) (i := 0) dX3_spotOf_0 rfl rfl ?_
  refine a_getI (pc := 1) (ci := 3) (k := 0) dX3_spotOf_1 (lf_RX3_25 rfl) (by decide) rfl rfl (lt90 hn (shK_lt (show shK 2 = _ from rfl))) ?_
  refine a_top (show (.int (hI h 2 0) : Value) = .int (nI (sW s)) from congrArg Value.int r.1.1) ?_
  refine n_if_le (pc := 4) (tgt := 16) dX3_spotOf_4 (by decide) (by omega) (fun c4 => ?_) (fun c4 => ?_)
  · exact absurd c4 (by omega)
  · skip
    refine a_iload_n (pc := 7) (i := 2) dX3_spotOf_7 rfl rfl ?_
    refine a_aload_n (pc := 8) (i := 0) dX3_spotOf_8 rfl rfl ?_
    refine a_getI (pc := 9) (ci := 3) (k := 0) dX3_spotOf_9 (lf_RX3_25 rfl) (by decide) rfl rfl (lt90 hn (shK_lt (show shK 2 = _ from rfl))) ?_
    refine a_top (show (.int (hI h 2 0) : Value) = .int (nI (sW s)) from congrArg Value.int r.1.1) ?_
    refine n_idiv (pc := 12) dX3_spotOf_12 (by omega) (by omega) (by omega) ?_
    refine a_goto (pc := 13) (tgt := 17) dX3_spotOf_13 (by decide) ?_
    refine a_istore_n (pc := 17) (i := 3) (ls' := [(0, .ref 2), (1, .int (nI x)), (2, .int (nI p)), (3, .int (nI (p / (sW s))))]) dX3_spotOf_17 rfl (by decide) rfl ?_
    refine a_iload_n (pc := 18) (i := 1) dX3_spotOf_18 rfl rfl ?_
    refine a_bipush (pc := 19) (v := nI 48) dX3_spotOf_19 (by decide) ?_
    refine n_imul (pc := 21) dX3_spotOf_21 ?_
    refine a_iload_n (pc := 22) (i := 3) dX3_spotOf_22 rfl rfl ?_
    refine a_bipush (pc := 23) (v := nI 8) dX3_spotOf_23 (by decide) ?_
    refine n_imul (pc := 25) dX3_spotOf_25 ?_
    refine n_iadd (pc := 26) dX3_spotOf_26 ?_
    refine a_iload_n (pc := 27) (i := 2) dX3_spotOf_27 rfl rfl ?_
    refine n_iadd (pc := 28) dX3_spotOf_28 ?_
    refine a_iload_n (pc := 29) (i := 3) dX3_spotOf_29 rfl rfl ?_
    refine a_aload_n (pc := 30) (i := 0) dX3_spotOf_30 rfl rfl ?_
    refine a_getI (pc := 31) (ci := 3) (k := 0) dX3_spotOf_31 (lf_RX3_25 rfl) (by decide) rfl rfl (lt90 hn (shK_lt (show shK 2 = _ from rfl))) ?_
    refine a_top (show (.int (hI h 2 0) : Value) = .int (nI (sW s)) from congrArg Value.int r.1.1) ?_
    refine n_imul (pc := 34) dX3_spotOf_34 ?_
    refine n_isub (pc := 35) dX3_spotOf_35 (by omega) ?_
    exact a_ireturn (pc := 36) dX3_spotOf_36 rfl rfl (⟨by rw [show x * 48 + p / sW s * 8 + p - p / sW s * sW s = 48 * x + 8 * (p / sW s) + p % sW s by omega], rfl⟩)
set_option maxHeartbeats 4000000 in
set_option maxRecDepth 100000 in
theorem sp_placeOf {d : Nat} {h : AH} {s : SH} (c : CB h) (g : GS s) (r : CR h 2 s) {q : Nat} (hq : q < 96) : AC mX3_placeOf (d + 1) 0 0 [.ref 2, .int (nI q)] h (Qe (some (.int (nI (qpl s q)))) h) := by
  have hn := c.1
  have gw := g.1
  have gh := g.2.1
  have gs := g.2.2.1
  have gl := g.2.2.2.2.2.1
  refine AC.of (by decide) rfl (Nat.le_of_ble_eq_true rfl) (fun X => ?_)
  show AW X mX3_placeOf (d + 1) 0 0 0 [(0, .ref 2), (1, .int (nI q))] [] h (Qe (some (.int (nI (qpl s q)))) h)
  refine a_iload_n (pc := 0) (i := 1) dX3_placeOf_0 rfl rfl ?_
  refine a_vSN1 (pc := 1) (as := [.int (nI q)]) (v := .int (nI (q % 48 / 8))) (h' := h) dX3_placeOf_1 (lc_RX3_64 rfl) ceX4_rowOf (sp_rowOf (by omega)) rfl rfl (Nat.le_of_ble_eq_true rfl) rfl ?_
  refine a_aload_n (pc := 4) (i := 0) dX3_placeOf_4 rfl rfl ?_
  refine a_getI (pc := 5) (ci := 3) (k := 0) dX3_placeOf_5 (lf_RX3_25 rfl) (by decide) rfl rfl (lt90 hn (shK_lt (show shK 2 = _ from rfl))) ?_
  refine a_top (show (.int (hI h 2 0) : Value) = .int (nI (sW s)) from congrArg Value.int r.1.1) ?_
  refine n_imul (pc := 8) dX3_placeOf_8 ?_
  refine a_iload_n (pc := 9) (i := 1) dX3_placeOf_9 rfl rfl ?_
  refine a_vSN1 (pc := 10) (as := [.int (nI q)]) (v := .int (nI (q % 8))) (h' := h) dX3_placeOf_10 (lc_RX3_68 rfl) ceX4_columnOf (sp_columnOf (by omega)) rfl rfl (Nat.le_of_ble_eq_true rfl) rfl ?_
  refine n_iadd (pc := 13) dX3_placeOf_13 ?_
  exact a_ireturn (pc := 14) dX3_placeOf_14 rfl rfl (⟨rfl, rfl⟩)
set_option maxHeartbeats 4000000 in
set_option maxRecDepth 100000 in
theorem sp_spotBehind {d : Nat} {h : AH} {s : SH} (c : CB h) (g : GS s) (r : CR h 2 s) {q : Nat} (hq : q < 96) (hc : q % 8 < sW s) : AC mX3_spotBehind (d + 1) 0 0 [.ref 2, .int (nI q)] h (Qe (some (.int (nI (qbh s q)))) h) := by
  have hn := c.1
  have gw := g.1
  have gh := g.2.1
  have gs := g.2.2.1
  have gl := g.2.2.2.2.2.1
  refine AC.of (by decide) rfl (Nat.le_of_ble_eq_true rfl) (fun X => ?_)
  show AW X mX3_spotBehind (d + 1) 0 0 0 [(0, .ref 2), (1, .int (nI q))] [] h (Qe (some (.int (nI (qbh s q)))) h)
  refine a_iload_n (pc := 0) (i := 1) dX3_spotBehind_0 rfl rfl ?_
  refine a_vSN1 (pc := 1) (as := [.int (nI q)]) (v := .int (nI (q / 48))) (h' := h) dX3_spotBehind_1 (lc_RX3_71 rfl) ceX4_sideOf (sp_sideOf hq) rfl rfl (Nat.le_of_ble_eq_true rfl) rfl ?_
  refine n_if_ne (pc := 4) (tgt := 14) dX3_spotBehind_4 (by decide) (by omega) (fun c4 => ?_) (fun c4 => ?_)
  · skip
    refine a_iload_n (pc := 14) (i := 1) dX3_spotBehind_14 rfl rfl ?_
    refine a_bipush (pc := 15) (v := nI 48) dX3_spotBehind_15 (by decide) ?_
    refine n_isub (pc := 17) dX3_spotBehind_17 (by omega) ?_
    refine a_istore_n (pc := 18) (i := 2) (ls' := [(0, .ref 2), (1, .int (nI q)), (2, .int (nI (q - 48)))]) dX3_spotBehind_18 rfl (by decide) rfl ?_
    refine a_iload_n (pc := 19) (i := 2) dX3_spotBehind_19 rfl rfl ?_
    refine a_iload_n (pc := 20) (i := 1) dX3_spotBehind_20 rfl rfl ?_
    refine a_vSN1 (pc := 21) (as := [.int (nI q)]) (v := .int (nI (q % 8))) (h' := h) dX3_spotBehind_21 (lc_RX3_68 rfl) ceX4_columnOf (sp_columnOf (by omega)) rfl rfl (Nat.le_of_ble_eq_true rfl) rfl ?_
    refine n_isub (pc := 24) dX3_spotBehind_24 (by omega) ?_
    refine a_aload_n (pc := 25) (i := 0) dX3_spotBehind_25 rfl rfl ?_
    refine a_getI (pc := 26) (ci := 3) (k := 0) dX3_spotBehind_26 (lf_RX3_25 rfl) (by decide) rfl rfl (lt90 hn (shK_lt (show shK 2 = _ from rfl))) ?_
    refine a_top (show (.int (hI h 2 0) : Value) = .int (nI (sW s)) from congrArg Value.int r.1.1) ?_
    refine n_iadd (pc := 29) dX3_spotBehind_29 ?_
    refine a_iconst (pc := 30) (v := nI 1) dX3_spotBehind_30 (by decide) ?_
    refine n_isub (pc := 31) dX3_spotBehind_31 (by omega) ?_
    refine a_iload_n (pc := 32) (i := 1) dX3_spotBehind_32 rfl rfl ?_
    refine a_vSN1 (pc := 33) (as := [.int (nI q)]) (v := .int (nI (q % 8))) (h' := h) dX3_spotBehind_33 (lc_RX3_68 rfl) ceX4_columnOf (sp_columnOf (by omega)) rfl rfl (Nat.le_of_ble_eq_true rfl) rfl ?_
    refine n_isub (pc := 36) dX3_spotBehind_36 (by omega) ?_
    exact a_ireturn (pc := 37) dX3_spotBehind_37 rfl rfl (⟨by rw [show qbh s q = q - 48 - q % 8 + sW s - 1 - q % 8 by unfold qbh; rw [if_neg (by omega)]; omega], rfl⟩)
  · skip
    refine a_iload_n (pc := 7) (i := 1) dX3_spotBehind_7 rfl rfl ?_
    refine a_bipush (pc := 8) (v := nI 48) dX3_spotBehind_8 (by decide) ?_
    refine n_iadd (pc := 10) dX3_spotBehind_10 ?_
    refine a_goto (pc := 11) (tgt := 18) dX3_spotBehind_11 (by decide) ?_
    refine a_istore_n (pc := 18) (i := 2) (ls' := [(0, .ref 2), (1, .int (nI q)), (2, .int (nI (q + 48)))]) dX3_spotBehind_18 rfl (by decide) rfl ?_
    refine a_iload_n (pc := 19) (i := 2) dX3_spotBehind_19 rfl rfl ?_
    refine a_iload_n (pc := 20) (i := 1) dX3_spotBehind_20 rfl rfl ?_
    refine a_vSN1 (pc := 21) (as := [.int (nI q)]) (v := .int (nI (q % 8))) (h' := h) dX3_spotBehind_21 (lc_RX3_68 rfl) ceX4_columnOf (sp_columnOf (by omega)) rfl rfl (Nat.le_of_ble_eq_true rfl) rfl ?_
    refine n_isub (pc := 24) dX3_spotBehind_24 (by omega) ?_
    refine a_aload_n (pc := 25) (i := 0) dX3_spotBehind_25 rfl rfl ?_
    refine a_getI (pc := 26) (ci := 3) (k := 0) dX3_spotBehind_26 (lf_RX3_25 rfl) (by decide) rfl rfl (lt90 hn (shK_lt (show shK 2 = _ from rfl))) ?_
    refine a_top (show (.int (hI h 2 0) : Value) = .int (nI (sW s)) from congrArg Value.int r.1.1) ?_
    refine n_iadd (pc := 29) dX3_spotBehind_29 ?_
    refine a_iconst (pc := 30) (v := nI 1) dX3_spotBehind_30 (by decide) ?_
    refine n_isub (pc := 31) dX3_spotBehind_31 (by omega) ?_
    refine a_iload_n (pc := 32) (i := 1) dX3_spotBehind_32 rfl rfl ?_
    refine a_vSN1 (pc := 33) (as := [.int (nI q)]) (v := .int (nI (q % 8))) (h' := h) dX3_spotBehind_33 (lc_RX3_68 rfl) ceX4_columnOf (sp_columnOf (by omega)) rfl rfl (Nat.le_of_ble_eq_true rfl) rfl ?_
    refine n_isub (pc := 36) dX3_spotBehind_36 (by omega) ?_
    exact a_ireturn (pc := 37) dX3_spotBehind_37 rfl rfl (⟨by rw [show qbh s q = q + 48 - q % 8 + sW s - 1 - q % 8 by unfold qbh; rw [if_pos (by omega)]; omega], rfl⟩)
set_option maxHeartbeats 4000000 in
set_option maxRecDepth 100000 in
theorem sp_cellOf {d : Nat} {h : AH} {s : SH} (c : CB h) (g : GS s) (r : CR h 2 s) {q : Nat} (hq : q < 96) (hc : q % 8 < sW s) : AC mX3_cellOf (d + 2) 0 0 [.ref 2, .int (nI q)] h (Qe (some (.int (nI (qcell s q)))) h) := by
  have hn := c.1
  have gw := g.1
  have gh := g.2.1
  have gs := g.2.2.1
  have gl := g.2.2.2.2.2.1
  refine AC.of (by decide) rfl (Nat.le_of_ble_eq_true rfl) (fun X => ?_)
  show AW X mX3_cellOf (d + 2) 0 0 0 [(0, .ref 2), (1, .int (nI q))] [] h (Qe (some (.int (nI (qcell s q)))) h)
  refine a_iload_n (pc := 0) (i := 1) dX3_cellOf_0 rfl rfl ?_
  refine a_vSN1 (pc := 1) (as := [.int (nI q)]) (v := .int (nI (q / 48))) (h' := h) dX3_cellOf_1 (lc_RX3_71 rfl) ceX4_sideOf (sp_sideOf hq) rfl rfl (Nat.le_of_ble_eq_true rfl) rfl ?_
  refine n_if_ne (pc := 4) (tgt := 11) dX3_cellOf_4 (by decide) (by omega) (fun c4 => ?_) (fun c4 => ?_)
  · skip
    refine a_aload_n (pc := 11) (i := 0) dX3_cellOf_11 rfl rfl ?_
    refine a_iload_n (pc := 12) (i := 1) dX3_cellOf_12 rfl rfl ?_
    refine a_vV1 (pc := 13) (as := [.int (nI q)]) (b := 2) (ci := 3) (v := .int (nI (qbh s q))) (h' := h) dX3_cellOf_13 (lc_RX3_74 rfl) ceX3_spotBehind rfl (lt90 hn (shK_lt (show shK 2 = _ from rfl))) (sp_spotBehind c g r hq hc) rfl rfl (Nat.le_of_ble_eq_true rfl) rfl ?_
    exact a_ireturn (pc := 16) dX3_cellOf_16 rfl rfl (⟨by rw [show qbh s q = qcell s q by unfold qbh qcell; rw [if_neg (by omega), if_neg (by omega)]; omega], rfl⟩)
  · skip
    refine a_iload_n (pc := 7) (i := 1) dX3_cellOf_7 rfl rfl ?_
    refine a_goto (pc := 8) (tgt := 16) dX3_cellOf_8 (by decide) ?_
    exact a_ireturn (pc := 16) dX3_cellOf_16 rfl rfl (⟨by rw [show qcell s q = q from if_pos (by omega)], rfl⟩)
set_option maxHeartbeats 4000000 in
set_option maxRecDepth 100000 in
theorem sp_letterAt {d : Nat} {h : AH} {s : SH} (c : CB h) (g : GS s) (r : CR h 2 s) {q : Nat} (hq : q < 96) : AC mX3_letterAt (d + 3) 0 0 [.ref 2, .int (nI q)] h (Qe (some (.int (qlt s q))) h) := by
  have hn := c.1
  have gw := g.1
  have gh := g.2.1
  have gs := g.2.2.1
  have gl := g.2.2.2.2.2.1
  refine AC.of (by decide) rfl (Nat.le_of_ble_eq_true rfl) (fun X => ?_)
  show AW X mX3_letterAt (d + 3) 0 0 0 [(0, .ref 2), (1, .int (nI q))] [] h (Qe (some (.int (qlt s q))) h)
  refine a_aload_n (pc := 0) (i := 0) dX3_letterAt_0 rfl rfl ?_
  refine a_iload_n (pc := 1) (i := 1) dX3_letterAt_1 rfl rfl ?_
  refine a_vV1 (pc := 2) (as := [.int (nI q)]) (b := 2) (ci := 3) (v := .int (bi (qhas s q))) (h' := h) dX3_letterAt_2 (lc_RX3_77 rfl) ceX3_hasSpot rfl (lt90 hn (shK_lt (show shK 2 = _ from rfl))) (sp_hasSpot c g r hq) rfl rfl (Nat.le_of_ble_eq_true rfl) rfl ?_
  refine b_if_eq (pc := 5) (tgt := 17) dX3_letterAt_5 (by decide) (fun c5 => ?_) (fun c5 => ?_)
  · skip
    refine a_iconst (pc := 17) (v := (-1)) dX3_letterAt_17 (by decide) ?_
    exact a_ireturn (pc := 18) dX3_letterAt_18 rfl rfl (⟨by rw [show qlt s q = -1 from cif_f c5], rfl⟩)
  · skip
    refine a_aload_n (pc := 8) (i := 0) dX3_letterAt_8 rfl rfl ?_
    refine a_getR (pc := 9) (ci := 3) (k := 3) (b := 3) dX3_letterAt_9 (lf_RX3_9 rfl) (by decide) rfl rfl (lt90 hn (shK_lt (show shK 2 = _ from rfl))) (c.2.2.1 2 (Or.inl rfl)).1 ?_
    refine a_iload_n (pc := 12) (i := 1) dX3_letterAt_12 rfl rfl ?_
    refine a_iald (pc := 13) (j := q) dX3_letterAt_13 rfl (lt90 hn (shK_lt (show shK 3 = _ from rfl))) rfl (by omega) ?_
    refine a_goto (pc := 14) (tgt := 18) dX3_letterAt_14 (by decide) ?_
    exact a_ireturn (pc := 18) dX3_letterAt_18 rfl rfl (⟨by rw [r.2.1 q hq c5, show qlt s q = _ from cif_t c5], rfl⟩)
set_option maxHeartbeats 4000000 in
set_option maxRecDepth 100000 in
theorem sp_sizeAt {d : Nat} {h : AH} {s : SH} (c : CB h) (g : GS s) (r : CR h 2 s) {q : Nat} (hq : q < 96) : AC mX3_sizeAt (d + 3) 0 0 [.ref 2, .int (nI q)] h (Qe (some (.int (nI (qsz s q)))) h) := by
  have hn := c.1
  have gw := g.1
  have gh := g.2.1
  have gs := g.2.2.1
  have gl := g.2.2.2.2.2.1
  refine AC.of (by decide) rfl (Nat.le_of_ble_eq_true rfl) (fun X => ?_)
  show AW X mX3_sizeAt (d + 3) 0 0 0 [(0, .ref 2), (1, .int (nI q))] [] h (Qe (some (.int (nI (qsz s q)))) h)
  refine a_aload_n (pc := 0) (i := 0) dX3_sizeAt_0 rfl rfl ?_
  refine a_iload_n (pc := 1) (i := 1) dX3_sizeAt_1 rfl rfl ?_
  refine a_vV1 (pc := 2) (as := [.int (nI q)]) (b := 2) (ci := 3) (v := .int (bi (qhas s q))) (h' := h) dX3_sizeAt_2 (lc_RX3_77 rfl) ceX3_hasSpot rfl (lt90 hn (shK_lt (show shK 2 = _ from rfl))) (sp_hasSpot c g r hq) rfl rfl (Nat.le_of_ble_eq_true rfl) rfl ?_
  refine b_if_eq (pc := 5) (tgt := 20) dX3_sizeAt_5 (by decide) (fun c5 => ?_) (fun c5 => ?_)
  · skip
    refine a_iconst (pc := 20) (v := nI 1) dX3_sizeAt_20 (by decide) ?_
    exact a_ireturn (pc := 21) dX3_sizeAt_21 rfl rfl (⟨by rw [show qsz s q = 1 from cif_f c5], rfl⟩)
  · skip
    refine a_aload_n (pc := 8) (i := 0) dX3_sizeAt_8 rfl rfl ?_
    refine a_getR (pc := 9) (ci := 3) (k := 4) (b := 4) dX3_sizeAt_9 (lf_RX3_15 rfl) (by decide) rfl rfl (lt90 hn (shK_lt (show shK 2 = _ from rfl))) (c.2.2.1 2 (Or.inl rfl)).2.1 ?_
    refine a_iload_n (pc := 12) (i := 1) dX3_sizeAt_12 rfl rfl ?_
    refine a_bipush (pc := 13) (v := nI 8) dX3_sizeAt_13 (by decide) ?_
    refine n_idiv (pc := 15) dX3_sizeAt_15 (by omega) (by omega) (by omega) ?_
    refine a_iald (pc := 16) (j := (q / 8)) dX3_sizeAt_16 rfl (lt90 hn (shK_lt (show shK 4 = _ from rfl))) rfl (by omega) ?_
    refine a_goto (pc := 17) (tgt := 21) dX3_sizeAt_17 (by decide) ?_
    exact a_ireturn (pc := 21) dX3_sizeAt_21 rfl rfl (⟨by rw [show q / 8 = 6 * (q / 48) + q % 48 / 8 by omega, r.2.2.1 (q / 48) (q % 48 / 8) (by omega) c5.1, show qsz s q = _ from cif_t c5], rfl⟩)
set_option maxHeartbeats 4000000 in
set_option maxRecDepth 100000 in
theorem sp_isThere {d : Nat} {h : AH} {s : SH} (c : CB h) (g : GS s) (r : CR h 2 s) {b : Nat} (hb : b < 64) : AC mX3_isThere (d + 1) 0 0 [.ref 2, .int (nI b)] h (Qe (some (.int (bi (¬ gnB s b)))) h) := by
  have hn := c.1
  have gw := g.1
  have gh := g.2.1
  have gs := g.2.2.1
  have gl := g.2.2.2.2.2.1
  refine AC.of (by decide) rfl (Nat.le_of_ble_eq_true rfl) (fun X => ?_)
  show AW X mX3_isThere (d + 1) 0 0 0 [(0, .ref 2), (1, .int (nI b))] [] h (Qe (some (.int (bi (¬ gnB s b)))) h)
  refine a_aload_n (pc := 0) (i := 0) dX3_isThere_0 rfl rfl ?_
  refine a_getL (pc := 1) (ci := 3) (k := 5) dX3_isThere_1 (lf_RX3_41 rfl) (by decide) rfl rfl (lt90 hn (shK_lt (show shK 2 = _ from rfl))) ?_
  refine a_top (show (.long (hL h 2 5) : Value) = .long (mkL (gnB s)) from congrArg Value.long r.1.2.2.2.1) ?_
  refine a_lconst (pc := 4) (v := 1) dX3_isThere_4 (by decide) ?_
  refine a_iload_n (pc := 5) (i := 1) dX3_isThere_5 rfl rfl ?_
  refine a_lshl (pc := 6) dX3_isThere_6 ?_
  refine a_top (show (.long (1 <<< ((nI b).toInt64 &&& 63)) : Value) = .long (mkL (fun i => i = b)) from congrArg Value.long (mkL_shl (by omega))) ?_
  refine a_land (pc := 7) dX3_isThere_7 ?_
  refine a_top (show (.long ((mkL (gnB s)) &&& (mkL (fun i => i = b))) : Value) = .long (mkL (fun i => gnB s i ∧ i = b)) from congrArg Value.long (mkL_and _ _)) ?_
  refine a_lconst (pc := 8) (v := 0) dX3_isThere_8 (by decide) ?_
  refine a_lcmp (pc := 9) dX3_isThere_9 ?_
  refine a_if_ne (pc := 10) (tgt := 17) dX3_isThere_10 (by decide) (fun c10 => ?_) (fun c10 => ?_)
  · have hc : gnB s b := Classical.byContradiction fun z => c10 ((lg_cmp_eq _ _).mpr (mkL_eq0.mpr (fun i _ q => z (q.2 ▸ q.1))))
    refine a_iconst (pc := 17) (v := nI 0) dX3_isThere_17 (by decide) ?_
    exact a_ireturn (pc := 18) dX3_isThere_18 rfl rfl (⟨by rw [bi_f (fun z => z hc)]; rfl, rfl⟩)
  · have hc : ¬ gnB s b := fun z => mkL_eq0.mp ((lg_cmp_eq _ _).mp c10) b (by omega) ⟨z, rfl⟩
    refine a_iconst (pc := 13) (v := nI 1) dX3_isThere_13 (by decide) ?_
    refine a_goto (pc := 14) (tgt := 18) dX3_isThere_14 (by decide) ?_
    exact a_ireturn (pc := 18) dX3_isThere_18 rfl rfl (⟨by rw [bi_t hc]; rfl, rfl⟩)
set_option maxHeartbeats 4000000 in
set_option maxRecDepth 100000 in
theorem sp_canUse {d : Nat} {h : AH} {s : SH} (c : CB h) (g : GS s) (r : CR h 2 s) {q : Nat} (hq : q < 96) : AC mX3_canUse (d + 4) 0 0 [.ref 2, .int (nI q)] h (Qe (some (.int (bi (qcu s q)))) h) := by
  have hn := c.1
  have gw := g.1
  have gh := g.2.1
  have gs := g.2.2.1
  have gl := g.2.2.2.2.2.1
  refine AC.of (by decide) rfl (Nat.le_of_ble_eq_true rfl) (fun X => ?_)
  show AW X mX3_canUse (d + 4) 0 0 0 [(0, .ref 2), (1, .int (nI q))] [] h (Qe (some (.int (bi (qcu s q)))) h)
  refine a_aload_n (pc := 0) (i := 0) dX3_canUse_0 rfl rfl ?_
  refine a_iload_n (pc := 1) (i := 1) dX3_canUse_1 rfl rfl ?_
  refine a_vV1 (pc := 2) (as := [.int (nI q)]) (b := 2) (ci := 3) (v := .int (qlt s q)) (h' := h) dX3_canUse_2 (lc_RX3_81 rfl) ceX3_letterAt rfl (lt90 hn (shK_lt (show shK 2 = _ from rfl))) (sp_letterAt c g r hq) rfl rfl (Nat.le_of_ble_eq_true rfl) rfl ?_
  refine a_iconst (pc := 5) (v := (-1)) dX3_canUse_5 (by decide) ?_
  refine a_icmp_eq (pc := 6) (tgt := 37) dX3_canUse_6 (by decide) (fun c6 => ?_) (fun c6 => ?_)
  · skip
    refine a_iconst (pc := 37) (v := nI 0) dX3_canUse_37 (by decide) ?_
    exact a_ireturn (pc := 38) dX3_canUse_38 rfl rfl (⟨by rw [bi_f (fun z => z.1 c6)]; rfl, rfl⟩)
  · have hh := qhas_of_lt c6
    refine a_aload_n (pc := 9) (i := 0) dX3_canUse_9 rfl rfl ?_
    refine a_aload_n (pc := 10) (i := 0) dX3_canUse_10 rfl rfl ?_
    refine a_iload_n (pc := 11) (i := 1) dX3_canUse_11 rfl rfl ?_
    refine a_vV1 (pc := 12) (as := [.int (nI q)]) (b := 2) (ci := 3) (v := .int (nI (qcell s q))) (h' := h) dX3_canUse_12 (lc_RX3_84 rfl) ceX3_cellOf rfl (lt90 hn (shK_lt (show shK 2 = _ from rfl))) (sp_cellOf c g r hq hh.2) rfl rfl (Nat.le_of_ble_eq_true rfl) rfl ?_
    refine a_vV1 (pc := 15) (as := [.int (nI (qcell s q))]) (b := 2) (ci := 3) (v := .int (bi (¬ gnB s (qcell s q)))) (h' := h) dX3_canUse_15 (lc_RX3_87 rfl) ceX3_isThere rfl (lt90 hn (shK_lt (show shK 2 = _ from rfl))) (sp_isThere c g r (qcell_lt g hq)) rfl rfl (Nat.le_of_ble_eq_true rfl) rfl ?_
    refine b_if_eq (pc := 18) (tgt := 37) dX3_canUse_18 (by decide) (fun c18 => ?_) (fun c18 => ?_)
    · skip
      refine a_iconst (pc := 37) (v := nI 0) dX3_canUse_37 (by decide) ?_
      exact a_ireturn (pc := 38) dX3_canUse_38 rfl rfl (⟨by rw [bi_f (fun z => c18 z.2.1)]; rfl, rfl⟩)
    · skip
      have hz : qsz s q < 2 ^ 31 := by rw [show qsz s q = _ from cif_t hh]; have := (g.2.2.2.2.1 (q / 48) (q % 48 / 8)).2; omega
      refine a_aload_n (pc := 21) (i := 0) dX3_canUse_21 rfl rfl ?_
      refine a_iload_n (pc := 22) (i := 1) dX3_canUse_22 rfl rfl ?_
      refine a_vV1 (pc := 23) (as := [.int (nI q)]) (b := 2) (ci := 3) (v := .int (nI (qsz s q))) (h' := h) dX3_canUse_23 (lc_RX3_90 rfl) ceX3_sizeAt rfl (lt90 hn (shK_lt (show shK 2 = _ from rfl))) (sp_sizeAt c g r hq) rfl rfl (Nat.le_of_ble_eq_true rfl) rfl ?_
      refine a_aload_n (pc := 26) (i := 0) dX3_canUse_26 rfl rfl ?_
      refine a_getI (pc := 27) (ci := 3) (k := 2) dX3_canUse_27 (lf_RX3_32 rfl) (by decide) rfl rfl (lt90 hn (shK_lt (show shK 2 = _ from rfl))) ?_
      refine a_top (show (.int (hI h 2 2) : Value) = .int (nI (sS s)) from congrArg Value.int r.1.2.2.1) ?_
      refine n_icmp_lt (pc := 30) (tgt := 37) dX3_canUse_30 (by decide) (by omega) (by omega) (fun c30 => ?_) (fun c30 => ?_)
      · skip
        refine a_iconst (pc := 37) (v := nI 0) dX3_canUse_37 (by decide) ?_
        exact a_ireturn (pc := 38) dX3_canUse_38 rfl rfl (⟨by rw [bi_f (fun z => absurd z.2.2 (by omega))]; rfl, rfl⟩)
      · skip
        refine a_iconst (pc := 33) (v := nI 1) dX3_canUse_33 (by decide) ?_
        refine a_goto (pc := 34) (tgt := 38) dX3_canUse_34 (by decide) ?_
        exact a_ireturn (pc := 38) dX3_canUse_38 rfl rfl (⟨by rw [bi_t ⟨c6, c18, c30⟩]; rfl, rfl⟩)
