/-! the law's Sheet: what it answers of places -/
set_option maxHeartbeats 1500000 in
set_option maxRecDepth 100000 in
theorem x_all {d k gg : Nat} {h : AH} {s : SH} (l : LW h k gg s) : AC mX6_all d 0 0 [.ref (aN k)] h (Qe (some (.int (nI (sCells s)))) h) := by
  obtain ⟨⟨bs, pa, pn, pb, pg⟩, ⟨f0, f1, f4, f7, f8⟩, ⟨r9, r10, r5⟩, ⟨L, Z, rL, rZ, ⟨kL, pL⟩, ⟨kZ, pZ⟩, lin, siz⟩, ⟨M, rM, sM⟩, gon⟩ := id l
  have g := bs.1
  have gw := g.1
  have gh := g.2.1
  have gs := g.2.2.1
  have bw := bs.2.1
  have bh := bs.2.2.1
  have bl := bs.2.2.2
  have c12 := cells12 bs
  refine AC.of (by decide) rfl (Nat.le_of_ble_eq_true rfl) (fun X => ?_)
  show AW X mX6_all d 0 0 0 [(0, .ref (aN k))] [] h (Qe (some (.int (nI (sCells s)))) h)
  refine a_aload_n (pc := 0) (i := 0) dX6_all_0 rfl rfl ?_
  refine g_getI (pc := 1) (ci := 6) (k := 0) dX6_all_1 (lf_RX6_7 rfl) (by decide) rfl kd_a pa ?_
  refine a_top (show (.int (hI h (aN k) 0) : Value) = .int (nI (sW s)) from congrArg Value.int f0) ?_
  refine a_aload_n (pc := 4) (i := 0) dX6_all_4 rfl rfl ?_
  refine g_getI (pc := 5) (ci := 6) (k := 1) dX6_all_5 (lf_RX6_13 rfl) (by decide) rfl kd_a pa ?_
  refine a_top (show (.int (hI h (aN k) 1) : Value) = .int (nI (sH s)) from congrArg Value.int f1) ?_
  refine n_imul (pc := 8) dX6_all_8 ?_
  refine a_top (show (.int (nI ((sW s) * (sH s))) : Value) = .int (nI (sCells s)) from rfl) ?_
  exact a_ireturn (pc := 9) dX6_all_9 rfl rfl (⟨rfl, rfl⟩)
set_option maxHeartbeats 1500000 in
set_option maxRecDepth 100000 in
theorem x_sign {d k gg : Nat} {h : AH} {s : SH} (l : LW h k gg s) {sd p : Nat} (hsd : sd < 2) (hp : p < sCells s) : AC mX6_sign (d + 4) 0 0 [.ref (aN k), .int (nI sd), .int (nI p)] h (Qe (some (.int (nI (chN (sLt s sd p))))) h) := by
  obtain ⟨⟨bs, pa, pn, pb, pg⟩, ⟨f0, f1, f4, f7, f8⟩, ⟨r9, r10, r5⟩, ⟨L, Z, rL, rZ, ⟨kL, pL⟩, ⟨kZ, pZ⟩, lin, siz⟩, ⟨M, rM, sM⟩, gon⟩ := id l
  have g := bs.1
  have gw := g.1
  have gh := g.2.1
  have gs := g.2.2.1
  have bw := bs.2.1
  have bh := bs.2.2.1
  have bl := bs.2.2.2
  have c12 := cells12 bs
  obtain ⟨p1, p2, p3⟩ := pl_ok g hp
  obtain ⟨q1, q2, q3, q4, q5⟩ := line_at g hsd hp
  have hW : 0 < sW s := by omega
  refine AC.of (by decide) rfl (Nat.le_of_ble_eq_true rfl) (fun X => ?_)
  show AW X mX6_sign (d + 4) 0 0 0 [(0, .ref (aN k)), (1, .int (nI sd)), (2, .int (nI p))] [] h (Qe (some (.int (nI (chN (sLt s sd p))))) h)
  obtain ⟨r, hr, sr⟩ := lin (sd * sH s + p / sW s) q3
  refine a_aload_n (pc := 0) (i := 0) dX6_sign_0 rfl rfl ?_
  refine g_getR (pc := 1) (ci := 6) (k := 2) (b := L) dX6_sign_1 (lf_RX6_20 rfl) (by decide) rfl kd_a pa rL ?_
  refine a_iload_n (pc := 4) (i := 1) dX6_sign_4 rfl rfl ?_
  refine a_aload_n (pc := 5) (i := 0) dX6_sign_5 rfl rfl ?_
  refine g_getI (pc := 6) (ci := 6) (k := 1) dX6_sign_6 (lf_RX6_13 rfl) (by decide) rfl kd_a pa ?_
  refine a_top (show (.int (hI h (aN k) 1) : Value) = .int (nI (sH s)) from congrArg Value.int f1) ?_
  refine n_imul (pc := 9) dX6_sign_9 ?_
  refine a_iload_n (pc := 10) (i := 2) dX6_sign_10 rfl rfl ?_
  refine a_aload_n (pc := 11) (i := 0) dX6_sign_11 rfl rfl ?_
  refine g_getI (pc := 12) (ci := 6) (k := 0) dX6_sign_12 (lf_RX6_7 rfl) (by decide) rfl kd_a pa ?_
  refine a_top (show (.int (hI h (aN k) 0) : Value) = .int (nI (sW s)) from congrArg Value.int f0) ?_
  refine n_idiv (pc := 15) dX6_sign_15 (by omega) (by omega) (by omega) ?_
  refine n_iadd (pc := 16) dX6_sign_16 ?_
  refine g_aaldo (pc := 17) (t := 6) (j := (sd * sH s + p / sW s)) (b := r) dX6_sign_17 kL (by decide) pL rfl (by omega) hr ?_
  refine a_iload_n (pc := 18) (i := 2) dX6_sign_18 rfl rfl ?_
  refine a_aload_n (pc := 19) (i := 0) dX6_sign_19 rfl rfl ?_
  refine g_getI (pc := 20) (ci := 6) (k := 0) dX6_sign_20 (lf_RX6_7 rfl) (by decide) rfl kd_a pa ?_
  refine a_top (show (.int (hI h (aN k) 0) : Value) = .int (nI (sW s)) from congrArg Value.int f0) ?_
  refine n_irem (pc := 23) dX6_sign_23 (by omega) (by omega) (by omega) ?_
  refine g_vStr1 (pc := 24) (as := [.int (nI (p % (sW s)))]) (b := r) (v := .int (nI ((lineT s (sd * sH s + p / sW s)).getD (p % sW s) 0))) (h' := h) dX6_sign_24 (lc_RX6_59 rfl) ceJ0_charAt_5068e sr.ok (s_charAt sr (q1)) rfl rfl (Nat.le_of_ble_eq_true rfl) rfl ?_
  refine a_top (show (.int (nI ((lineT s (sd * sH s + p / sW s)).getD (p % sW s) 0)) : Value) = .int (nI (chN (sLt s sd p))) from by rw [q2]) ?_
  exact a_ireturn (pc := 27) dX6_sign_27 rfl (ch8 (chN_45 g).1).2.1 (⟨rfl, rfl⟩)
set_option maxHeartbeats 1500000 in
set_option maxRecDepth 100000 in
theorem x_size {d k gg : Nat} {h : AH} {s : SH} (l : LW h k gg s) {sd p : Nat} (hsd : sd < 2) (hp : p < sCells s) : AC mX6_size d 0 0 [.ref (aN k), .int (nI sd), .int (nI p)] h (Qe (some (.int (nI (sSz s sd (p / sW s))))) h) := by
  obtain ⟨⟨bs, pa, pn, pb, pg⟩, ⟨f0, f1, f4, f7, f8⟩, ⟨r9, r10, r5⟩, ⟨L, Z, rL, rZ, ⟨kL, pL⟩, ⟨kZ, pZ⟩, lin, siz⟩, ⟨M, rM, sM⟩, gon⟩ := id l
  have g := bs.1
  have gw := g.1
  have gh := g.2.1
  have gs := g.2.2.1
  have bw := bs.2.1
  have bh := bs.2.2.1
  have bl := bs.2.2.2
  have c12 := cells12 bs
  obtain ⟨p1, p2, p3⟩ := pl_ok g hp
  obtain ⟨q1, q2, q3, q4, q5⟩ := line_at g hsd hp
  have hW : 0 < sW s := by omega
  refine AC.of (by decide) rfl (Nat.le_of_ble_eq_true rfl) (fun X => ?_)
  show AW X mX6_size d 0 0 0 [(0, .ref (aN k)), (1, .int (nI sd)), (2, .int (nI p))] [] h (Qe (some (.int (nI (sSz s sd (p / sW s))))) h)
  refine a_aload_n (pc := 0) (i := 0) dX6_size_0 rfl rfl ?_
  refine g_getR (pc := 1) (ci := 6) (k := 3) (b := Z) dX6_size_1 (lf_RX6_24 rfl) (by decide) rfl kd_a pa rZ ?_
  refine a_iload_n (pc := 4) (i := 1) dX6_size_4 rfl rfl ?_
  refine a_aload_n (pc := 5) (i := 0) dX6_size_5 rfl rfl ?_
  refine g_getI (pc := 6) (ci := 6) (k := 1) dX6_size_6 (lf_RX6_13 rfl) (by decide) rfl kd_a pa ?_
  refine a_top (show (.int (hI h (aN k) 1) : Value) = .int (nI (sH s)) from congrArg Value.int f1) ?_
  refine n_imul (pc := 9) dX6_size_9 ?_
  refine a_iload_n (pc := 10) (i := 2) dX6_size_10 rfl rfl ?_
  refine a_aload_n (pc := 11) (i := 0) dX6_size_11 rfl rfl ?_
  refine g_getI (pc := 12) (ci := 6) (k := 0) dX6_size_12 (lf_RX6_7 rfl) (by decide) rfl kd_a pa ?_
  refine a_top (show (.int (hI h (aN k) 0) : Value) = .int (nI (sW s)) from congrArg Value.int f0) ?_
  refine n_idiv (pc := 15) dX6_size_15 (by omega) (by omega) (by omega) ?_
  refine n_iadd (pc := 16) dX6_size_16 ?_
  refine g_iald (pc := 17) (j := ((sd * (sH s)) + (p / (sW s)))) dX6_size_17 kZ pZ rfl (by omega) ?_
  refine a_top (show (.int (hI h Z ((sd * (sH s)) + (p / (sW s)))) : Value) = .int (nI (sSz s sd (p / sW s))) from congrArg Value.int (by rw [siz _ q3, q4, q5])) ?_
  exact a_ireturn (pc := 18) dX6_size_18 rfl rfl (⟨rfl, rfl⟩)
set_option maxHeartbeats 1500000 in
set_option maxRecDepth 100000 in
theorem x_cell {d k gg : Nat} {h : AH} {s : SH} (l : LW h k gg s) {sd p : Nat} (hsd : sd < 2) (hp : p < sCells s) : AC mX6_cell d 0 0 [.ref (aN k), .int (nI sd), .int (nI p)] h (Qe (some (.int (nI (clN s sd p)))) h) := by
  obtain ⟨⟨bs, pa, pn, pb, pg⟩, ⟨f0, f1, f4, f7, f8⟩, ⟨r9, r10, r5⟩, ⟨L, Z, rL, rZ, ⟨kL, pL⟩, ⟨kZ, pZ⟩, lin, siz⟩, ⟨M, rM, sM⟩, gon⟩ := id l
  have g := bs.1
  have gw := g.1
  have gh := g.2.1
  have gs := g.2.2.1
  have bw := bs.2.1
  have bh := bs.2.2.1
  have bl := bs.2.2.2
  have c12 := cells12 bs
  obtain ⟨p1, p2, p3⟩ := pl_ok g hp
  obtain ⟨q1, q2, q3, q4, q5⟩ := line_at g hsd hp
  have hW : 0 < sW s := by omega
  refine AC.of (by decide) rfl (Nat.le_of_ble_eq_true rfl) (fun X => ?_)
  show AW X mX6_cell d 0 0 0 [(0, .ref (aN k)), (1, .int (nI sd)), (2, .int (nI p))] [] h (Qe (some (.int (nI (clN s sd p)))) h)
  refine a_iload_n (pc := 0) (i := 1) dX6_cell_0 rfl rfl ?_
  refine n_if_ne (pc := 1) (tgt := 6) dX6_cell_1 (by decide) (by omega) (fun c1 => ?_) (fun c1 => ?_)
  · skip
    refine a_iload_n (pc := 6) (i := 2) dX6_cell_6 rfl rfl ?_
    refine a_aload_n (pc := 7) (i := 0) dX6_cell_7 rfl rfl ?_
    refine g_getI (pc := 8) (ci := 6) (k := 0) dX6_cell_8 (lf_RX6_7 rfl) (by decide) rfl kd_a pa ?_
    refine a_top (show (.int (hI h (aN k) 0) : Value) = .int (nI (sW s)) from congrArg Value.int f0) ?_
    refine n_idiv (pc := 11) dX6_cell_11 (by omega) (by omega) (by omega) ?_
    refine a_aload_n (pc := 12) (i := 0) dX6_cell_12 rfl rfl ?_
    refine g_getI (pc := 13) (ci := 6) (k := 0) dX6_cell_13 (lf_RX6_7 rfl) (by decide) rfl kd_a pa ?_
    refine a_top (show (.int (hI h (aN k) 0) : Value) = .int (nI (sW s)) from congrArg Value.int f0) ?_
    refine n_imul (pc := 16) dX6_cell_16 ?_
    refine a_aload_n (pc := 17) (i := 0) dX6_cell_17 rfl rfl ?_
    refine g_getI (pc := 18) (ci := 6) (k := 0) dX6_cell_18 (lf_RX6_7 rfl) (by decide) rfl kd_a pa ?_
    refine a_top (show (.int (hI h (aN k) 0) : Value) = .int (nI (sW s)) from congrArg Value.int f0) ?_
    refine n_iadd (pc := 21) dX6_cell_21 ?_
    refine a_iconst (pc := 22) (v := nI 1) dX6_cell_22 (by decide) ?_
    refine n_isub (pc := 23) dX6_cell_23 (by omega) ?_
    refine a_istore_n (pc := 24) (i := 3) (ls' := [(0, .ref (aN k)), (1, .int (nI sd)), (2, .int (nI p)), (3, .int (nI ((((p / (sW s)) * (sW s)) + (sW s)) - 1)))]) dX6_cell_24 rfl (by decide) rfl ?_
    refine a_iload_n (pc := 25) (i := 3) dX6_cell_25 rfl rfl ?_
    refine a_iload_n (pc := 26) (i := 2) dX6_cell_26 rfl rfl ?_
    refine a_aload_n (pc := 27) (i := 0) dX6_cell_27 rfl rfl ?_
    refine g_getI (pc := 28) (ci := 6) (k := 0) dX6_cell_28 (lf_RX6_7 rfl) (by decide) rfl kd_a pa ?_
    refine a_top (show (.int (hI h (aN k) 0) : Value) = .int (nI (sW s)) from congrArg Value.int f0) ?_
    refine n_irem (pc := 31) dX6_cell_31 (by omega) (by omega) (by omega) ?_
    refine n_isub (pc := 32) dX6_cell_32 (by omega) ?_
    refine a_top (show (.int (nI (((((p / (sW s)) * (sW s)) + (sW s)) - 1) - (p % (sW s)))) : Value) = .int (nI (clN s sd p)) from by unfold clN; rw [if_neg (by omega)]; congr 3; omega) ?_
    exact a_ireturn (pc := 33) dX6_cell_33 rfl rfl (⟨rfl, rfl⟩)
  · skip
    refine a_iload_n (pc := 4) (i := 2) dX6_cell_4 rfl rfl ?_
    refine a_top (show (.int (nI p) : Value) = .int (nI (clN s sd p)) from by unfold clN; rw [if_pos c1]) ?_
    exact a_ireturn (pc := 5) dX6_cell_5 rfl rfl (⟨rfl, rfl⟩)
set_option maxHeartbeats 1500000 in
set_option maxRecDepth 100000 in
theorem x_canUse {d k gg : Nat} {h : AH} {s : SH} (l : LW h k gg s) {sd p : Nat} (hsd : sd < 2) (hp : p < sCells s) : AC mX6_canUse (d + 5) 0 0 [.ref (aN k), .int (nI sd), .int (nI p)] h (Qe (some (.int (bi (qcu s (pq s sd p))))) h) := by
  obtain ⟨⟨bs, pa, pn, pb, pg⟩, ⟨f0, f1, f4, f7, f8⟩, ⟨r9, r10, r5⟩, ⟨L, Z, rL, rZ, ⟨kL, pL⟩, ⟨kZ, pZ⟩, lin, siz⟩, ⟨M, rM, sM⟩, gon⟩ := id l
  have g := bs.1
  have gw := g.1
  have gh := g.2.1
  have gs := g.2.2.1
  have bw := bs.2.1
  have bh := bs.2.2.1
  have bl := bs.2.2.2
  have c12 := cells12 bs
  obtain ⟨p1, p2, p3⟩ := pl_ok g hp
  obtain ⟨q1, q2, q3, q4, q5⟩ := line_at g hsd hp
  have hW : 0 < sW s := by omega
  refine AC.of (by decide) rfl (Nat.le_of_ble_eq_true rfl) (fun X => ?_)
  show AW X mX6_canUse (d + 5) 0 0 0 [(0, .ref (aN k)), (1, .int (nI sd)), (2, .int (nI p))] [] h (Qe (some (.int (bi (qcu s (pq s sd p))))) h)
  have hq := qcu_pq g hsd hp
  obtain ⟨z1, z2⟩ := chN_45 g (sd := sd) (p := p)
  have hc := (clN_ok (sd := sd) g hp).1
  refine a_aload_n (pc := 0) (i := 0) dX6_canUse_0 rfl rfl ?_
  refine a_iload_n (pc := 1) (i := 1) dX6_canUse_1 rfl rfl ?_
  refine a_iload_n (pc := 2) (i := 2) dX6_canUse_2 rfl rfl ?_
  refine g_vV1 (pc := 3) (as := [.int (nI sd), .int (nI p)]) (b := aN k) (ci := 6) (v := .int (nI (chN (sLt s sd p)))) (h' := h) dX6_canUse_3 (lc_RX6_63 rfl) ceX6_sign kd_a pa (x_sign (d := d) l hsd hp) rfl rfl (Nat.le_of_ble_eq_true rfl) rfl ?_
  refine a_bipush (pc := 6) (v := nI 45) dX6_canUse_6 (by decide) ?_
  refine n_icmp_eq (pc := 8) (tgt := 42) dX6_canUse_8 (by decide) (by omega) (by omega) (fun c8 => ?_) (fun c8 => ?_)
  · have hn : ¬ qcu s (pq s sd p) := fun z => (hq.mp z).1 (z2.mp c8)
    refine a_iconst (pc := 42) (v := nI 0) dX6_canUse_42 (by decide) ?_
    exact a_ireturn (pc := 43) dX6_canUse_43 rfl rfl (⟨by rw [bi_f hn]; rfl, rfl⟩)
  · skip
    refine a_aload_n (pc := 11) (i := 0) dX6_canUse_11 rfl rfl ?_
    refine g_getR (pc := 12) (ci := 6) (k := 5) (b := gonN k gg s) dX6_canUse_12 (lf_RX6_31 rfl) (by decide) rfl kd_a pa r5 ?_
    refine a_aload_n (pc := 15) (i := 0) dX6_canUse_15 rfl rfl ?_
    refine a_iload_n (pc := 16) (i := 1) dX6_canUse_16 rfl rfl ?_
    refine a_iload_n (pc := 17) (i := 2) dX6_canUse_17 rfl rfl ?_
    refine g_vV1 (pc := 18) (as := [.int (nI sd), .int (nI p)]) (b := aN k) (ci := 6) (v := .int (nI (clN s sd p))) (h' := h) dX6_canUse_18 (lc_RX6_67 rfl) ceX6_cell kd_a pa (x_cell (d := d + 4) l hsd hp) rfl rfl (Nat.le_of_ble_eq_true rfl) rfl ?_
    refine g_zald (pc := 21) (j := (clN s sd p)) dX6_canUse_21 (kd_gon bs) pg rfl (by omega) ?_
    refine a_top (show (.int (hI h (gonN k gg s) (clN s sd p)) : Value) = .int (bi (sGn s (clN s sd p))) from congrArg Value.int (gon _ hc)) ?_
    refine b_if_ne (pc := 22) (tgt := 42) dX6_canUse_22 (by decide) (fun c22 => ?_) (fun c22 => ?_)
    · have hn : ¬ qcu s (pq s sd p) := fun z => (hq.mp z).2.1 c22
      refine a_iconst (pc := 42) (v := nI 0) dX6_canUse_42 (by decide) ?_
      exact a_ireturn (pc := 43) dX6_canUse_43 rfl rfl (⟨by rw [bi_f hn]; rfl, rfl⟩)
    · skip
      have hsz := g.2.2.2.2.1 sd (p / sW s)
      refine a_aload_n (pc := 25) (i := 0) dX6_canUse_25 rfl rfl ?_
      refine a_iload_n (pc := 26) (i := 1) dX6_canUse_26 rfl rfl ?_
      refine a_iload_n (pc := 27) (i := 2) dX6_canUse_27 rfl rfl ?_
      refine g_vV1 (pc := 28) (as := [.int (nI sd), .int (nI p)]) (b := aN k) (ci := 6) (v := .int (nI (sSz s sd (p / sW s)))) (h' := h) dX6_canUse_28 (lc_RX6_71 rfl) ceX6_size kd_a pa (x_size (d := d + 4) l hsd hp) rfl rfl (Nat.le_of_ble_eq_true rfl) rfl ?_
      refine a_aload_n (pc := 31) (i := 0) dX6_canUse_31 rfl rfl ?_
      refine g_getI (pc := 32) (ci := 6) (k := 4) dX6_canUse_32 (lf_RX6_28 rfl) (by decide) rfl kd_a pa ?_
      refine a_top (show (.int (hI h (aN k) 4) : Value) = .int (nI (sS s)) from congrArg Value.int f4) ?_
      refine n_icmp_lt (pc := 35) (tgt := 42) dX6_canUse_35 (by decide) (by omega) (by omega) (fun c35 => ?_) (fun c35 => ?_)
      · have hn : ¬ qcu s (pq s sd p) := fun z => by have := (hq.mp z).2.2; omega
        refine a_iconst (pc := 42) (v := nI 0) dX6_canUse_42 (by decide) ?_
        exact a_ireturn (pc := 43) dX6_canUse_43 rfl rfl (⟨by rw [bi_f hn]; rfl, rfl⟩)
      · have hy : qcu s (pq s sd p) := hq.mpr ⟨fun z => c8 (z2.mpr z), c22, c35⟩
        refine a_iconst (pc := 38) (v := nI 1) dX6_canUse_38 (by decide) ?_
        refine a_goto (pc := 39) (tgt := 43) dX6_canUse_39 (by decide) ?_
        exact a_ireturn (pc := 43) dX6_canUse_43 rfl rfl (⟨by rw [bi_t hy]; rfl, rfl⟩)
set_option maxHeartbeats 1500000 in
set_option maxRecDepth 100000 in
theorem x_letter {d k gg : Nat} {h : AH} {s : SH} (l : LW h k gg s) {sd p : Nat} (hsd : sd < 2) (hp : p < sCells s) : AC mX6_letter (d + 5) 0 0 [.ref (aN k), .int (nI sd), .int (nI p)] h (Qe (some (.int (flet s (pq s sd p)))) h) := by
  obtain ⟨⟨bs, pa, pn, pb, pg⟩, ⟨f0, f1, f4, f7, f8⟩, ⟨r9, r10, r5⟩, ⟨L, Z, rL, rZ, ⟨kL, pL⟩, ⟨kZ, pZ⟩, lin, siz⟩, ⟨M, rM, sM⟩, gon⟩ := id l
  have g := bs.1
  have gw := g.1
  have gh := g.2.1
  have gs := g.2.2.1
  have bw := bs.2.1
  have bh := bs.2.2.1
  have bl := bs.2.2.2
  have c12 := cells12 bs
  obtain ⟨p1, p2, p3⟩ := pl_ok g hp
  obtain ⟨q1, q2, q3, q4, q5⟩ := line_at g hsd hp
  have hW : 0 < sW s := by omega
  refine AC.of (by decide) rfl (Nat.le_of_ble_eq_true rfl) (fun X => ?_)
  show AW X mX6_letter (d + 5) 0 0 0 [(0, .ref (aN k)), (1, .int (nI sd)), (2, .int (nI p))] [] h (Qe (some (.int (flet s (pq s sd p)))) h)
  obtain ⟨z1, z2⟩ := chN_45 g (sd := sd) (p := p)
  have hc := (clN_ok (sd := sd) g hp).1
  have hG : gnB s (qcell s (pq s sd p)) ↔ sGn s (clN s sd p) := by rw [qcell_pq g hsd hp]; exact gnB_pq g hc
  have hL := qlt_pq g hsd hp
  refine a_aload_n (pc := 0) (i := 0) dX6_letter_0 rfl rfl ?_
  refine g_getR (pc := 1) (ci := 6) (k := 5) (b := gonN k gg s) dX6_letter_1 (lf_RX6_31 rfl) (by decide) rfl kd_a pa r5 ?_
  refine a_aload_n (pc := 4) (i := 0) dX6_letter_4 rfl rfl ?_
  refine a_iload_n (pc := 5) (i := 1) dX6_letter_5 rfl rfl ?_
  refine a_iload_n (pc := 6) (i := 2) dX6_letter_6 rfl rfl ?_
  refine g_vV1 (pc := 7) (as := [.int (nI sd), .int (nI p)]) (b := aN k) (ci := 6) (v := .int (nI (clN s sd p))) (h' := h) dX6_letter_7 (lc_RX6_67 rfl) ceX6_cell kd_a pa (x_cell (d := d + 4) l hsd hp) rfl rfl (Nat.le_of_ble_eq_true rfl) rfl ?_
  refine g_zald (pc := 10) (j := (clN s sd p)) dX6_letter_10 (kd_gon bs) pg rfl (by omega) ?_
  refine a_top (show (.int (hI h (gonN k gg s) (clN s sd p)) : Value) = .int (bi (sGn s (clN s sd p))) from congrArg Value.int (gon _ hc)) ?_
  refine b_if_eq (pc := 11) (tgt := 19) dX6_letter_11 (by decide) (fun c11 => ?_) (fun c11 => ?_)
  · skip
    refine a_aload_n (pc := 19) (i := 0) dX6_letter_19 rfl rfl ?_
    refine a_iload_n (pc := 20) (i := 1) dX6_letter_20 rfl rfl ?_
    refine a_iload_n (pc := 21) (i := 2) dX6_letter_21 rfl rfl ?_
    refine g_vV1 (pc := 22) (as := [.int (nI sd), .int (nI p)]) (b := aN k) (ci := 6) (v := .int (nI (chN (sLt s sd p)))) (h' := h) dX6_letter_22 (lc_RX6_63 rfl) ceX6_sign kd_a pa (x_sign (d := d) l hsd hp) rfl rfl (Nat.le_of_ble_eq_true rfl) rfl ?_
    refine a_bipush (pc := 25) (v := nI 45) dX6_letter_25 (by decide) ?_
    refine n_icmp_ne (pc := 27) (tgt := 34) dX6_letter_27 (by decide) (by omega) (by omega) (fun c27 => ?_) (fun c27 => ?_)
    · skip
      obtain ⟨n, hn, en⟩ : ∃ n, n < 26 ∧ sLt s sd p = nI n := (g.2.2.2.1 sd p).resolve_left (fun z => c27 (z2.mpr z))
      refine a_aload_n (pc := 34) (i := 0) dX6_letter_34 rfl rfl ?_
      refine a_iload_n (pc := 35) (i := 1) dX6_letter_35 rfl rfl ?_
      refine a_iload_n (pc := 36) (i := 2) dX6_letter_36 rfl rfl ?_
      refine g_vV1 (pc := 37) (as := [.int (nI sd), .int (nI p)]) (b := aN k) (ci := 6) (v := .int (nI (chN (sLt s sd p)))) (h' := h) dX6_letter_37 (lc_RX6_63 rfl) ceX6_sign kd_a pa (x_sign (d := d) l hsd hp) rfl rfl (Nat.le_of_ble_eq_true rfl) rfl ?_
      refine a_bipush (pc := 40) (v := nI 97) dX6_letter_40 (by decide) ?_
      refine a_isub (pc := 42) dX6_letter_42 ?_
      refine a_top (show (.int ((nI (chN (sLt s sd p))) - (nI 97)) : Value) = .int (flet s (pq s sd p)) from by unfold flet; rw [cif_f (fun z => c11 (hG.mp z)), hL, en, chN_yes hn, pk_sub (by omega), show 97 + n - 97 = n by omega]) ?_
      exact a_ireturn (pc := 43) dX6_letter_43 rfl rfl (⟨rfl, rfl⟩)
    · skip
      refine a_iconst (pc := 30) (v := (-1)) dX6_letter_30 (by decide) ?_
      refine a_goto (pc := 31) (tgt := 43) dX6_letter_31 (by decide) ?_
      refine a_top (show (.int ((-1)) : Value) = .int (flet s (pq s sd p)) from by unfold flet; rw [cif_f (fun z => c11 (hG.mp z)), hL, z2.mp c27]) ?_
      exact a_ireturn (pc := 43) dX6_letter_43 rfl rfl (⟨rfl, rfl⟩)
  · skip
    refine a_bipush (pc := 14) (v := (-2)) dX6_letter_14 (by decide) ?_
    refine a_goto (pc := 16) (tgt := 43) dX6_letter_16 (by decide) ?_
    refine a_top (show (.int ((-2)) : Value) = .int (flet s (pq s sd p)) from by unfold flet; rw [cif_t (hG.mpr c11)]) ?_
    exact a_ireturn (pc := 43) dX6_letter_43 rfl rfl (⟨rfl, rfl⟩)
def hasP (s : SH) (c x i : Nat) : Prop := ∃ sd, sd < i ∧ qcu s (pq s sd (clN s sd c)) ∧ chN (sLt s sd (clN s sd c)) = x
set_option maxHeartbeats 1500000 in
set_option maxRecDepth 100000 in
theorem x_has {d k gg : Nat} {h : AH} {s : SH} (l : LW h k gg s) {c x : Nat} (hc : c < sCells s) (hx : x < 128) : AC mX6_has (d + 6) 0 0 [.ref (aN k), .int (nI c), .int (nI x)] h (Qe (some (.int (bi (hasP s c x 2)))) h) := by
  obtain ⟨⟨bs, pa, pn, pb, pg⟩, ⟨f0, f1, f4, f7, f8⟩, ⟨r9, r10, r5⟩, ⟨L, Z, rL, rZ, ⟨kL, pL⟩, ⟨kZ, pZ⟩, lin, siz⟩, ⟨M, rM, sM⟩, gon⟩ := id l
  have g := bs.1
  have gw := g.1
  have gh := g.2.1
  have gs := g.2.2.1
  have bw := bs.2.1
  have bh := bs.2.2.1
  have bl := bs.2.2.2
  have c12 := cells12 bs
  refine AC.of (by decide) rfl (Nat.le_of_ble_eq_true rfl) (fun X => ?_)
  show AW X mX6_has (d + 6) 0 0 0 [(0, .ref (aN k)), (1, .int (nI c)), (2, .int (nI x))] [] h (Qe (some (.int (bi (hasP s c x 2)))) h)
  have LP : ∀ (fu : Nat) (i : Nat), i ≤ 2 → ¬ hasP s c x i → 2 - i < fu → AW X mX6_has (d + 6) 0 0 2 [(0, .ref (aN k)), (1, .int (nI c)), (2, .int (nI x)), (3, .int (nI i))] [] h (Qe (some (.int (bi (hasP s c x 2)))) h) := by
    intro fu
    induction fu with
    | zero => intro i hi hno hz; exact absurd hz (Nat.not_lt_zero _)
    | succ fu ih =>
      intro i hi hno hz
      refine a_iload_n (pc := 2) (i := 3) dX6_has_2 rfl rfl ?_
      refine a_iconst (pc := 3) (v := nI 2) dX6_has_3 (by decide) ?_
      refine n_icmp_ge (pc := 4) (tgt := 44) dX6_has_4 (by decide) (by omega) (by omega) (fun c4 => ?_) (fun c4 => ?_)
      · have e : i = 2 := by omega
        subst e
        refine a_iconst (pc := 44) (v := nI 0) dX6_has_44 (by decide) ?_
        exact a_ireturn (pc := 45) dX6_has_45 rfl rfl (⟨by rw [bi_f hno]; rfl, rfl⟩)
      · skip
        have hc2 := (clN_ok (sd := i) g hc).1
        have z1 := (chN_45 g (sd := i) (p := clN s i c)).1
        refine a_aload_n (pc := 7) (i := 0) dX6_has_7 rfl rfl ?_
        refine a_iload_n (pc := 8) (i := 3) dX6_has_8 rfl rfl ?_
        refine a_iload_n (pc := 9) (i := 1) dX6_has_9 rfl rfl ?_
        refine g_vV1 (pc := 10) (as := [.int (nI i), .int (nI c)]) (b := aN k) (ci := 6) (v := .int (nI (clN s i c))) (h' := h) dX6_has_10 (lc_RX6_67 rfl) ceX6_cell kd_a pa (x_cell (d := d + 5) l c4 hc) rfl rfl (Nat.le_of_ble_eq_true rfl) rfl ?_
        refine a_istore (pc := 13) (i := 4) (ls' := [(0, .ref (aN k)), (1, .int (nI c)), (2, .int (nI x)), (3, .int (nI i)), (4, .int (nI (clN s i c)))]) dX6_has_13 (by decide) rfl ?_
        refine a_aload_n (pc := 15) (i := 0) dX6_has_15 rfl rfl ?_
        refine a_iload_n (pc := 16) (i := 3) dX6_has_16 rfl rfl ?_
        refine a_iload (pc := 17) (i := 4) dX6_has_17 rfl ?_
        refine g_vV1 (pc := 19) (as := [.int (nI i), .int (nI (clN s i c))]) (b := aN k) (ci := 6) (v := .int (bi (qcu s (pq s i (clN s i c))))) (h' := h) dX6_has_19 (lc_RX6_74 rfl) ceX6_canUse kd_a pa (x_canUse (d := d) l c4 hc2) rfl rfl (Nat.le_of_ble_eq_true rfl) rfl ?_
        refine b_if_eq (pc := 22) (tgt := 38) dX6_has_22 (by decide) (fun c22 => ?_) (fun c22 => ?_)
        · have hno2 : ¬ hasP s c x (i + 1) := fun ⟨sd, y1, y2, y3⟩ => by rcases Nat.lt_or_ge sd i with q | q; exact hno ⟨sd, q, y2, y3⟩; exact c22 ((show sd = i by omega) ▸ y2)
          refine n_iinc (pc := 38) (k := 1) (ls' := [(0, .ref (aN k)), (1, .int (nI c)), (2, .int (nI x)), (3, .int (nI (i + 1))), (4, .int (nI (clN s i c)))]) dX6_has_38 rfl (by decide) (by decide) rfl ?_
          refine a_goto (pc := 41) (tgt := 2) dX6_has_41 (by decide) ?_
          refine a_drop (ls' := [(0, .ref (aN k)), (1, .int (nI c)), (2, .int (nI x)), (3, .int (nI (i + 1)))]) (by simp) ?_
          exact ih (i + 1) (by omega) hno2 (by omega)
        · skip
          refine a_aload_n (pc := 25) (i := 0) dX6_has_25 rfl rfl ?_
          refine a_iload_n (pc := 26) (i := 3) dX6_has_26 rfl rfl ?_
          refine a_iload (pc := 27) (i := 4) dX6_has_27 rfl ?_
          refine g_vV1 (pc := 29) (as := [.int (nI i), .int (nI (clN s i c))]) (b := aN k) (ci := 6) (v := .int (nI (chN (sLt s i (clN s i c))))) (h' := h) dX6_has_29 (lc_RX6_63 rfl) ceX6_sign kd_a pa (x_sign (d := d + 1) l c4 hc2) rfl rfl (Nat.le_of_ble_eq_true rfl) rfl ?_
          refine a_iload_n (pc := 32) (i := 2) dX6_has_32 rfl rfl ?_
          refine n_icmp_ne (pc := 33) (tgt := 38) dX6_has_33 (by decide) (by omega) (by omega) (fun c33 => ?_) (fun c33 => ?_)
          · have hno2 : ¬ hasP s c x (i + 1) := fun ⟨sd, y1, y2, y3⟩ => by rcases Nat.lt_or_ge sd i with q | q; exact hno ⟨sd, q, y2, y3⟩; exact c33 ((show sd = i by omega) ▸ y3)
            refine n_iinc (pc := 38) (k := 1) (ls' := [(0, .ref (aN k)), (1, .int (nI c)), (2, .int (nI x)), (3, .int (nI (i + 1))), (4, .int (nI (clN s i c)))]) dX6_has_38 rfl (by decide) (by decide) rfl ?_
            refine a_goto (pc := 41) (tgt := 2) dX6_has_41 (by decide) ?_
            refine a_drop (ls' := [(0, .ref (aN k)), (1, .int (nI c)), (2, .int (nI x)), (3, .int (nI (i + 1)))]) (by simp) ?_
            exact ih (i + 1) (by omega) hno2 (by omega)
          · have hy : hasP s c x 2 := ⟨i, c4, c22, c33⟩
            refine a_iconst (pc := 36) (v := nI 1) dX6_has_36 (by decide) ?_
            exact a_ireturn (pc := 37) dX6_has_37 rfl rfl (⟨by rw [bi_t hy]; rfl, rfl⟩)
  refine a_iconst (pc := 0) (v := nI 0) dX6_has_0 (by decide) ?_
  refine a_istore_n (pc := 1) (i := 3) (ls' := [(0, .ref (aN k)), (1, .int (nI c)), (2, .int (nI x)), (3, .int (nI 0))]) dX6_has_1 rfl (by decide) rfl ?_
  exact LP 3 0 (by omega) (fun ⟨_, y, _⟩ => absurd y (Nat.not_lt_zero _)) (by omega)
noncomputable def manyN (s : SH) (x i : Nat) : Nat := cnt (fun k => 97 + sMs s k = x) i
set_option maxHeartbeats 1500000 in
set_option maxRecDepth 100000 in
theorem x_many {d k gg : Nat} {h : AH} {s : SH} (l : LW h k gg s) {x : Nat} (hx : x < 128) : AC mX6_many (d + 4) 0 0 [.ref (aN k), .int (nI x)] h (Qe (some (.int (nI (manyN s x (sLen s))))) h) := by
  obtain ⟨⟨bs, pa, pn, pb, pg⟩, ⟨f0, f1, f4, f7, f8⟩, ⟨r9, r10, r5⟩, ⟨L, Z, rL, rZ, ⟨kL, pL⟩, ⟨kZ, pZ⟩, lin, siz⟩, ⟨M, rM, sM⟩, gon⟩ := id l
  have g := bs.1
  have gw := g.1
  have gh := g.2.1
  have gs := g.2.2.1
  have bw := bs.2.1
  have bh := bs.2.2.1
  have bl := bs.2.2.2
  have c12 := cells12 bs
  refine AC.of (by decide) rfl (Nat.le_of_ble_eq_true rfl) (fun X => ?_)
  show AW X mX6_many (d + 4) 0 0 0 [(0, .ref (aN k)), (1, .int (nI x))] [] h (Qe (some (.int (nI (manyN s x (sLen s))))) h)
  have LP : ∀ (fu : Nat) (i : Nat), i ≤ sLen s → sLen s - i < fu → AW X mX6_many (d + 4) 0 0 4 [(0, .ref (aN k)), (1, .int (nI x)), (2, .int (nI (manyN s x i))), (3, .int (nI i))] [] h (Qe (some (.int (nI (manyN s x (sLen s))))) h) := by
    intro fu
    induction fu with
    | zero => intro i hi hz; exact absurd hz (Nat.not_lt_zero _)
    | succ fu ih =>
      intro i hi hz
      have hle : manyN s x i ≤ i := cnt_le _ _
      refine a_iload_n (pc := 4) (i := 3) dX6_many_4 rfl rfl ?_
      refine a_aload_n (pc := 5) (i := 0) dX6_many_5 rfl rfl ?_
      refine g_getR (pc := 6) (ci := 6) (k := 6) (b := M) dX6_many_6 (lf_RX6_37 rfl) (by decide) rfl kd_a pa rM ?_
      refine g_vStr1 (pc := 9) (as := []) (b := M) (v := .int (nI ((msT s).length))) (h' := h) dX6_many_9 (lc_RX6_78 rfl) ceJ0_length_8abf5 sM.ok (s_len (d := d + 2) sM) rfl rfl (Nat.le_of_ble_eq_true rfl) rfl ?_
      refine a_top (show (.int (nI ((msT s).length)) : Value) = .int (nI (sLen s)) from by rw [msT_len]) ?_
      refine n_icmp_ge (pc := 12) (tgt := 36) dX6_many_12 (by decide) (by omega) (by omega) (fun c12 => ?_) (fun c12 => ?_)
      · have e : i = sLen s := by omega
        subst e
        refine a_iload_n (pc := 36) (i := 2) dX6_many_36 rfl rfl ?_
        exact a_ireturn (pc := 37) dX6_many_37 rfl rfl (⟨rfl, rfl⟩)
      · skip
        have hm := g.2.2.2.2.2.2 i
        refine a_aload_n (pc := 15) (i := 0) dX6_many_15 rfl rfl ?_
        refine g_getR (pc := 16) (ci := 6) (k := 6) (b := M) dX6_many_16 (lf_RX6_37 rfl) (by decide) rfl kd_a pa rM ?_
        refine a_iload_n (pc := 19) (i := 3) dX6_many_19 rfl rfl ?_
        refine g_vStr1 (pc := 20) (as := [.int (nI i)]) (b := M) (v := .int (nI ((msT s).getD i 0))) (h' := h) dX6_many_20 (lc_RX6_59 rfl) ceJ0_charAt_5068e sM.ok (s_charAt (d := d) sM (j := i) (by rw [msT_len]; exact c12)) rfl rfl (Nat.le_of_ble_eq_true rfl) rfl ?_
        refine a_top (show (.int (nI ((msT s).getD i 0)) : Value) = .int (nI (97 + sMs s i)) from by rw [msT_at c12]) ?_
        refine a_iload_n (pc := 23) (i := 1) dX6_many_23 rfl rfl ?_
        refine n_icmp_ne (pc := 24) (tgt := 30) dX6_many_24 (by decide) (by omega) (by omega) (fun c24 => ?_) (fun c24 => ?_)
        · skip
          refine n_iinc (pc := 30) (k := 1) (ls' := [(0, .ref (aN k)), (1, .int (nI x)), (2, .int (nI (manyN s x i))), (3, .int (nI (i + 1)))]) dX6_many_30 rfl (by decide) (by decide) rfl ?_
          refine a_goto (pc := 33) (tgt := 4) dX6_many_33 (by decide) ?_
          refine a_locs (ls' := [(0, .ref (aN k)), (1, .int (nI x)), (2, .int (nI (manyN s x (i + 1)))), (3, .int (nI (i + 1)))]) (by rw [show manyN s x (i + 1) = manyN s x i from cnt_no c24]) ?_
          exact ih (i + 1) (by omega) (by omega)
        · skip
          refine n_iinc (pc := 27) (k := 1) (ls' := [(0, .ref (aN k)), (1, .int (nI x)), (2, .int (nI ((manyN s x i) + 1))), (3, .int (nI i))]) dX6_many_27 rfl (by decide) (by decide) rfl ?_
          refine n_iinc (pc := 30) (k := 1) (ls' := [(0, .ref (aN k)), (1, .int (nI x)), (2, .int (nI ((manyN s x i) + 1))), (3, .int (nI (i + 1)))]) dX6_many_30 rfl (by decide) (by decide) rfl ?_
          refine a_goto (pc := 33) (tgt := 4) dX6_many_33 (by decide) ?_
          refine a_locs (ls' := [(0, .ref (aN k)), (1, .int (nI x)), (2, .int (nI (manyN s x (i + 1)))), (3, .int (nI (i + 1)))]) (by rw [show manyN s x (i + 1) = manyN s x i + 1 from cnt_yes c24]) ?_
          exact ih (i + 1) (by omega) (by omega)
  refine a_iconst (pc := 0) (v := nI 0) dX6_many_0 (by decide) ?_
  refine a_istore_n (pc := 1) (i := 2) (ls' := [(0, .ref (aN k)), (1, .int (nI x)), (2, .int (nI 0))]) dX6_many_1 rfl (by decide) rfl ?_
  refine a_iconst (pc := 2) (v := nI 0) dX6_many_2 (by decide) ?_
  refine a_istore_n (pc := 3) (i := 3) (ls' := [(0, .ref (aN k)), (1, .int (nI x)), (2, .int (nI 0)), (3, .int (nI 0))]) dX6_many_3 rfl (by decide) rfl ?_
  refine a_locs (ls' := [(0, .ref (aN k)), (1, .int (nI x)), (2, .int (nI (manyN s x 0))), (3, .int (nI 0))]) rfl ?_
  exact LP (sLen s + 1) 0 (by omega) (by omega)
