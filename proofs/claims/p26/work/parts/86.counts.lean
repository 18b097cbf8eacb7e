/-! the law's Sheet: strips, counts -/
theorem row_in {s : SH} (g : GS s) {p j : Nat} (hp : p < sCells s) (hj : p % sW s + j < sW s) : p + j < sCells s ∧ ∀ sd, pq s sd (p + j) = pq s sd p + j := by
  obtain ⟨h1, h2, h3⟩ := pl_ok g hp
  have e : p + j = p / sW s * sW s + (p % sW s + j) := by omega
  obtain ⟨d1, d2⟩ := rw_div (W := sW s) (r := p / sW s) (x := p % sW s + j) hj
  refine ⟨by rw [e]; exact rw_lt hj h1, fun sd => ?_⟩
  unfold pq
  rw [show (p + j) / sW s = p / sW s by rw [e]; exact d1, show (p + j) % sW s = p % sW s + j by rw [e]; exact d2]
  omega
def stripP (s : SH) (sd p n : Nat) : Prop := p % sW s + n ≤ sW s ∧ ∀ j, j < n → qcu s (pq s sd p + j)
def saysP (s : SH) (sd p n f : Nat) : Prop := f + n ≤ sLen s ∧ p % sW s + n ≤ sW s ∧ ∀ j, j < n → okr s f (pq s sd p) j
theorem ch_ms {s : SH} (g : GS s) {sd p f : Nat} (hf : f < sLen s) : chN (sLt s sd p) = 97 + sMs s f ↔ sLt s sd p = msA s f := by
  have hm := g.2.2.2.2.2.2 f
  unfold msA
  rw [cif_t hf]
  rcases g.2.2.2.1 sd p with e | ⟨n, hn, e⟩
  · rw [e, chN_no]
    exact ⟨fun z => absurd z (by omega), fun z => absurd z.symm (nI26 hm)⟩
  · rw [e, chN_yes hn]
    exact ⟨fun z => by rw [show n = sMs s f by omega], fun z => by have := (nI_eq (a := n) (b := sMs s f) (by omega) (by omega)).mp z; omega⟩
set_option maxHeartbeats 1500000 in
set_option maxRecDepth 100000 in
theorem x_isStrip {d k gg : Nat} {h : AH} {s : SH} (l : LW h k gg s) {sd p : Nat} (hsd : sd < 2) (hp : p < sCells s) {n : Nat} (hn : n < 1000) : AC mX6_isStrip (d + 6) 0 0 [.ref (aN k), .int (nI sd), .int (nI p), .int (nI n)] h (Qe (some (.int (bi (stripP s sd p n)))) h) := by
  obtain ⟨⟨bs, pa, pn, pb, pg⟩, ⟨f0, f1, f4, f7, f8⟩, ⟨r9, r10, r5⟩, ⟨L, Z, rL, rZ, ⟨kL, pL⟩, ⟨kZ, pZ⟩, lin, siz⟩, ⟨M, rM, sM⟩, gon⟩ := id l
  have g := bs.1
  have gw := g.1
  have gh := g.2.1
  have gs := g.2.2.1
  have bw := bs.2.1
  have bh := bs.2.2.1
  have bl := bs.2.2.2
  have c12 := cells12 bs
  obtain ⟨p1, p2, p3⟩ := pl_ok g hp
  have hW : 0 < sW s := by omega
  refine AC.of (by decide) rfl (Nat.le_of_ble_eq_true rfl) (fun X => ?_)
  show AW X mX6_isStrip (d + 6) 0 0 0 [(0, .ref (aN k)), (1, .int (nI sd)), (2, .int (nI p)), (3, .int (nI n))] [] h (Qe (some (.int (bi (stripP s sd p n)))) h)
  refine a_iload_n (pc := 0) (i := 2) dX6_isStrip_0 rfl rfl ?_
  refine a_aload_n (pc := 1) (i := 0) dX6_isStrip_1 rfl rfl ?_
  refine g_getI (pc := 2) (ci := 6) (k := 0) dX6_isStrip_2 (lf_RX6_7 rfl) (by decide) rfl kd_a pa ?_
  refine a_top (show (.int (hI h (aN k) 0) : Value) = .int (nI (sW s)) from congrArg Value.int f0) ?_
  refine n_irem (pc := 5) dX6_isStrip_5 (by omega) (by omega) (by omega) ?_
  refine a_iload_n (pc := 6) (i := 3) dX6_isStrip_6 rfl rfl ?_
  refine n_iadd (pc := 7) dX6_isStrip_7 ?_
  refine a_aload_n (pc := 8) (i := 0) dX6_isStrip_8 rfl rfl ?_
  refine g_getI (pc := 9) (ci := 6) (k := 0) dX6_isStrip_9 (lf_RX6_7 rfl) (by decide) rfl kd_a pa ?_
  refine a_top (show (.int (hI h (aN k) 0) : Value) = .int (nI (sW s)) from congrArg Value.int f0) ?_
  refine n_icmp_le (pc := 12) (tgt := 17) dX6_isStrip_12 (by decide) (by omega) (by omega) (fun c12 => ?_) (fun c12 => ?_)
  · skip
    have LP : ∀ (fu : Nat) (j : Nat), j ≤ n → (∀ i, i < j → qcu s (pq s sd p + i)) → n - j < fu → AW X mX6_isStrip (d + 6) 0 0 20 [(0, .ref (aN k)), (1, .int (nI sd)), (2, .int (nI p)), (3, .int (nI n)), (4, .int (nI j))] [] h (Qe (some (.int (bi (stripP s sd p n)))) h) := by
      intro fu
      induction fu with
      | zero => intro j hj hy hz; exact absurd hz (Nat.not_lt_zero _)
      | succ fu ih =>
        intro j hj hy hz
        refine a_iload (pc := 20) (i := 4) dX6_isStrip_20 rfl ?_
        refine a_iload_n (pc := 22) (i := 3) dX6_isStrip_22 rfl rfl ?_
        refine n_icmp_ge (pc := 23) (tgt := 46) dX6_isStrip_23 (by decide) (by omega) (by omega) (fun c23 => ?_) (fun c23 => ?_)
        · have e : stripP s sd p n := ⟨c12, fun i hi => hy i (by omega)⟩
          refine a_iconst (pc := 46) (v := nI 1) dX6_isStrip_46 (by decide) ?_
          exact a_ireturn (pc := 47) dX6_isStrip_47 rfl rfl (⟨by rw [bi_t e]; rfl, rfl⟩)
        · skip
          obtain ⟨u1, u2⟩ := row_in (j := j) g hp (by omega)
          refine a_aload_n (pc := 26) (i := 0) dX6_isStrip_26 rfl rfl ?_
          refine a_iload_n (pc := 27) (i := 1) dX6_isStrip_27 rfl rfl ?_
          refine a_iload_n (pc := 28) (i := 2) dX6_isStrip_28 rfl rfl ?_
          refine a_iload (pc := 29) (i := 4) dX6_isStrip_29 rfl ?_
          refine n_iadd (pc := 31) dX6_isStrip_31 ?_
          refine g_vV1 (pc := 32) (as := [.int (nI sd), .int (nI (p + j))]) (b := aN k) (ci := 6) (v := .int (bi (qcu s (pq s sd (p + j))))) (h' := h) dX6_isStrip_32 (lc_RX6_74 rfl) ceX6_canUse kd_a pa (x_canUse (d := d) l hsd u1) rfl rfl (Nat.le_of_ble_eq_true rfl) rfl ?_
          refine b_if_ne (pc := 35) (tgt := 40) dX6_isStrip_35 (by decide) (fun c35 => ?_) (fun c35 => ?_)
          · skip
            refine n_iinc (pc := 40) (k := 1) (ls' := [(0, .ref (aN k)), (1, .int (nI sd)), (2, .int (nI p)), (3, .int (nI n)), (4, .int (nI (j + 1)))]) dX6_isStrip_40 rfl (by decide) (by decide) rfl ?_
            refine a_goto (pc := 43) (tgt := 20) dX6_isStrip_43 (by decide) ?_
            exact ih (j + 1) (by omega) (fun i hi => by rcases (by omega : i < j ∨ i = j) with z | z; exact hy i z; rw [z, ← u2 sd]; exact c35) (by omega)
          · have e : ¬ stripP s sd p n := fun z => c35 (by rw [u2 sd]; exact z.2 j c23)
            refine a_iconst (pc := 38) (v := nI 0) dX6_isStrip_38 (by decide) ?_
            exact a_ireturn (pc := 39) dX6_isStrip_39 rfl rfl (⟨by rw [bi_f e]; rfl, rfl⟩)
    refine a_iconst (pc := 17) (v := nI 0) dX6_isStrip_17 (by decide) ?_
    refine a_istore (pc := 18) (i := 4) (ls' := [(0, .ref (aN k)), (1, .int (nI sd)), (2, .int (nI p)), (3, .int (nI n)), (4, .int (nI 0))]) dX6_isStrip_18 (by decide) rfl ?_
    exact LP (n + 1) 0 (by omega) (fun i hi => absurd hi (Nat.not_lt_zero _)) (by omega)
  · have e : ¬ stripP s sd p n := fun z => by have := z.1; omega
    refine a_iconst (pc := 15) (v := nI 0) dX6_isStrip_15 (by decide) ?_
    exact a_ireturn (pc := 16) dX6_isStrip_16 rfl rfl (⟨by rw [bi_f e]; rfl, rfl⟩)
set_option maxHeartbeats 1500000 in
set_option maxRecDepth 100000 in
theorem x_says {d k gg : Nat} {h : AH} {s : SH} (l : LW h k gg s) {sd p : Nat} (hsd : sd < 2) (hp : p < sCells s) {n f : Nat} (hn : n < 1000) (hf : f < 1000) : AC mX6_says (d + 7) 0 0 [.ref (aN k), .int (nI sd), .int (nI p), .int (nI n), .int (nI f)] h (Qe (some (.int (bi (saysP s sd p n f)))) h) := by
  obtain ⟨⟨bs, pa, pn, pb, pg⟩, ⟨f0, f1, f4, f7, f8⟩, ⟨r9, r10, r5⟩, ⟨L, Z, rL, rZ, ⟨kL, pL⟩, ⟨kZ, pZ⟩, lin, siz⟩, ⟨M, rM, sM⟩, gon⟩ := id l
  have g := bs.1
  have gw := g.1
  have gh := g.2.1
  have gs := g.2.2.1
  have bw := bs.2.1
  have bh := bs.2.2.1
  have bl := bs.2.2.2
  have c12 := cells12 bs
  obtain ⟨p1, p2, p3⟩ := pl_ok g hp
  have hW : 0 < sW s := by omega
  refine AC.of (by decide) rfl (Nat.le_of_ble_eq_true rfl) (fun X => ?_)
  show AW X mX6_says (d + 7) 0 0 0 [(0, .ref (aN k)), (1, .int (nI sd)), (2, .int (nI p)), (3, .int (nI n)), (4, .int (nI f))] [] h (Qe (some (.int (bi (saysP s sd p n f)))) h)
  refine a_iload (pc := 0) (i := 4) dX6_says_0 rfl ?_
  refine a_iload_n (pc := 2) (i := 3) dX6_says_2 rfl rfl ?_
  refine n_iadd (pc := 3) dX6_says_3 ?_
  refine a_aload_n (pc := 4) (i := 0) dX6_says_4 rfl rfl ?_
  refine g_getR (pc := 5) (ci := 6) (k := 6) (b := M) dX6_says_5 (lf_RX6_37 rfl) (by decide) rfl kd_a pa rM ?_
  refine g_vStr1 (pc := 8) (as := []) (b := M) (v := .int (nI ((msT s).length))) (h' := h) dX6_says_8 (lc_RX6_78 rfl) ceJ0_length_8abf5 sM.ok (s_len (d := d + 5) sM) rfl rfl (Nat.le_of_ble_eq_true rfl) rfl ?_
  refine a_top (show (.int (nI ((msT s).length)) : Value) = .int (nI (sLen s)) from by rw [msT_len]) ?_
  refine n_icmp_gt (pc := 11) (tgt := 24) dX6_says_11 (by decide) (by omega) (by omega) (fun c11 => ?_) (fun c11 => ?_)
  · have e : ¬ saysP s sd p n f := fun z => by have := z.1; omega
    refine a_iconst (pc := 24) (v := nI 0) dX6_says_24 (by decide) ?_
    exact a_ireturn (pc := 25) dX6_says_25 rfl rfl (⟨by rw [bi_f e]; rfl, rfl⟩)
  · skip
    refine a_aload_n (pc := 14) (i := 0) dX6_says_14 rfl rfl ?_
    refine a_iload_n (pc := 15) (i := 1) dX6_says_15 rfl rfl ?_
    refine a_iload_n (pc := 16) (i := 2) dX6_says_16 rfl rfl ?_
    refine a_iload_n (pc := 17) (i := 3) dX6_says_17 rfl rfl ?_
    refine g_vV1 (pc := 18) (as := [.int (nI sd), .int (nI p), .int (nI n)]) (b := aN k) (ci := 6) (v := .int (bi (stripP s sd p n))) (h' := h) dX6_says_18 (lc_RX6_100 rfl) ceX6_isStrip kd_a pa (x_isStrip (d := d) l hsd hp hn) rfl rfl (Nat.le_of_ble_eq_true rfl) rfl ?_
    refine b_if_ne (pc := 21) (tgt := 26) dX6_says_21 (by decide) (fun c21 => ?_) (fun c21 => ?_)
    · skip
      have LP : ∀ (fu : Nat) (j : Nat), j ≤ n → (∀ i, i < j → qlt s (pq s sd p + i) = msA s (f + i)) → n - j < fu → AW X mX6_says (d + 7) 0 0 29 [(0, .ref (aN k)), (1, .int (nI sd)), (2, .int (nI p)), (3, .int (nI n)), (4, .int (nI f)), (5, .int (nI j))] [] h (Qe (some (.int (bi (saysP s sd p n f)))) h) := by
        intro fu
        induction fu with
        | zero => intro j hj hy hz; exact absurd hz (Nat.not_lt_zero _)
        | succ fu ih =>
          intro j hj hy hz
          refine a_iload (pc := 29) (i := 5) dX6_says_29 rfl ?_
          refine a_iload_n (pc := 31) (i := 3) dX6_says_31 rfl rfl ?_
          refine n_icmp_ge (pc := 32) (tgt := 67) dX6_says_32 (by decide) (by omega) (by omega) (fun c32 => ?_) (fun c32 => ?_)
          · have e : saysP s sd p n f := ⟨by omega, c21.1, fun i hi => ⟨hy i (by omega), c21.2 i hi⟩⟩
            refine a_iconst (pc := 67) (v := nI 1) dX6_says_67 (by decide) ?_
            exact a_ireturn (pc := 68) dX6_says_68 rfl rfl (⟨by rw [bi_t e]; rfl, rfl⟩)
          · skip
            have hs := c21.1
            obtain ⟨u1, u2⟩ := row_in (j := j) g hp (by omega)
            have z1 := (chN_45 g (sd := sd) (p := p + j)).1
            have hm := g.2.2.2.2.2.2 (f + j)
            have hcm := ch_ms g (sd := sd) (p := p + j) (f := f + j) (by omega)
            have hql := qlt_pq g hsd u1
            rw [u2 sd] at hql
            refine a_aload_n (pc := 35) (i := 0) dX6_says_35 rfl rfl ?_
            refine a_iload_n (pc := 36) (i := 1) dX6_says_36 rfl rfl ?_
            refine a_iload_n (pc := 37) (i := 2) dX6_says_37 rfl rfl ?_
            refine a_iload (pc := 38) (i := 5) dX6_says_38 rfl ?_
            refine n_iadd (pc := 40) dX6_says_40 ?_
            refine g_vV1 (pc := 41) (as := [.int (nI sd), .int (nI (p + j))]) (b := aN k) (ci := 6) (v := .int (nI (chN (sLt s sd (p + j))))) (h' := h) dX6_says_41 (lc_RX6_63 rfl) ceX6_sign kd_a pa (x_sign (d := d + 2) l hsd u1) rfl rfl (Nat.le_of_ble_eq_true rfl) rfl ?_
            refine a_aload_n (pc := 44) (i := 0) dX6_says_44 rfl rfl ?_
            refine g_getR (pc := 45) (ci := 6) (k := 6) (b := M) dX6_says_45 (lf_RX6_37 rfl) (by decide) rfl kd_a pa rM ?_
            refine a_iload (pc := 48) (i := 4) dX6_says_48 rfl ?_
            refine a_iload (pc := 50) (i := 5) dX6_says_50 rfl ?_
            refine n_iadd (pc := 52) dX6_says_52 ?_
            refine g_vStr1 (pc := 53) (as := [.int (nI (f + j))]) (b := M) (v := .int (nI ((msT s).getD (f + j) 0))) (h' := h) dX6_says_53 (lc_RX6_59 rfl) ceJ0_charAt_5068e sM.ok (s_charAt (d := d + 3) sM (j := f + j) (by rw [msT_len]; omega)) rfl rfl (Nat.le_of_ble_eq_true rfl) rfl ?_
            refine a_top (show (.int (nI ((msT s).getD (f + j) 0)) : Value) = .int (nI (97 + sMs s (f + j))) from by rw [msT_at (by omega)]) ?_
            refine n_icmp_eq (pc := 56) (tgt := 61) dX6_says_56 (by decide) (by omega) (by omega) (fun c56 => ?_) (fun c56 => ?_)
            · skip
              refine n_iinc (pc := 61) (k := 1) (ls' := [(0, .ref (aN k)), (1, .int (nI sd)), (2, .int (nI p)), (3, .int (nI n)), (4, .int (nI f)), (5, .int (nI (j + 1)))]) dX6_says_61 rfl (by decide) (by decide) rfl ?_
              refine a_goto (pc := 64) (tgt := 29) dX6_says_64 (by decide) ?_
              exact ih (j + 1) (by omega) (fun i hi => by rcases (by omega : i < j ∨ i = j) with z | z; exact hy i z; rw [z, hql]; exact hcm.mp c56) (by omega)
            · have e : ¬ saysP s sd p n f := fun z => c56 (hcm.mpr (by rw [← hql]; exact (z.2.2 j c32).1))
              refine a_iconst (pc := 59) (v := nI 0) dX6_says_59 (by decide) ?_
              exact a_ireturn (pc := 60) dX6_says_60 rfl rfl (⟨by rw [bi_f e]; rfl, rfl⟩)
      refine a_iconst (pc := 26) (v := nI 0) dX6_says_26 (by decide) ?_
      refine a_istore (pc := 27) (i := 5) (ls' := [(0, .ref (aN k)), (1, .int (nI sd)), (2, .int (nI p)), (3, .int (nI n)), (4, .int (nI f)), (5, .int (nI 0))]) dX6_says_27 (by decide) rfl ?_
      exact LP (n + 1) 0 (by omega) (fun i hi => absurd hi (Nat.not_lt_zero _)) (by omega)
    · have e : ¬ saysP s sd p n f := fun z => c21 ⟨z.2.1, fun j hj => (z.2.2 j hj).2⟩
      refine a_iconst (pc := 24) (v := nI 0) dX6_says_24 (by decide) ?_
      exact a_ireturn (pc := 25) dX6_says_25 rfl rfl (⟨by rw [bi_f e]; rfl, rfl⟩)
set_option maxHeartbeats 1500000 in
set_option maxRecDepth 100000 in
theorem x_there {d k gg : Nat} {h : AH} {s : SH} (l : LW h k gg s) : AC mX6_there d 0 0 [.ref (aN k)] h (Qe (some (.int (nI (nThere s)))) h) := by
  obtain ⟨⟨bs, pa, pn, pb, pg⟩, ⟨f0, f1, f4, f7, f8⟩, ⟨r9, r10, r5⟩, ⟨L, Z, rL, rZ, ⟨kL, pL⟩, ⟨kZ, pZ⟩, lin, siz⟩, ⟨M, rM, sM⟩, gon⟩ := id l
  have g := bs.1
  have gw := g.1
  have gh := g.2.1
  have gs := g.2.2.1
  have bw := bs.2.1
  have bh := bs.2.2.1
  have bl := bs.2.2.2
  have c12 := cells12 bs
  refine AC.of (by decide) rfl (Nat.le_of_ble_eq_true rfl) (fun X => ?_)
  show AW X mX6_there d 0 0 0 [(0, .ref (aN k))] [] h (Qe (some (.int (nI (nThere s)))) h)
  have LP : ∀ (fu : Nat) (c : Nat), c ≤ sCells s → sCells s - c < fu → AW X mX6_there d 0 0 13 [(0, .ref (aN k)), (1, .int (nI (c - cnt (sGn s) c))), (2, .ref (gonN k gg s)), (3, .int (nI (sCells s))), (4, .int (nI c))] [] h (Qe (some (.int (nI (nThere s)))) h) := by
    intro fu
    induction fu with
    | zero => intro c hc hz; exact absurd hz (Nat.not_lt_zero _)
    | succ fu ih =>
      intro c hc hz
      have hle := cnt_le (sGn s) c
      refine a_iload (pc := 13) (i := 4) dX6_there_13 rfl ?_
      refine a_iload_n (pc := 15) (i := 3) dX6_there_15 rfl rfl ?_
      refine n_icmp_ge (pc := 16) (tgt := 39) dX6_there_16 (by decide) (by omega) (by omega) (fun c16 => ?_) (fun c16 => ?_)
      · have e : c = sCells s := by omega
        subst e
        refine a_iload_n (pc := 39) (i := 1) dX6_there_39 rfl rfl ?_
        exact a_ireturn (pc := 40) dX6_there_40 rfl rfl (⟨rfl, rfl⟩)
      · skip
        refine a_aload_n (pc := 19) (i := 2) dX6_there_19 rfl rfl ?_
        refine a_iload (pc := 20) (i := 4) dX6_there_20 rfl ?_
        refine g_zald (pc := 22) (j := c) dX6_there_22 (kd_gon bs) pg rfl (by omega) ?_
        refine a_top (show (.int (hI h (gonN k gg s) c) : Value) = .int (bi (sGn s c)) from congrArg Value.int (gon c c16)) ?_
        refine a_istore (pc := 23) (i := 5) (ls' := [(0, .ref (aN k)), (1, .int (nI (c - cnt (sGn s) c))), (2, .ref (gonN k gg s)), (3, .int (nI (sCells s))), (4, .int (nI c)), (5, .int (bi (sGn s c)))]) dX6_there_23 (by decide) rfl ?_
        refine a_iload (pc := 25) (i := 5) dX6_there_25 rfl ?_
        refine b_if_ne (pc := 27) (tgt := 33) dX6_there_27 (by decide) (fun c27 => ?_) (fun c27 => ?_)
        · skip
          refine n_iinc (pc := 33) (k := 1) (ls' := [(0, .ref (aN k)), (1, .int (nI (c - cnt (sGn s) c))), (2, .ref (gonN k gg s)), (3, .int (nI (sCells s))), (4, .int (nI (c + 1))), (5, .int (bi (sGn s c)))]) dX6_there_33 rfl (by decide) (by decide) rfl ?_
          refine a_goto (pc := 36) (tgt := 13) dX6_there_36 (by decide) ?_
          refine a_drop (ls' := [(0, .ref (aN k)), (1, .int (nI (c - cnt (sGn s) c))), (2, .ref (gonN k gg s)), (3, .int (nI (sCells s))), (4, .int (nI (c + 1)))]) (by simp) ?_
          refine a_locs (ls' := [(0, .ref (aN k)), (1, .int (nI (c + 1 - cnt (sGn s) (c + 1)))), (2, .ref (gonN k gg s)), (3, .int (nI (sCells s))), (4, .int (nI (c + 1)))]) (by rw [cnt_yes c27, show c + 1 - (cnt (sGn s) c + 1) = c - cnt (sGn s) c by omega]) ?_
          exact ih (c + 1) (by omega) (by omega)
        · skip
          refine n_iinc (pc := 30) (k := 1) (ls' := [(0, .ref (aN k)), (1, .int (nI ((c - cnt (sGn s) c) + 1))), (2, .ref (gonN k gg s)), (3, .int (nI (sCells s))), (4, .int (nI c)), (5, .int (bi (sGn s c)))]) dX6_there_30 rfl (by decide) (by decide) rfl ?_
          refine n_iinc (pc := 33) (k := 1) (ls' := [(0, .ref (aN k)), (1, .int (nI ((c - cnt (sGn s) c) + 1))), (2, .ref (gonN k gg s)), (3, .int (nI (sCells s))), (4, .int (nI (c + 1))), (5, .int (bi (sGn s c)))]) dX6_there_33 rfl (by decide) (by decide) rfl ?_
          refine a_goto (pc := 36) (tgt := 13) dX6_there_36 (by decide) ?_
          refine a_drop (ls' := [(0, .ref (aN k)), (1, .int (nI ((c - cnt (sGn s) c) + 1))), (2, .ref (gonN k gg s)), (3, .int (nI (sCells s))), (4, .int (nI (c + 1)))]) (by simp) ?_
          refine a_locs (ls' := [(0, .ref (aN k)), (1, .int (nI (c + 1 - cnt (sGn s) (c + 1)))), (2, .ref (gonN k gg s)), (3, .int (nI (sCells s))), (4, .int (nI (c + 1)))]) (by rw [cnt_no c27, show c + 1 - cnt (sGn s) c = c - cnt (sGn s) c + 1 by omega]) ?_
          exact ih (c + 1) (by omega) (by omega)
  refine a_iconst (pc := 0) (v := nI 0) dX6_there_0 (by decide) ?_
  refine a_istore_n (pc := 1) (i := 1) (ls' := [(0, .ref (aN k)), (1, .int (nI 0))]) dX6_there_1 rfl (by decide) rfl ?_
  refine a_aload_n (pc := 2) (i := 0) dX6_there_2 rfl rfl ?_
  refine g_getR (pc := 3) (ci := 6) (k := 5) (b := gonN k gg s) dX6_there_3 (lf_RX6_31 rfl) (by decide) rfl kd_a pa r5 ?_
  refine a_astore_n (pc := 6) (i := 2) (ls' := [(0, .ref (aN k)), (1, .int (nI 0)), (2, .ref (gonN k gg s))]) dX6_there_6 rfl (by decide) rfl ?_
  refine a_aload_n (pc := 7) (i := 2) dX6_there_7 rfl rfl ?_
  refine g_alen (pc := 8) (n := sCells s) dX6_there_8 (kd_gon bs) pg ?_
  refine a_istore_n (pc := 9) (i := 3) (ls' := [(0, .ref (aN k)), (1, .int (nI 0)), (2, .ref (gonN k gg s)), (3, .int (nI (sCells s)))]) dX6_there_9 rfl (by decide) rfl ?_
  refine a_iconst (pc := 10) (v := nI 0) dX6_there_10 (by decide) ?_
  refine a_istore (pc := 11) (i := 4) (ls' := [(0, .ref (aN k)), (1, .int (nI 0)), (2, .ref (gonN k gg s)), (3, .int (nI (sCells s))), (4, .int (nI 0))]) dX6_there_11 (by decide) rfl ?_
  refine a_locs (ls' := [(0, .ref (aN k)), (1, .int (nI (0 - cnt (sGn s) 0))), (2, .ref (gonN k gg s)), (3, .int (nI (sCells s))), (4, .int (nI 0))]) rfl ?_
  exact LP (sCells s + 1) 0 (by omega) (by omega)
def clP (s : SH) (c i : Nat) : Prop := ∀ sd, sd < i → usM s (pq s sd (clN s sd c))
theorem many_in {s : SH} (g : GS s) {sd p : Nat} (hsd : sd < 2) (hp : p < sCells s) (hu : qcu s (pq s sd p)) : manyN s (chN (sLt s sd p)) (sLen s) = inMs s (qlt s (pq s sd p)) := by
  rw [qlt_pq g hsd hp]
  obtain ⟨n, hn, e⟩ := (g.2.2.2.1 sd p).resolve_left ((qcu_pq g hsd hp).mp hu).1
  unfold manyN inMs
  rw [e, chN_yes hn]
  exact cnt_congr _ fun k _ => ⟨fun z => by rw [show sMs s k = n by omega], fun z => by have := (nI_eq (a := sMs s k) (b := n) (by have := g.2.2.2.2.2.2 k; omega) (by omega)).mp z; omega⟩
theorem c_side {s : SH} (g : GS s) {P : Nat → Prop} (hP : ∀ q, P q → qhas s q) {x : Nat} (hx : x < 2) : cnt (fun q => P (48 * x + q)) 48 = cnt (fun p => P (pq s x p)) (sCells s) := by
  have e : sCells s = sH s * sW s := Nat.mul_comm _ _
  rw [e]
  have gw := g.1
  have gh := g.2.1
  refine cnt_sub (P := fun q => P (48 * x + q)) (P' := fun p => P (pq s x p)) (w := sW s) (W := 8) (h := sH s) (H := 6) gw.2 gh.2 (fun r c hr hc => ?_) (fun r c hr hc ho hp => ?_)
  · have e2 : pq s x (r * sW s + c) = 48 * x + (r * 8 + c) := by
      unfold pq
      rw [(rw_div hc).1, (rw_div hc).2]
      omega
    show P (48 * x + (r * 8 + c)) ↔ P (pq s x (r * sW s + c))
    rw [e2]
  · have h := hP _ hp
    have h1 : (48 * x + (r * 8 + c)) % 48 / 8 < sH s := h.1
    have h2 : (48 * x + (r * 8 + c)) % 8 < sW s := h.2
    omega
theorem c_two {s : SH} (g : GS s) {P : Nat → Prop} (hP : ∀ q, P q → qhas s q) : cnt P 96 = cnt (fun p => P (pq s 0 p)) (sCells s) + cnt (fun p => P (pq s 1 p)) (sCells s) := by
  have h0 := c_side g hP (x := 0) (by omega)
  have h1 := c_side g hP (x := 1) (by omega)
  have e : cnt P 96 = cnt P 48 + cnt (fun i => P (48 + i)) 48 := cnt_add P 48 48
  rw [e, ← h0, ← h1]
  rw [show (fun q => P (48 * 0 + q)) = P from funext fun q => by rw [show 48 * 0 + q = q by omega]]
theorem c_cell {s : SH} (g : GS s) {P : Nat → Prop} (hP : ∀ b, P b → b / 8 < sH s ∧ b % 8 < sW s) : cnt P 64 = cnt (fun p => P (pq s 0 p)) (sCells s) := by
  have gh := g.2.1
  have e1 : cnt P 64 = cnt P 48 := cnt_cut (by omega) (fun i h1 h2 hp => by have := (hP i hp).1; omega)
  have e2 := c_side g (P := fun q => q < 48 ∧ P q) (fun q hq => ⟨by have := (hP q hq.2).1; omega, (hP q hq.2).2⟩) (x := 0) (by omega)
  rw [e1, show cnt P 48 = cnt (fun q => (48 * 0 + q) < 48 ∧ P (48 * 0 + q)) 48 from cnt_congr _ fun i hi => by rw [show 48 * 0 + i = i by omega]; exact ⟨fun z => ⟨hi, z⟩, fun z => z.2⟩]
  rw [e2]
  refine cnt_congr _ fun p hp => ?_
  have h3 := pq_ok g (sd := 0) (by omega) hp
  exact ⟨fun z => z.2, fun z => ⟨by have := h3.2.1; omega, z⟩⟩
theorem clash_eq {s : SH} (g : GS s) : cnt (fun c => clP s c 2) (sCells s) = nClash s := by
  have e := c_side g (P := fun q => usM s q ∧ usM s (qbh s q)) (fun q hq => qhas_of_lt hq.1.1.1) (x := 0) (by omega)
  rw [show (fun q => usM s (48 * 0 + q) ∧ usM s (qbh s (48 * 0 + q))) = (fun q => usM s q ∧ usM s (qbh s q)) from funext fun q => by rw [show 48 * 0 + q = q by omega]] at e
  unfold nClash
  rw [e]
  refine cnt_congr _ fun c hc => ?_
  have h0 := pq_ok g (sd := 0) (by omega) hc
  have h1 := clN_ok (sd := 1) g hc
  have hl := pl_ok g hc
  have e2 : qbh s (pq s 0 c) = pq s 1 (clN s 1 c) := by
    have h4 := h1.2.2.2
    rw [if_neg (by omega)] at h4
    unfold qbh
    rw [if_pos (by have := h0.2.1; omega), h0.2.2.1, h0.2.2.2.1]
    unfold pq
    rw [h1.2.2.1, h4]
    omega
  rw [e2]
  constructor
  · intro z
    exact ⟨z 0 (by omega), z 1 (by omega)⟩
  · intro z sd hsd
    rcases (by omega : sd = 0 ∨ sd = 1) with rfl | rfl
    · exact z.1
    · exact z.2
theorem bi_and {P Q : Prop} : bi P &&& bi Q = bi (P ∧ Q) := by
  rcases Classical.em P with p | p <;> rcases Classical.em Q with q | q
  · rw [bi_t p, bi_t q, bi_t ⟨p, q⟩]; rfl
  · rw [bi_t p, bi_f q, bi_f (fun z => q z.2)]; rfl
  · rw [bi_f p, bi_t q, bi_f (fun z => p z.1)]; rfl
  · rw [bi_f p, bi_f q, bi_f (fun z => p z.1)]; rfl
theorem clP_s {s : SH} {c i : Nat} : (clP s c i ∧ usM s (pq s i (clN s i c))) = clP s c (i + 1) := propext ⟨fun z sd hsd => by
    rcases (by omega : sd < i ∨ sd = i) with y | y
    · exact z.1 sd y
    · rw [y]; exact z.2, fun z => ⟨fun sd hsd => z sd (by omega), z i (by omega)⟩⟩
set_option maxHeartbeats 1500000 in
set_option maxRecDepth 100000 in
theorem x_clashes {d k gg : Nat} {h : AH} {s : SH} (l : LW h k gg s) : AC mX6_clashes (d + 6) 0 0 [.ref (aN k)] h (Qe (some (.int (nI (nClash s)))) h) := by
  obtain ⟨⟨bs, pa, pn, pb, pg⟩, ⟨f0, f1, f4, f7, f8⟩, ⟨r9, r10, r5⟩, ⟨L, Z, rL, rZ, ⟨kL, pL⟩, ⟨kZ, pZ⟩, lin, siz⟩, ⟨M, rM, sM⟩, gon⟩ := id l
  have g := bs.1
  have gw := g.1
  have gh := g.2.1
  have gs := g.2.2.1
  have bw := bs.2.1
  have bh := bs.2.2.1
  have bl := bs.2.2.2
  have c12 := cells12 bs
  refine AC.of (by decide) rfl (Nat.le_of_ble_eq_true rfl) (fun X => ?_)
  show AW X mX6_clashes (d + 6) 0 0 0 [(0, .ref (aN k))] [] h (Qe (some (.int (nI (nClash s)))) h)
  have LO : ∀ (fu : Nat) (c : Nat), c ≤ sCells s → sCells s - c < fu → AW X mX6_clashes (d + 6) 0 0 4 [(0, .ref (aN k)), (1, .int (nI (cnt (fun c => clP s c 2) c))), (2, .int (nI c))] [] h (Qe (some (.int (nI (nClash s)))) h) := by
    intro fu
    induction fu with
    | zero => intro c hc hz; exact absurd hz (Nat.not_lt_zero _)
    | succ fu ih =>
      intro c hc hz
      have ihO := ih
      have hle := cnt_le (fun c => clP s c 2) c
      refine a_iload_n (pc := 4) (i := 2) dX6_clashes_4 rfl rfl ?_
      refine a_aload_n (pc := 5) (i := 0) dX6_clashes_5 rfl rfl ?_
      refine g_vV1 (pc := 6) (as := []) (b := aN k) (ci := 6) (v := .int (nI (sCells s))) (h' := h) dX6_clashes_6 (lc_RX6_82 rfl) ceX6_all kd_a pa (x_all l) rfl rfl (Nat.le_of_ble_eq_true rfl) rfl ?_
      refine n_icmp_ge (pc := 9) (tgt := 85) dX6_clashes_9 (by decide) (by omega) (by omega) (fun c9 => ?_) (fun c9 => ?_)
      · have e : c = sCells s := by omega
        refine a_iload_n (pc := 85) (i := 1) dX6_clashes_85 rfl rfl ?_
        refine a_top (show (.int (nI (cnt (fun c => clP s c 2) c)) : Value) = .int (nI (nClash s)) from by rw [e, clash_eq g]) ?_
        exact a_ireturn (pc := 86) dX6_clashes_86 rfl rfl (⟨rfl, rfl⟩)
      · skip
        have LI : ∀ (fu : Nat) (i : Nat), i ≤ 2 → 2 - i < fu → AW X mX6_clashes (d + 6) 0 0 17 [(0, .ref (aN k)), (1, .int (nI (cnt (fun c => clP s c 2) c))), (2, .int (nI c)), (3, .int (bi (clP s c i))), (4, .int (nI i))] [] h (Qe (some (.int (nI (nClash s)))) h) := by
          intro fu
          induction fu with
          | zero => intro i hi hz; exact absurd hz (Nat.not_lt_zero _)
          | succ fu ih =>
            intro i hi hz
            refine a_iload (pc := 17) (i := 4) dX6_clashes_17 rfl ?_
            refine a_iconst (pc := 19) (v := nI 2) dX6_clashes_19 (by decide) ?_
            refine n_icmp_ge (pc := 20) (tgt := 72) dX6_clashes_20 (by decide) (by omega) (by omega) (fun c20 => ?_) (fun c20 => ?_)
            · have e : i = 2 := by omega
              refine a_iload_n (pc := 72) (i := 3) dX6_clashes_72 rfl rfl ?_
              refine b_if_eq (pc := 73) (tgt := 79) dX6_clashes_73 (by decide) (fun c73 => ?_) (fun c73 => ?_)
              · skip
                refine n_iinc (pc := 79) (k := 1) (ls' := [(0, .ref (aN k)), (1, .int (nI (cnt (fun c => clP s c 2) c))), (2, .int (nI (c + 1))), (3, .int (bi (clP s c i))), (4, .int (nI i))]) dX6_clashes_79 rfl (by decide) (by decide) rfl ?_
                refine a_goto (pc := 82) (tgt := 4) dX6_clashes_82 (by decide) ?_
                refine a_drop (ls' := [(0, .ref (aN k)), (1, .int (nI (cnt (fun c => clP s c 2) c))), (2, .int (nI (c + 1)))]) (by simp) ?_
                refine a_locs (ls' := [(0, .ref (aN k)), (1, .int (nI (cnt (fun c => clP s c 2) (c + 1)))), (2, .int (nI (c + 1)))]) (by rw [cnt_no (P := fun c => clP s c 2) (n := c) (show ¬ clP s c 2 from by rw [← e]; exact c73)]) ?_
                exact ihO (c + 1) (by omega) (by omega)
              · skip
                refine n_iinc (pc := 76) (k := 1) (ls' := [(0, .ref (aN k)), (1, .int (nI ((cnt (fun c => clP s c 2) c) + 1))), (2, .int (nI c)), (3, .int (bi (clP s c i))), (4, .int (nI i))]) dX6_clashes_76 rfl (by decide) (by decide) rfl ?_
                refine n_iinc (pc := 79) (k := 1) (ls' := [(0, .ref (aN k)), (1, .int (nI ((cnt (fun c => clP s c 2) c) + 1))), (2, .int (nI (c + 1))), (3, .int (bi (clP s c i))), (4, .int (nI i))]) dX6_clashes_79 rfl (by decide) (by decide) rfl ?_
                refine a_goto (pc := 82) (tgt := 4) dX6_clashes_82 (by decide) ?_
                refine a_drop (ls' := [(0, .ref (aN k)), (1, .int (nI ((cnt (fun c => clP s c 2) c) + 1))), (2, .int (nI (c + 1)))]) (by simp) ?_
                refine a_locs (ls' := [(0, .ref (aN k)), (1, .int (nI (cnt (fun c => clP s c 2) (c + 1)))), (2, .int (nI (c + 1)))]) (by rw [cnt_yes (P := fun c => clP s c 2) (n := c) (show clP s c 2 from by rw [← e]; exact c73)]) ?_
                exact ihO (c + 1) (by omega) (by omega)
            · skip
              have hc2 := (clN_ok (sd := i) g c9).1
              have z1 := (chN_45 g (sd := i) (p := clN s i c)).1
              have hm : manyN s (chN (sLt s i (clN s i c))) (sLen s) ≤ sLen s := cnt_le _ _
              refine a_aload_n (pc := 23) (i := 0) dX6_clashes_23 rfl rfl ?_
              refine a_iload (pc := 24) (i := 4) dX6_clashes_24 rfl ?_
              refine a_iload_n (pc := 26) (i := 2) dX6_clashes_26 rfl rfl ?_
              refine g_vV1 (pc := 27) (as := [.int (nI i), .int (nI c)]) (b := aN k) (ci := 6) (v := .int (nI (clN s i c))) (h' := h) dX6_clashes_27 (lc_RX6_67 rfl) ceX6_cell kd_a pa (x_cell (d := d + 5) l c20 c9) rfl rfl (Nat.le_of_ble_eq_true rfl) rfl ?_
              refine a_istore (pc := 30) (i := 5) (ls' := [(0, .ref (aN k)), (1, .int (nI (cnt (fun c => clP s c 2) c))), (2, .int (nI c)), (3, .int (bi (clP s c i))), (4, .int (nI i)), (5, .int (nI (clN s i c)))]) dX6_clashes_30 (by decide) rfl ?_
              refine a_iload_n (pc := 32) (i := 3) dX6_clashes_32 rfl rfl ?_
              refine a_aload_n (pc := 33) (i := 0) dX6_clashes_33 rfl rfl ?_
              refine a_iload (pc := 34) (i := 4) dX6_clashes_34 rfl ?_
              refine a_iload (pc := 36) (i := 5) dX6_clashes_36 rfl ?_
              refine g_vV1 (pc := 38) (as := [.int (nI i), .int (nI (clN s i c))]) (b := aN k) (ci := 6) (v := .int (bi (qcu s (pq s i (clN s i c))))) (h' := h) dX6_clashes_38 (lc_RX6_74 rfl) ceX6_canUse kd_a pa (x_canUse (d := d) l c20 hc2) rfl rfl (Nat.le_of_ble_eq_true rfl) rfl ?_
              refine b_if_eq (pc := 41) (tgt := 63) dX6_clashes_41 (by decide) (fun c41 => ?_) (fun c41 => ?_)
              · skip
                refine a_iconst (pc := 63) (v := nI 0) dX6_clashes_63 (by decide) ?_
                refine a_top (show (.int (nI 0) : Value) = .int (bi (usM s (pq s i (clN s i c)))) from congrArg Value.int (by rw [bi_f (fun z => c41 z.1)]; rfl)) ?_
                refine a_iand (pc := 64) dX6_clashes_64 ?_
                refine a_top (show (.int ((bi (clP s c i)) &&& (bi (usM s (pq s i (clN s i c))))) : Value) = .int (bi (clP s c (i + 1))) from congrArg Value.int (by rw [bi_and, clP_s])) ?_
                refine a_istore_n (pc := 65) (i := 3) (ls' := [(0, .ref (aN k)), (1, .int (nI (cnt (fun c => clP s c 2) c))), (2, .int (nI c)), (3, .int (bi (clP s c (i + 1)))), (4, .int (nI i)), (5, .int (nI (clN s i c)))]) dX6_clashes_65 rfl (by decide) rfl ?_
                refine n_iinc (pc := 66) (k := 1) (ls' := [(0, .ref (aN k)), (1, .int (nI (cnt (fun c => clP s c 2) c))), (2, .int (nI c)), (3, .int (bi (clP s c (i + 1)))), (4, .int (nI (i + 1))), (5, .int (nI (clN s i c)))]) dX6_clashes_66 rfl (by decide) (by decide) rfl ?_
                refine a_goto (pc := 69) (tgt := 17) dX6_clashes_69 (by decide) ?_
                refine a_drop (ls' := [(0, .ref (aN k)), (1, .int (nI (cnt (fun c => clP s c 2) c))), (2, .int (nI c)), (3, .int (bi (clP s c (i + 1)))), (4, .int (nI (i + 1)))]) (by simp) ?_
                exact ih (i + 1) (by omega) (by omega)
              · skip
                refine a_aload_n (pc := 44) (i := 0) dX6_clashes_44 rfl rfl ?_
                refine a_aload_n (pc := 45) (i := 0) dX6_clashes_45 rfl rfl ?_
                refine a_iload (pc := 46) (i := 4) dX6_clashes_46 rfl ?_
                refine a_iload (pc := 48) (i := 5) dX6_clashes_48 rfl ?_
                refine g_vV1 (pc := 50) (as := [.int (nI i), .int (nI (clN s i c))]) (b := aN k) (ci := 6) (v := .int (nI (chN (sLt s i (clN s i c))))) (h' := h) dX6_clashes_50 (lc_RX6_63 rfl) ceX6_sign kd_a pa (x_sign (d := d + 1) l c20 hc2) rfl rfl (Nat.le_of_ble_eq_true rfl) rfl ?_
                refine g_vV1 (pc := 53) (as := [.int (nI (chN (sLt s i (clN s i c))))]) (b := aN k) (ci := 6) (v := .int (nI (manyN s (chN (sLt s i (clN s i c))) (sLen s)))) (h' := h) dX6_clashes_53 (lc_RX6_132 rfl) ceX6_many kd_a pa (x_many (d := d + 1) l z1) rfl rfl (Nat.le_of_ble_eq_true rfl) rfl ?_
                refine n_if_le (pc := 56) (tgt := 63) dX6_clashes_56 (by decide) (by omega) (fun c56 => ?_) (fun c56 => ?_)
                · skip
                  refine a_iconst (pc := 63) (v := nI 0) dX6_clashes_63 (by decide) ?_
                  refine a_top (show (.int (nI 0) : Value) = .int (bi (usM s (pq s i (clN s i c)))) from congrArg Value.int (by rw [bi_f (fun z => by have := z.2; rw [← many_in g c20 hc2 c41] at this; omega)]; rfl)) ?_
                  refine a_iand (pc := 64) dX6_clashes_64 ?_
                  refine a_top (show (.int ((bi (clP s c i)) &&& (bi (usM s (pq s i (clN s i c))))) : Value) = .int (bi (clP s c (i + 1))) from congrArg Value.int (by rw [bi_and, clP_s])) ?_
                  refine a_istore_n (pc := 65) (i := 3) (ls' := [(0, .ref (aN k)), (1, .int (nI (cnt (fun c => clP s c 2) c))), (2, .int (nI c)), (3, .int (bi (clP s c (i + 1)))), (4, .int (nI i)), (5, .int (nI (clN s i c)))]) dX6_clashes_65 rfl (by decide) rfl ?_
                  refine n_iinc (pc := 66) (k := 1) (ls' := [(0, .ref (aN k)), (1, .int (nI (cnt (fun c => clP s c 2) c))), (2, .int (nI c)), (3, .int (bi (clP s c (i + 1)))), (4, .int (nI (i + 1))), (5, .int (nI (clN s i c)))]) dX6_clashes_66 rfl (by decide) (by decide) rfl ?_
                  refine a_goto (pc := 69) (tgt := 17) dX6_clashes_69 (by decide) ?_
                  refine a_drop (ls' := [(0, .ref (aN k)), (1, .int (nI (cnt (fun c => clP s c 2) c))), (2, .int (nI c)), (3, .int (bi (clP s c (i + 1)))), (4, .int (nI (i + 1)))]) (by simp) ?_
                  exact ih (i + 1) (by omega) (by omega)
                · skip
                  refine a_iconst (pc := 59) (v := nI 1) dX6_clashes_59 (by decide) ?_
                  refine a_goto (pc := 60) (tgt := 64) dX6_clashes_60 (by decide) ?_
                  refine a_top (show (.int (nI 1) : Value) = .int (bi (usM s (pq s i (clN s i c)))) from congrArg Value.int (by rw [bi_t ⟨c41, by rw [← many_in g c20 hc2 c41]; exact c56⟩]; rfl)) ?_
                  refine a_iand (pc := 64) dX6_clashes_64 ?_
                  refine a_top (show (.int ((bi (clP s c i)) &&& (bi (usM s (pq s i (clN s i c))))) : Value) = .int (bi (clP s c (i + 1))) from congrArg Value.int (by rw [bi_and, clP_s])) ?_
                  refine a_istore_n (pc := 65) (i := 3) (ls' := [(0, .ref (aN k)), (1, .int (nI (cnt (fun c => clP s c 2) c))), (2, .int (nI c)), (3, .int (bi (clP s c (i + 1)))), (4, .int (nI i)), (5, .int (nI (clN s i c)))]) dX6_clashes_65 rfl (by decide) rfl ?_
                  refine n_iinc (pc := 66) (k := 1) (ls' := [(0, .ref (aN k)), (1, .int (nI (cnt (fun c => clP s c 2) c))), (2, .int (nI c)), (3, .int (bi (clP s c (i + 1)))), (4, .int (nI (i + 1))), (5, .int (nI (clN s i c)))]) dX6_clashes_66 rfl (by decide) (by decide) rfl ?_
                  refine a_goto (pc := 69) (tgt := 17) dX6_clashes_69 (by decide) ?_
                  refine a_drop (ls' := [(0, .ref (aN k)), (1, .int (nI (cnt (fun c => clP s c 2) c))), (2, .int (nI c)), (3, .int (bi (clP s c (i + 1)))), (4, .int (nI (i + 1)))]) (by simp) ?_
                  exact ih (i + 1) (by omega) (by omega)
        refine a_iconst (pc := 12) (v := nI 1) dX6_clashes_12 (by decide) ?_
        refine a_istore_n (pc := 13) (i := 3) (ls' := [(0, .ref (aN k)), (1, .int (nI (cnt (fun c => clP s c 2) c))), (2, .int (nI c)), (3, .int (nI 1))]) dX6_clashes_13 rfl (by decide) rfl ?_
        refine a_iconst (pc := 14) (v := nI 0) dX6_clashes_14 (by decide) ?_
        refine a_istore (pc := 15) (i := 4) (ls' := [(0, .ref (aN k)), (1, .int (nI (cnt (fun c => clP s c 2) c))), (2, .int (nI c)), (3, .int (nI 1)), (4, .int (nI 0))]) dX6_clashes_15 (by decide) rfl ?_
        refine a_locs (ls' := [(0, .ref (aN k)), (1, .int (nI (cnt (fun c => clP s c 2) c))), (2, .int (nI c)), (3, .int (bi (clP s c 0))), (4, .int (nI 0))]) (by rw [bi_t (show clP s c 0 from fun sd q => absurd q (Nat.not_lt_zero _))]; rfl) ?_
        exact LI 3 0 (by omega) (by omega)
  refine a_iconst (pc := 0) (v := nI 0) dX6_clashes_0 (by decide) ?_
  refine a_istore_n (pc := 1) (i := 1) (ls' := [(0, .ref (aN k)), (1, .int (nI 0))]) dX6_clashes_1 rfl (by decide) rfl ?_
  refine a_iconst (pc := 2) (v := nI 0) dX6_clashes_2 (by decide) ?_
  refine a_istore_n (pc := 3) (i := 2) (ls' := [(0, .ref (aN k)), (1, .int (nI 0)), (2, .int (nI 0))]) dX6_clashes_3 rfl (by decide) rfl ?_
  refine a_locs (ls' := [(0, .ref (aN k)), (1, .int (nI (cnt (fun c => clP s c 2) 0))), (2, .int (nI 0))]) rfl ?_
  exact LO (sCells s + 1) 0 (by omega) (by omega)
