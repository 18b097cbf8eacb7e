/-! the law: the changes, what is undone, the last refusals -/
set_option maxHeartbeats 1500000 in
set_option maxRecDepth 100000 in
theorem lw_body {X : XT} {nm : String} {hh : List (Nat × Nat × Nat × Nat)} {d i n k kb dn kc ks : Nat} {K : Nat → Nat} (hi : i < 2) (hn18 : n < 18) (hdn : dn ≤ n) (hK : ∀ (H : AH) (t2 : ST) (dn2 : Nat) (K2 : Nat → Nat), dn2 ≤ n + 1 → LI H t2 k kb dn2 K2 → AW X (mLaw nm hh) (d + 105) kc ks 233 [(0, .ref 1000), (1, .int (nI 1)), (2, .int (nI i)), (3, .ref 0), (4, .ref 66), (5, .ref 67), (6, .ref (aN k)), (7, .ref (bfN kb)), (8, .int (nI dn2)), (9, .int (nI (n + 1)))] [] H QL) {H : AH} {t : ST} (li : LI H t k kb dn K) : AW X (mLaw nm hh) (d + 105) (kc + 60) (ks + 600) 233 [(0, .ref 1000), (1, .int (nI 1)), (2, .int (nI i)), (3, .ref 0), (4, .ref 66), (5, .ref 67), (6, .ref (aN k)), (7, .ref (bfN kb)), (8, .int (nI dn)), (9, .int (nI n))] [] H QL := by
  obtain ⟨im, hb, bz, l, b⟩ := id li
  have hn := im.1.1.1
  have c12 := cells12 l.1.1
  have h8 : tN t ≤ 8 := im.1.2.1.2.2.2.1
  refine a_iload (pc := 233) (i := 9) dL_law_233 rfl ?_
  refine a_bipush (pc := 235) (v := nI 18) dL_law_235 (by decide) ?_
  refine n_icmp_ge (pc := 237) (tgt := 795) dL_law_237 (by decide) (by omega) (by omega) (fun c237 => ?_) (fun c237 => ?_)
  · skip
    exact absurd c237 (by omega)
  · skip
    refine a_iload_n (pc := 240) (i := 1) dL_law_240 rfl rfl ?_
    refine n_if_eq (pc := 241) (tgt := 795) dL_law_241 (by decide) (by omega) (fun c241 => ?_) (fun c241 => ?_)
    · skip
      exact absurd c241 (by decide)
    · skip
      refine a_aload (pc := 244) (i := 6) dL_law_244 rfl ?_
      refine a_wf (fun hw => ?_)
      refine a_room (kc' := (kc + 49) + 7) (ks' := (ks + 438) + (66 + sCells (tC t))) (by omega) (by omega) ?_
      obtain ⟨kp, hkp⟩ : ∃ x, x = dl (hN H) := ⟨_, rfl⟩
      refine e_VW (pc := 246) (mc := 7) (ms := 66 + sCells (tC t)) (kc := kc + 49) (ks := ks + 438) (as := []) (b := aN k) (ci := 6) dL_law_246 (lc_RL_210 rfl) ceX6_copy kd_a l.1.2.1 (x_copy (d := d + 102) l hkp.symm) rfl rfl (Nat.le_of_ble_eq_true rfl) (fun E h2 y => by cases y.1) rfl rfl (Or.inr ⟨(okc (okd_x (by unfold ext; omega)) (okc okd_i (okc okd_i (okc (okd_r (prN_st (Nat.lt_of_lt_of_le (by decide) hn) (by decide))) (okc (okd_r (prN_st (Nat.lt_of_lt_of_le (by decide) hn) (by decide))) (okc (okd_r (prN_st (Nat.lt_of_lt_of_le (by decide) hn) (by decide))) (okc (okd_r l.1.2.1) (okc (okd_r b.1) (okc okd_i (okc okd_i okz)))))))))), okz⟩) (fun v2 H1 y => ?_)
      obtain ⟨ev, lp, dq⟩ := y
      cases ev
      have o := OT.of hw b l.1.2.1 dq (by rw [← hkp]; exact lp)
      rw [← hkp] at o
      have m1 : MJ H1 t t k kp kb dn K := ⟨im.dq dq (fun a z => z.elim), hb, bz.dq hn dq id, l.dq dq okS_no id id, o⟩
      refine a_astore (pc := 249) (i := 10) (ls' := [(0, .ref 1000), (1, .int (nI 1)), (2, .int (nI i)), (3, .ref 0), (4, .ref 66), (5, .ref 67), (6, .ref (aN k)), (7, .ref (bfN kb)), (8, .int (nI dn)), (9, .int (nI n)), (10, .ref (aN kp))]) dL_law_249 (Nat.le_of_ble_eq_true rfl) rfl ?_
      refine a_iconst (pc := 251) (v := nI 1) dL_law_251 (by decide) ?_
      refine a_istore (pc := 252) (i := 11) (ls' := [(0, .ref 1000), (1, .int (nI 1)), (2, .int (nI i)), (3, .ref 0), (4, .ref 66), (5, .ref 67), (6, .ref (aN k)), (7, .ref (bfN kb)), (8, .int (nI dn)), (9, .int (nI n)), (10, .ref (aN kp)), (11, .int (nI 1))]) dL_law_252 (Nat.le_of_ble_eq_true rfl) rfl ?_
      refine a_aload (pc := 254) (i := 5) dL_law_254 rfl ?_
      refine a_bipush (pc := 256) (v := nI 7) dL_law_256 (by decide) ?_
      refine g_wV (pc := 258) (as := [.int (nI 7)]) (b := 67) (ci := 5) dL_law_258 (lc_RL_98 rfl) ceX5_below k67 (prN_st (Nat.lt_of_lt_of_le (by decide) m1.n68) (by decide)) (x_below (d := d + 104) m1.n68 (by omega)) rfl rfl (Nat.le_of_ble_eq_true rfl) (fun E h2 y => by obtain ⟨n, x, -, y, -⟩ := y; cases y) (fun v2 h2 y => by obtain ⟨n, x, -, -, y⟩ := y; rw [y]; rfl) (fun v2 hx y => ?_)
      obtain ⟨q0, x0, hq0, evq0, rfl⟩ := y
      cases evq0
      have m2 := m1.bel (x := x0)
      have hY := fun (H : AH) (t2 : ST) mj e => lw_yes (H := H) (t2 := t2) (t := t) (kp := kp) (K := K) (nm := nm) (hh := hh) (X := X) (d := d) hi hn18 hdn hK mj h8 e
      have hZ := fun (H : AH) (t2 : ST) mj e => lw_no (H := H) (t2 := t2) (t := t) (kp := kp) (K := K) (nm := nm) (hh := hh) (X := X) (d := d) hi hn18 hdn hK mj e
      rcases tb_4 (nI q0) with e0 | e1 | e2 | e3 | e4 | e
      · refine a_tableIn (pc := 261) (tgt := 296) dL_law_261 (by rw [e0]; decide) (by rw [e0]; decide) (by rw [e0]; rfl) (by decide) ?_
        exact AW.mono (lw_c0 hY m2) (by omega) (by omega)
      · refine a_tableIn (pc := 261) (tgt := 296) dL_law_261 (by rw [e1]; decide) (by rw [e1]; decide) (by rw [e1]; rfl) (by decide) ?_
        exact AW.mono (lw_c0 hY m2) (by omega) (by omega)
      · refine a_tableIn (pc := 261) (tgt := 334) dL_law_261 (by rw [e2]; decide) (by rw [e2]; decide) (by rw [e2]; rfl) (by decide) ?_
        exact AW.mono (lw_c2 hY hZ m2) (by omega) (by omega)
      · refine a_tableIn (pc := 261) (tgt := 408) dL_law_261 (by rw [e3]; decide) (by rw [e3]; decide) (by rw [e3]; rfl) (by decide) ?_
        exact AW.mono (lw_c3 hY hZ m2) (by omega) (by omega)
      · refine a_tableIn (pc := 261) (tgt := 559) dL_law_261 (by rw [e4]; decide) (by rw [e4]; decide) (by rw [e4]; rfl) (by decide) ?_
        exact AW.mono (lw_c4 hY hZ m2) (by omega) (by omega)
      · refine a_tableOut (pc := 261) (tgt := 628) dL_law_261 e (by decide) ?_
        exact AW.mono (lw_c5 hY hZ m2) (by omega) (by omega)
set_option maxHeartbeats 1500000 in
set_option maxRecDepth 100000 in
theorem lw_all {X : XT} {nm : String} {hh : List (Nat × Nat × Nat × Nat)} {d i k kb kc ks : Nat} (hi : i < 2) (hU : ∀ (H : AH) (t : ST) (dn n : Nat) (K : Nat → Nat), dn ≤ 18 → LI H t k kb dn K → AW X (mLaw nm hh) (d + 105) kc ks 795 [(0, .ref 1000), (1, .int (nI 1)), (2, .int (nI i)), (3, .ref 0), (4, .ref 66), (5, .ref 67), (6, .ref (aN k)), (7, .ref (bfN kb)), (8, .int (nI dn)), (9, .int (nI n))] [] H QL) : ∀ (fu n dn : Nat) (H : AH) (t : ST) (K : Nat → Nat), n ≤ 18 → dn ≤ n → LI H t k kb dn K → 18 - n < fu → AW X (mLaw nm hh) (d + 105) (60 * (18 - n) + kc) (600 * (18 - n) + ks) 233 [(0, .ref 1000), (1, .int (nI 1)), (2, .int (nI i)), (3, .ref 0), (4, .ref 66), (5, .ref 67), (6, .ref (aN k)), (7, .ref (bfN kb)), (8, .int (nI dn)), (9, .int (nI n))] [] H QL := by
  intro fu
  induction fu with
  | zero => intro n dn H t K hn hdn li hz; exact absurd hz (Nat.not_lt_zero _)
  | succ fu ih =>
    intro n dn H t K hn hdn li hz
    rcases Nat.lt_or_ge n 18 with z | z
    · skip
      refine AW.mono (lw_body (kc := 60 * (18 - (n + 1)) + kc) (ks := 600 * (18 - (n + 1)) + ks) hi z hdn (fun H t2 dn2 K2 hd2 li2 => ih (n + 1) dn2 H t2 K2 (by omega) hd2 li2 (by omega)) li) (by omega) (by omega)
    · skip
      refine a_iload (pc := 233) (i := 9) dL_law_233 rfl ?_
      refine a_bipush (pc := 235) (v := nI 18) dL_law_235 (by decide) ?_
      refine n_icmp_ge (pc := 237) (tgt := 795) dL_law_237 (by decide) (by omega) (by omega) (fun c237 => ?_) (fun c237 => ?_)
      · skip
        exact AW.mono (hU H t dn n K (by omega) li) (by omega) (by omega)
      · skip
        exact absurd c237 (by omega)
def UB (H : AH) (t : ST) (kb dn m : Nat) (K : Nat → Nat) : Prop := prN (hN H) (bfN kb) ∧ (∀ j, m ≤ j → j < dn → j < 8 → j - m < tN t ∧ hR H (bfN kb) j = some (aN (K j)) ∧ LW H (K j) 6 (pastK t (j - m))) ∧ ∀ i j, i < j → j < dn → j < 8 → K i ≠ K j
theorem BFs.ub {k kb dn : Nat} {H : AH} {t : ST} {K : Nat → Nat} (b : BFs H t k kb dn K) : UB H t kb dn 0 K := ⟨b.1, fun j _ h1 h2 => by
  obtain ⟨x1, x2, x3, -⟩ := b.2.2.1 j h1 h2
  exact ⟨x1, x2, x3⟩, b.2.2.2⟩
theorem UB.step {kb dn m : Nat} {H H1 H2 : AH} {t : ST} {K : Nat → Nat} (u : UB H t kb dn m K) (hm : m < dn ∧ m < 8) (f : Fw H H1) (hn : 68 ≤ hN H) (d : Dq (S66k (K m)) 0 H1 H2) : UB H2 (oUndo t).2 kb dn (m + 1) K := by
  obtain ⟨u1, u2, u3⟩ := u
  have d1 := f.dq hn
  have hs : ∀ {k : Nat} (a : Nat), a < 66 → SK k a := fun a z => Or.inl (Nat.lt_of_lt_of_le z (by decide))
  have e1 := d1.2.2 _ u1 (fun z => SK_b (k := 0) (hs _ z))
  have p1 := d1.2.1 _ u1
  have e2 := d.2.2 _ p1 (fun z => SK_b (S66k_SK z))
  refine ⟨d.2.1 _ p1, fun j h0 h1 h2 => ?_, u3⟩
  obtain ⟨x1, x2, x3⟩ := u2 j (by omega) h1 h2
  obtain ⟨y1, y2⟩ := ou_past (t := t) (k := j - (m + 1)) (by omega)
  rw [y1, y2, show j - (m + 1) + 1 = j - m by omega]
  exact ⟨by omega, by rw [e2.2.2, e1.2.2]; exact x2, (x3.dq d1 okS_66 (fun z => by have := nm_hi (k := K j) (q := 6); have z : nm (K j) 6 < 66 := z; omega) (fun z => nm_68 (Nat.lt_of_lt_of_le z (by decide)))).sk d (fun a z => S66k_SK z) (fun e => u3 m j (by omega) h1 h2 e.symm)⟩
set_option maxHeartbeats 1500000 in
set_option maxRecDepth 100000 in
theorem lw_undo {X : XT} {nm : String} {hh : List (Nat × Nat × Nat × Nat)} {d i n k kb dn kc ks : Nat} {K : Nat → Nat} (hi : i < 2) (hdn : dn ≤ 18) (hF : ∀ (H : AH) (t : ST), IM H t → tB t = 0 → AW X (mLaw nm hh) (d + 105) kc ks 847 [(0, .ref 1000), (1, .int (nI 1)), (2, .int (nI i)), (3, .ref 0)] [] H QL) : ∀ (fu m : Nat) (H : AH) (t : ST), m ≤ 8 → IM H t → tB t = 0 → UB H t kb dn m K → 8 - m < fu → AW X (mLaw nm hh) (d + 105) (12 * (8 - m) + kc) (72 * (8 - m) + ks) 798 [(0, .ref 1000), (1, .int (nI 1)), (2, .int (nI i)), (3, .ref 0), (4, .ref 66), (5, .ref 67), (6, .ref (aN k)), (7, .ref (bfN kb)), (8, .int (nI dn)), (9, .int (nI m))] [] H QL := by
  intro fu
  induction fu with
  | zero => intro m H t hm im hb u hz; exact absurd hz (Nat.not_lt_zero _)
  | succ fu ih =>
    intro m H t hm im hb u hz
    have hn := im.1.1.1
    have h8 : tN t ≤ 8 := im.1.2.1.2.2.2.1
    refine a_iload (pc := 798) (i := 9) dL_law_798 rfl ?_
    refine a_bipush (pc := 800) (v := nI 8) dL_law_800 (by decide) ?_
    refine n_icmp_ge (pc := 802) (tgt := 847) dL_law_802 (by decide) (by omega) (by omega) (fun c802 => ?_) (fun c802 => ?_)
    · skip
      refine a_drop (ls' := [(0, .ref 1000), (1, .int (nI 1)), (2, .int (nI i)), (3, .ref 0)]) (by simp) ?_
      exact AW.mono (hF H t im hb) (by omega) (by omega)
    · skip
      refine a_iload (pc := 805) (i := 9) dL_law_805 rfl ?_
      refine a_iload (pc := 807) (i := 8) dL_law_807 rfl ?_
      refine n_icmp_ge (pc := 809) (tgt := 847) dL_law_809 (by decide) (by omega) (by omega) (fun c809 => ?_) (fun c809 => ?_)
      · skip
        refine a_drop (ls' := [(0, .ref 1000), (1, .int (nI 1)), (2, .int (nI i)), (3, .ref 0)]) (by simp) ?_
        exact AW.mono (hF H t im hb) (by omega) (by omega)
      · skip
        refine a_iload_n (pc := 812) (i := 1) dL_law_812 rfl rfl ?_
        refine n_if_eq (pc := 813) (tgt := 847) dL_law_813 (by decide) (by omega) (fun c813 => ?_) (fun c813 => ?_)
        · skip
          exact absurd c813 (by decide)
        · skip
          obtain ⟨x1, x2, x3⟩ := u.2.1 m (Nat.le_refl m) (by omega) (by omega)
          rw [Nat.sub_self] at x1 x3
          have eo := ou_yes (t := t) x1
          refine a_aload_n (pc := 816) (i := 3) dL_law_816 rfl rfl ?_
          refine a_room (kc' := (12 * (8 - (m + 1)) + kc) + 12) (ks' := (72 * (8 - (m + 1)) + ks) + 72) (by omega) (by omega) ?_
          refine e_VW (pc := 817) (mc := 0) (ms := 0) (kc := (12 * (8 - (m + 1)) + kc) + 12) (ks := (72 * (8 - (m + 1)) + ks) + 72) (as := []) (b := 0) (ci := 4) dL_law_817 (lc_RL_193 rfl) ceX4_undo k0 (prN_st (Nat.lt_of_lt_of_le (by decide) hn) (by decide)) (sp_undo (d := d + 4) im) rfl rfl (Nat.le_of_ble_eq_true rfl) (fun E h2 y => by have z := y.1; rw [eo] at z; cases z) rfl rfl (Or.inl (fun v h2 y => y.2.2.1)) (fun v2 H1 y => ?_)
          obtain ⟨ev, m1, f1⟩ := y
          have hb1 : tB (oUndo t).2 = 0 := by rw [eo]; exact hb
          have d1 := f1.dq hn
          have p1 := d1.2.1 _ u.1
          have e1 : hR H1 (bfN kb) m = some (aN (K m)) := by rw [(d1.2.2 _ u.1 (fun z => SK_b (k := 0) (Or.inl (Nat.lt_of_lt_of_le z (by decide))))).2.2]; exact x2
          have l1 : LW H1 (K m) 6 (tC (oUndo t).2) := by
            rw [eo]
            exact x3.dq d1 okS_66 (fun z => nm_68 (Nat.lt_of_lt_of_le z (by decide))) (fun z => nm_68 (Nat.lt_of_lt_of_le z (by decide)))
          have ev2 : v2 = some (.int (nI (tN t - 1))) := by rw [eo] at ev; exact Sum.inl.inj ev
          subst ev2
          refine n_if_lt (pc := 820) (tgt := 839) dL_law_820 (by decide) (by omega) ?_
          refine a_aload_n (pc := 823) (i := 3) dL_law_823 rfl rfl ?_
          refine a_aload (pc := 824) (i := 7) dL_law_824 rfl ?_
          refine a_iload (pc := 826) (i := 9) dL_law_826 rfl ?_
          refine g_aaldo (pc := 828) (t := 7) (n := 9) (j := m) (b := aN (K m)) dL_law_828 kd_bf (Or.inr (Or.inr rfl)) p1 rfl (by omega) e1 ?_
          refine e_SW (pc := 829) (mc := 12) (ms := 72) (kc := 12 * (8 - (m + 1)) + kc) (ks := 72 * (8 - (m + 1)) + ks) (as := [.ref 0, .ref (aN (K m))]) dL_law_829 (lc_RL_186 rfl) ceL_agrees (w_agrees (d := d + 2) m1 l1) rfl rfl (Nat.le_of_ble_eq_true rfl) (fun E h2 y => by cases y.1) rfl rfl (Or.inl (fun v h2 y => y.2.2.2.2)) (fun v2 H2 y => ?_)
          obtain ⟨ev, m2, l2, d2, e2⟩ := y
          cases ev
          refine n_if_eq (pc := 832) (tgt := 839) dL_law_832 (by decide) (by omega) (fun c832 => ?_) (fun c832 => ?_)
          · skip
            exact absurd c832 (by decide)
          · skip
            refine a_iconst (pc := 835) (v := nI 1) dL_law_835 (by decide) ?_
            refine a_goto (pc := 836) (tgt := 840) dL_law_836 (by decide) ?_
            refine a_istore_n (pc := 840) (i := 1) (ls' := [(0, .ref 1000), (1, .int (nI 1)), (2, .int (nI i)), (3, .ref 0), (4, .ref 66), (5, .ref 67), (6, .ref (aN k)), (7, .ref (bfN kb)), (8, .int (nI dn)), (9, .int (nI m))]) dL_law_840 rfl (Nat.le_of_ble_eq_true rfl) rfl ?_
            refine n_iinc (pc := 841) (k := 1) (ls' := [(0, .ref 1000), (1, .int (nI 1)), (2, .int (nI i)), (3, .ref 0), (4, .ref 66), (5, .ref 67), (6, .ref (aN k)), (7, .ref (bfN kb)), (8, .int (nI dn)), (9, .int (nI (m + 1)))]) dL_law_841 rfl (by first | decide | exact Nat.le_of_ble_eq_true rfl) (by first | decide | exact Nat.le_of_ble_eq_true rfl) rfl ?_
            refine a_goto (pc := 844) (tgt := 798) dL_law_844 (by decide) ?_
            exact ih (m + 1) H2 _ (by omega) m2 hb1 (u.step ⟨by omega, by omega⟩ f1 hn d2) (by omega)
