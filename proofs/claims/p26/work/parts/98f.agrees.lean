/-! agrees -/
def S66k (k : Nat) : Nat → Prop := fun a => a < 66 ∨ SN k a
/-- the object and the Sheet k say the same -/
def AG (h0 h : AH) (t : ST) (k gg : Nat) : Prop := IM h t ∧ LW h k gg (tC t) ∧ Dq (S66k k) 0 h0 h ∧ hN h = hN h0
theorem nm_hi {k q : Nat} : 68 ≤ nm k q := by unfold nm; omega
theorem AG.fw {h0 h h2 : AH} {t t2 : ST} {k gg : Nat} (a : AG h0 h t k gg) (m : IM h2 t) (f : Fw h h2) : AG h0 h2 t k gg := by
  have d := f.dq a.1.1.1.1
  refine ⟨m, a.2.1.dq d okS_66 (fun z => absurd z (by have := nm_hi (k := k) (q := 6); show ¬ aN k < 66; unfold aN; omega)) (fun z => absurd z (by have := nm_hi (k := k + gg) (q := qA 2 (sCells (tC t))); show ¬ gonN k gg (tC t) < 66; unfold gonN; omega)), a.2.2.1.trans (d.mono (fun x hx => Or.inl hx)), f.1.trans a.2.2.2⟩
theorem SN_hi {k a : Nat} (h : SN k a) : 68 ≤ a := by
  rcases h with rfl | rfl | rfl <;> exact nm_hi
theorem AG.fs {h0 h h2 : AH} {t : ST} {k gg : Nat} (a : AG h0 h t k gg) (f : FrS k h h2) : AG h0 h2 t k gg := by
  have d := f.dq a.1.1.1.1
  exact ⟨a.1.dq d (fun x hx => by have := SN_hi hx; omega), a.2.1.frs f, a.2.2.1.trans (d.mono (fun x hx => Or.inr hx)), f.1.trans a.2.2.2⟩
theorem st_8 {s : SH} : wn (rState s (nI 8)) = -2000000098 := by
  rw [show rState s (nI 8) = .inr eIA from sel_in (by decide)]
  decide
theorem st_w {s : SH} {w : Nat} (hw : w < 8) : wn (rState s (nI w)) = nI (tdN s w) := by
  unfold rState
  rw [sel_in (by omega)]
  match w, hw with
  | 0, _ => rfl
  | 1, _ => rfl
  | 2, _ => rfl
  | 3, _ => rfl
  | 4, _ => rfl
  | 5, _ => rfl
  | 6, _ => rfl
  | 7, _ => rfl
  | w + 8, h => exact absurd h (by omega)
theorem le_2 {s : SH} : wn (rLetter s (nI 2) (nI 0)) = -2000000097 := by
  rw [show rLetter s (nI 2) (nI 0) = .inr eIO from cif_f (fun z => z.1.elim (fun y => absurd y (by decide)) (fun y => absurd y (by decide)))]
  decide
theorem le_all {s : SH} (h : sCells s < 1000) : wn (rLetter s (nI 0) (nI (sCells s))) = -2000000097 := by
  rw [show rLetter s (nI 0) (nI (sCells s)) = .inr eIO from cif_f (fun z => by
    obtain ⟨-, n, h1, h2⟩ := z
    have := (nI_eq (a := sCells s) (b := n) (by omega) (by omega)).mp h2
    omega)]
  decide
theorem me_all {s : SH} (h : sLen s < 1000) : wn (rMessage s (nI (sLen s))) = -2000000100 := by
  rw [show rMessage s (nI (sLen s)) = .inr eNS from cif_f (fun z => by
    obtain ⟨n, h1, h2⟩ := z
    have := (nI_eq (a := sLen s) (b := n) (by omega) (by omega)).mp h2
    omega)]
  decide
def QAg (h : AH) (t : ST) (k gg : Nat) : Res → AH → Prop := fun r h2 => r = .inl (some (.int (nI 1))) ∧ AG h h2 t k gg
set_option maxHeartbeats 1500000 in
set_option maxRecDepth 100000 in
theorem w_agrees {d k gg : Nat} {h : AH} {t : ST} (m : IM h t) (l : LW h k gg (tC t)) : AC mL_agrees (d + 102) 12 72 [.ref 0, .ref (aN k)] h (QAg h t k gg) := by
  refine AC.of (by decide) rfl (Nat.le_of_ble_eq_true rfl) (fun X => ?_)
  show AW X mL_agrees (d + 102) 12 72 0 [(0, .ref 0), (1, .ref (aN k))] [] h (QAg h t k gg)
  have bs := l.1.1
  have g := bs.1
  have gw := g.1
  have gh := g.2.1
  have h9 : sLen (tC t) ≤ 9 := bs.2.2.2
  have c12 := cells12 bs
  have ag0 : AG h h t k gg := ⟨m, l, Dq.refl m.1.1.1, rfl⟩
  have LP : ∀ (fu w : Nat) (H : AH), w ≤ 8 → AG h H t k gg → 8 - w < fu → AW X mL_agrees (d + 102) (8 - w) (6 * (8 - w)) 72 [(0, .ref 0), (1, .ref (aN k)), (2, .int (nI 1)), (3, .int (nI w))] [] H (QAg h t k gg) := by
    intro fu
    induction fu with
    | zero => intro w H hw ag hz; exact absurd hz (Nat.not_lt_zero _)
    | succ fu ih =>
      intro w H hw ag hz
      refine a_iload_n (pc := 72) (i := 3) dL_agrees_72 rfl rfl ?_
      refine a_bipush (pc := 73) (v := nI 8) dL_agrees_73 (by decide) ?_
      refine n_icmp_ge (pc := 75) (tgt := 107) dL_agrees_75 (by decide) (by omega) (by omega) (fun c75 => ?_) (fun c75 => ?_)
      · skip
        refine a_iload_n (pc := 107) (i := 2) dL_agrees_107 rfl rfl ?_
        exact a_ireturn (pc := 108) dL_agrees_108 rfl rfl (⟨rfl, ag⟩)
      · skip
        refine a_iload_n (pc := 78) (i := 2) dL_agrees_78 rfl rfl ?_
        refine n_if_eq (pc := 79) (tgt := 107) dL_agrees_79 (by decide) (by omega) (fun c79 => ?_) (fun c79 => ?_)
        · skip
          exact absurd c79 (by decide)
        · skip
          refine a_aload_n (pc := 82) (i := 0) dL_agrees_82 rfl rfl ?_
          refine a_iload_n (pc := 83) (i := 3) dL_agrees_83 rfl rfl ?_
          refine a_room (kc' := (7 - w) + 1) (ks' := 6 * (7 - w) + 6) (by omega) (by omega) ?_
          refine g_pX (pc := 84) (kc := 7 - w) (ks := 6 * (7 - w)) (as := [.ref 0, .int (nI w)]) dL_agrees_84 (lc_RL_169 rfl) ceL_state (sL_state (d := d) ag.1) rfl rfl (Nat.le_of_ble_eq_true rfl) rfl rfl (fun H1 m1 f1 => ?_)
          have ag1 := ag.fw (t2 := t) m1 f1
          refine a_top (show (.int (wn (rState (tC t) (nI w))) : Value) = .int (nI (tdN (tC t) w)) from by rw [st_w c75]) ?_
          refine a_aload_n (pc := 87) (i := 1) dL_agrees_87 rfl rfl ?_
          refine a_iload_n (pc := 88) (i := 3) dL_agrees_88 rfl rfl ?_
          refine g_vV1 (pc := 89) (as := [.int (nI w)]) (b := aN k) (ci := 6) (v := .int (nI (tdN (tC t) w))) (h' := H1) dL_agrees_89 (lc_RL_179 rfl) ceX6_told kd_a ag1.2.1.1.2.1 (x_told (d := d + 95) ag1.2.1 c75) rfl rfl (Nat.le_of_ble_eq_true rfl) rfl ?_
          refine a_top (show (.int (nI (tdN (tC t) w)) : Value) = .int (nI (tdN (tC t) w)) from rfl) ?_
          refine a_icmp_ne (pc := 92) (tgt := 99) dL_agrees_92 (by decide) (fun c92 => ?_) (fun c92 => ?_)
          · skip
            exact absurd rfl c92
          · skip
            refine a_iconst (pc := 95) (v := nI 1) dL_agrees_95 (by decide) ?_
            refine a_goto (pc := 96) (tgt := 100) dL_agrees_96 (by decide) ?_
            refine a_istore_n (pc := 100) (i := 2) (ls' := [(0, .ref 0), (1, .ref (aN k)), (2, .int (nI 1)), (3, .int (nI w))]) dL_agrees_100 rfl (by decide) rfl ?_
            refine n_iinc (pc := 101) (k := 1) (ls' := [(0, .ref 0), (1, .ref (aN k)), (2, .int (nI 1)), (3, .int (nI (w + 1)))]) dL_agrees_101 rfl (by decide) (by decide) rfl ?_
            refine a_goto (pc := 104) (tgt := 72) dL_agrees_104 (by decide) ?_
            refine a_room (kc' := 8 - (w + 1)) (ks' := 6 * (8 - (w + 1))) (by omega) (by omega) ?_
            exact ih (w + 1) H1 (by omega) ag1 (by omega)
  refine a_aload_n (pc := 0) (i := 0) dL_agrees_0 rfl rfl ?_
  refine g_wV (pc := 1) (as := []) (b := 0) (ci := 4) dL_agrees_1 (lc_RL_164 rfl) ceX4_checksum k0 (prN_st (Nat.lt_of_lt_of_le (by decide) ag0.1.1.1.1) (by decide)) (sp_checksum (d := d + 1) m) rfl rfl (Nat.le_of_ble_eq_true rfl) (fun E h2 y => by cases y.1) (fun v2 h2 y => y.2.2.1) (fun v2 H1 y => ?_)
  obtain ⟨ev, m1, f1⟩ := y
  cases ev
  have ag1 := ag0.fw (t2 := t) m1 f1
  refine a_aload_n (pc := 4) (i := 1) dL_agrees_4 rfl rfl ?_
  refine g_wV (pc := 5) (as := []) (b := aN k) (ci := 6) dL_agrees_5 (lc_RL_168 rfl) ceX6_checksum kd_a ag1.2.1.1.2.1 (x_checksum (d := d + 83) ag1.2.1 h9) rfl rfl (Nat.le_of_ble_eq_true rfl) (fun E h2 y => by cases y.1) (fun v2 h2 y => y.2.1) (fun v2 H2 y => ?_)
  obtain ⟨ev, f2⟩ := y
  cases ev
  have ag2 := ag1.fs f2
  refine a_lcmp (pc := 8) dL_agrees_8 ?_
  refine a_if_ne (pc := 9) (tgt := 68) dL_agrees_9 (by decide) (fun c9 => ?_) (fun c9 => ?_)
  · skip
    exact absurd ((lg_cmp_eq _ _).mpr rfl) c9
  · skip
    refine a_aload_n (pc := 12) (i := 0) dL_agrees_12 rfl rfl ?_
    refine a_bipush (pc := 13) (v := nI 8) dL_agrees_13 (by decide) ?_
    refine g_pX (pc := 15) (kc := 11) (ks := 66) (as := [.ref 0, .int (nI 8)]) dL_agrees_15 (lc_RL_169 rfl) ceL_state (sL_state (d := d) ag2.1) rfl rfl (Nat.le_of_ble_eq_true rfl) rfl rfl (fun H3 m3 f3 => ?_)
    have ag3 := ag2.fw (t2 := t) m3 f3
    refine a_top (show (.int (wn (rState (tC t) (nI 8))) : Value) = .int ((-2000000098)) from by rw [st_8]) ?_
    refine a_ldc (pc := 18) (v := (-2000000098)) dL_agrees_18 (li_RL_42 rfl) ?_
    refine a_icmp_ne (pc := 20) (tgt := 68) dL_agrees_20 (by decide) (fun c20 => ?_) (fun c20 => ?_)
    · skip
      exact absurd rfl c20
    · skip
      refine a_aload_n (pc := 23) (i := 0) dL_agrees_23 rfl rfl ?_
      refine a_iconst (pc := 24) (v := nI 2) dL_agrees_24 (by decide) ?_
      refine a_iconst (pc := 25) (v := nI 0) dL_agrees_25 (by decide) ?_
      refine g_pX (pc := 26) (kc := 10) (ks := 60) (as := [.ref 0, .int (nI 2), .int (nI 0)]) dL_agrees_26 (lc_RL_171 rfl) ceL_letter (sL_letter (d := d) ag3.1) rfl rfl (Nat.le_of_ble_eq_true rfl) rfl rfl (fun H4 m4 f4 => ?_)
      have ag4 := ag3.fw (t2 := t) m4 f4
      refine a_top (show (.int (wn (rLetter (tC t) (nI 2) (nI 0))) : Value) = .int ((-2000000097)) from by rw [le_2]) ?_
      refine a_ldc (pc := 29) (v := (-2000000097)) dL_agrees_29 (li_RL_52 rfl) ?_
      refine a_icmp_ne (pc := 31) (tgt := 68) dL_agrees_31 (by decide) (fun c31 => ?_) (fun c31 => ?_)
      · skip
        exact absurd rfl c31
      · skip
        refine a_aload_n (pc := 34) (i := 0) dL_agrees_34 rfl rfl ?_
        refine a_iconst (pc := 35) (v := nI 0) dL_agrees_35 (by decide) ?_
        refine a_aload_n (pc := 36) (i := 1) dL_agrees_36 rfl rfl ?_
        refine g_vV1 (pc := 37) (as := []) (b := aN k) (ci := 6) (v := .int (nI (sCells (tC t)))) (h' := H4) dL_agrees_37 (lc_RL_126 rfl) ceX6_all kd_a ag4.2.1.1.2.1 (x_all (d := d + 101) ag4.2.1) rfl rfl (Nat.le_of_ble_eq_true rfl) rfl ?_
        refine g_pX (pc := 40) (kc := 9) (ks := 54) (as := [.ref 0, .int (nI 0), .int (nI (sCells (tC t)))]) dL_agrees_40 (lc_RL_171 rfl) ceL_letter (sL_letter (d := d) ag4.1) rfl rfl (Nat.le_of_ble_eq_true rfl) rfl rfl (fun H5 m5 f5 => ?_)
        have ag5 := ag4.fw (t2 := t) m5 f5
        refine a_top (show (.int (wn (rLetter (tC t) (nI 0) (nI (sCells (tC t))))) : Value) = .int ((-2000000097)) from by rw [le_all (by omega)]) ?_
        refine a_ldc (pc := 43) (v := (-2000000097)) dL_agrees_43 (li_RL_52 rfl) ?_
        refine a_icmp_ne (pc := 45) (tgt := 68) dL_agrees_45 (by decide) (fun c45 => ?_) (fun c45 => ?_)
        · skip
          exact absurd rfl c45
        · skip
          obtain ⟨M, rM, sM⟩ := ag5.2.1.2.2.2.2.1
          refine a_aload_n (pc := 48) (i := 0) dL_agrees_48 rfl rfl ?_
          refine a_aload_n (pc := 49) (i := 1) dL_agrees_49 rfl rfl ?_
          refine g_getR (pc := 50) (ci := 6) (k := 6) (b := M) dL_agrees_50 (lf_RL_174 rfl) (by decide) rfl kd_a ag5.2.1.1.2.1 rM ?_
          refine g_vStr1 (pc := 53) (as := []) (b := M) (v := .int (nI ((msT (tC t)).length))) (h' := H5) dL_agrees_53 (lc_RL_23 rfl) ceJ0_length_8abf5 sM.ok (s_len (d := d + 100) sM) rfl rfl (Nat.le_of_ble_eq_true rfl) rfl ?_
          refine a_top (show (.int (nI ((msT (tC t)).length)) : Value) = .int (nI (sLen (tC t))) from by rw [msT_len]) ?_
          refine g_pX (pc := 56) (kc := 8) (ks := 48) (as := [.ref 0, .int (nI (sLen (tC t)))]) dL_agrees_56 (lc_RL_177 rfl) ceL_message (sL_message (d := d) ag5.1) rfl rfl (Nat.le_of_ble_eq_true rfl) rfl rfl (fun H6 m6 f6 => ?_)
          have ag6 := ag5.fw (t2 := t) m6 f6
          refine a_top (show (.int (wn (rMessage (tC t) (nI (sLen (tC t))))) : Value) = .int ((-2000000100)) from by rw [me_all (by omega)]) ?_
          refine a_ldc (pc := 59) (v := (-2000000100)) dL_agrees_59 (li_RL_65 rfl) ?_
          refine a_icmp_ne (pc := 61) (tgt := 68) dL_agrees_61 (by decide) (fun c61 => ?_) (fun c61 => ?_)
          · skip
            exact absurd rfl c61
          · skip
            refine a_iconst (pc := 64) (v := nI 1) dL_agrees_64 (by decide) ?_
            refine a_goto (pc := 65) (tgt := 69) dL_agrees_65 (by decide) ?_
            refine a_istore_n (pc := 69) (i := 2) (ls' := [(0, .ref 0), (1, .ref (aN k)), (2, .int (nI 1))]) dL_agrees_69 rfl (by decide) rfl ?_
            refine a_iconst (pc := 70) (v := nI 0) dL_agrees_70 (by decide) ?_
            refine a_istore_n (pc := 71) (i := 3) (ls' := [(0, .ref 0), (1, .ref (aN k)), (2, .int (nI 1)), (3, .int (nI 0))]) dL_agrees_71 rfl (by decide) rfl ?_
            exact LP 9 0 H6 (by omega) ag6 (by omega)
