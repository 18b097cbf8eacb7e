/-! the law's Sheet: told, isAhead, ofCut, cutsOff; frames -/
noncomputable def tdN (s : SH) (w : Nat) : Nat := [sW s, sH s, sS s, nThere s, sLen s, sCu s, sTk s, cnt (qcu s) 96].getD w 0
noncomputable def uA (s : SH) : Nat → Nat
  | 0 => 0
  | i + 1 => uA s i + cnt (fun c => qcu s (pq s i c)) (sCells s)
theorem uA_2 {s : SH} (g : GS s) : uA s 2 = cnt (qcu s) 96 := by
  rw [c_two g (P := qcu s) (fun q hq => qhas_of_lt hq.1)]
  show 0 + _ + _ = _
  rw [Nat.zero_add]
theorem uA_le {s : SH} : ∀ i, uA s i ≤ i * sCells s
  | 0 => Nat.zero_le _
  | i + 1 => by
    have h := uA_le (s := s) i
    have h2 := cnt_le (fun c => qcu s (pq s i c)) (sCells s)
    show uA s i + _ ≤ _
    rw [Nat.add_mul, Nat.one_mul]
    omega
set_option maxHeartbeats 1500000 in
set_option maxRecDepth 100000 in
theorem x_told {d k gg : Nat} {h : AH} {s : SH} (l : LW h k gg s) {w : Nat} (hw : w < 8) : AC mX6_told (d + 6) 0 0 [.ref (aN k), .int (nI w)] h (Qe (some (.int (nI (tdN s w)))) h) := by
  obtain ⟨⟨bs, pa, pn, pb, pg⟩, ⟨f0, f1, f4, f7, f8⟩, ⟨r9, r10, r5⟩, ⟨L, Z, rL, rZ, ⟨kL, pL⟩, ⟨kZ, pZ⟩, lin, siz⟩, ⟨M, rM, sM⟩, gon⟩ := id l
  have g := bs.1
  have gw := g.1
  have gh := g.2.1
  have gs := g.2.2.1
  have bw := bs.2.1
  have bh := bs.2.2.1
  have bl := bs.2.2.2
  have c12 := cells12 bs
  refine AC.of (by decide) rfl (Nat.le_of_ble_eq_true rfl) (fun X => ?_)
  show AW X mX6_told (d + 6) 0 0 0 [(0, .ref (aN k)), (1, .int (nI w))] [] h (Qe (some (.int (nI (tdN s w)))) h)
  have LO : ∀ (fu : Nat) (i : Nat), i ≤ 2 → 2 - i < fu → AW X mX6_told (d + 6) 0 0 4 [(0, .ref (aN k)), (1, .int (nI w)), (2, .int (nI (uA s i))), (3, .int (nI i))] [] h (Qe (some (.int (nI (tdN s w)))) h) := by
    intro fu
    induction fu with
    | zero => intro i hi hz; exact absurd hz (Nat.not_lt_zero _)
    | succ fu ih =>
      intro i hi hz
      have ihO := ih
      refine a_iload_n (pc := 4) (i := 3) dX6_told_4 rfl rfl ?_
      refine a_iconst (pc := 5) (v := nI 2) dX6_told_5 (by decide) ?_
      refine n_icmp_ge (pc := 6) (tgt := 46) dX6_told_6 (by decide) (by omega) (by omega) (fun c6 => ?_) (fun c6 => ?_)
      · have ei : i = 2 := by omega
        have eu : uA s i = cnt (qcu s) 96 := by rw [ei]; exact uA_2 g
        refine a_iload_n (pc := 46) (i := 1) dX6_told_46 rfl rfl ?_
        refine n_if_ne (pc := 47) (tgt := 57) dX6_told_47 (by decide) (by omega) (fun w0 => ?_) (fun w0 => ?_)
        · skip
          refine a_iload_n (pc := 57) (i := 1) dX6_told_57 rfl rfl ?_
          refine a_iconst (pc := 58) (v := nI 1) dX6_told_58 (by decide) ?_
          refine n_icmp_ne (pc := 59) (tgt := 69) dX6_told_59 (by decide) (by omega) (by omega) (fun w1 => ?_) (fun w1 => ?_)
          · skip
            refine a_iload_n (pc := 69) (i := 1) dX6_told_69 rfl rfl ?_
            refine a_iconst (pc := 70) (v := nI 2) dX6_told_70 (by decide) ?_
            refine n_icmp_ne (pc := 71) (tgt := 81) dX6_told_71 (by decide) (by omega) (by omega) (fun w2 => ?_) (fun w2 => ?_)
            · skip
              refine a_iload_n (pc := 81) (i := 1) dX6_told_81 rfl rfl ?_
              refine a_iconst (pc := 82) (v := nI 3) dX6_told_82 (by decide) ?_
              refine n_icmp_ne (pc := 83) (tgt := 93) dX6_told_83 (by decide) (by omega) (by omega) (fun w3 => ?_) (fun w3 => ?_)
              · skip
                refine a_iload_n (pc := 93) (i := 1) dX6_told_93 rfl rfl ?_
                refine a_iconst (pc := 94) (v := nI 4) dX6_told_94 (by decide) ?_
                refine n_icmp_ne (pc := 95) (tgt := 108) dX6_told_95 (by decide) (by omega) (by omega) (fun w4 => ?_) (fun w4 => ?_)
                · skip
                  refine a_iload_n (pc := 108) (i := 1) dX6_told_108 rfl rfl ?_
                  refine a_iconst (pc := 109) (v := nI 5) dX6_told_109 (by decide) ?_
                  refine n_icmp_ne (pc := 110) (tgt := 120) dX6_told_110 (by decide) (by omega) (by omega) (fun w5 => ?_) (fun w5 => ?_)
                  · skip
                    refine a_iload_n (pc := 120) (i := 1) dX6_told_120 rfl rfl ?_
                    refine a_bipush (pc := 121) (v := nI 6) dX6_told_121 (by decide) ?_
                    refine n_icmp_ne (pc := 123) (tgt := 133) dX6_told_123 (by decide) (by omega) (by omega) (fun w6 => ?_) (fun w6 => ?_)
                    · skip
                      refine a_iload_n (pc := 133) (i := 2) dX6_told_133 rfl rfl ?_
                      refine a_top (show (.int (nI (uA s i)) : Value) = .int (nI (tdN s w)) from by rw [eu, show w = 7 by omega]; rfl) ?_
                      exact a_ireturn (pc := 134) dX6_told_134 rfl rfl (⟨rfl, rfl⟩)
                    · skip
                      refine a_aload_n (pc := 126) (i := 0) dX6_told_126 rfl rfl ?_
                      refine g_getI (pc := 127) (ci := 6) (k := 8) dX6_told_127 (lf_RX6_56 rfl) (by decide) rfl kd_a pa ?_
                      refine a_top (show (.int (hI h (aN k) 8) : Value) = .int (nI (sTk s)) from congrArg Value.int f8) ?_
                      refine a_goto (pc := 130) (tgt := 134) dX6_told_130 (by decide) ?_
                      refine a_top (show (.int (nI (sTk s)) : Value) = .int (nI (tdN s w)) from by rw [show w = 6 by omega]; rfl) ?_
                      exact a_ireturn (pc := 134) dX6_told_134 rfl rfl (⟨rfl, rfl⟩)
                  · skip
                    refine a_aload_n (pc := 113) (i := 0) dX6_told_113 rfl rfl ?_
                    refine g_getI (pc := 114) (ci := 6) (k := 7) dX6_told_114 (lf_RX6_53 rfl) (by decide) rfl kd_a pa ?_
                    refine a_top (show (.int (hI h (aN k) 7) : Value) = .int (nI (sCu s)) from congrArg Value.int f7) ?_
                    refine a_goto (pc := 117) (tgt := 134) dX6_told_117 (by decide) ?_
                    refine a_top (show (.int (nI (sCu s)) : Value) = .int (nI (tdN s w)) from by rw [show w = 5 by omega]; rfl) ?_
                    exact a_ireturn (pc := 134) dX6_told_134 rfl rfl (⟨rfl, rfl⟩)
                · skip
                  refine a_aload_n (pc := 98) (i := 0) dX6_told_98 rfl rfl ?_
                  refine g_getR (pc := 99) (ci := 6) (k := 6) (b := M) dX6_told_99 (lf_RX6_37 rfl) (by decide) rfl kd_a pa rM ?_
                  refine g_vStr1 (pc := 102) (as := []) (b := M) (v := .int (nI ((msT s).length))) (h' := h) dX6_told_102 (lc_RX6_78 rfl) ceJ0_length_8abf5 sM.ok (s_len (d := d + 4) sM) rfl rfl (Nat.le_of_ble_eq_true rfl) rfl ?_
                  refine a_top (show (.int (nI ((msT s).length)) : Value) = .int (nI (sLen s)) from by rw [msT_len]) ?_
                  refine a_goto (pc := 105) (tgt := 134) dX6_told_105 (by decide) ?_
                  refine a_top (show (.int (nI (sLen s)) : Value) = .int (nI (tdN s w)) from by rw [show w = 4 by omega]; rfl) ?_
                  exact a_ireturn (pc := 134) dX6_told_134 rfl rfl (⟨rfl, rfl⟩)
              · skip
                refine a_aload_n (pc := 86) (i := 0) dX6_told_86 rfl rfl ?_
                refine g_vV1 (pc := 87) (as := []) (b := aN k) (ci := 6) (v := .int (nI (nThere s))) (h' := h) dX6_told_87 (lc_RX6_136 rfl) ceX6_there kd_a pa (x_there l) rfl rfl (Nat.le_of_ble_eq_true rfl) rfl ?_
                refine a_goto (pc := 90) (tgt := 134) dX6_told_90 (by decide) ?_
                refine a_top (show (.int (nI (nThere s)) : Value) = .int (nI (tdN s w)) from by rw [show w = 3 by omega]; rfl) ?_
                exact a_ireturn (pc := 134) dX6_told_134 rfl rfl (⟨rfl, rfl⟩)
            · skip
              refine a_aload_n (pc := 74) (i := 0) dX6_told_74 rfl rfl ?_
              refine g_getI (pc := 75) (ci := 6) (k := 4) dX6_told_75 (lf_RX6_28 rfl) (by decide) rfl kd_a pa ?_
              refine a_top (show (.int (hI h (aN k) 4) : Value) = .int (nI (sS s)) from congrArg Value.int f4) ?_
              refine a_goto (pc := 78) (tgt := 134) dX6_told_78 (by decide) ?_
              refine a_top (show (.int (nI (sS s)) : Value) = .int (nI (tdN s w)) from by rw [show w = 2 by omega]; rfl) ?_
              exact a_ireturn (pc := 134) dX6_told_134 rfl rfl (⟨rfl, rfl⟩)
          · skip
            refine a_aload_n (pc := 62) (i := 0) dX6_told_62 rfl rfl ?_
            refine g_getI (pc := 63) (ci := 6) (k := 1) dX6_told_63 (lf_RX6_13 rfl) (by decide) rfl kd_a pa ?_
            refine a_top (show (.int (hI h (aN k) 1) : Value) = .int (nI (sH s)) from congrArg Value.int f1) ?_
            refine a_goto (pc := 66) (tgt := 134) dX6_told_66 (by decide) ?_
            refine a_top (show (.int (nI (sH s)) : Value) = .int (nI (tdN s w)) from by rw [show w = 1 by omega]; rfl) ?_
            exact a_ireturn (pc := 134) dX6_told_134 rfl rfl (⟨rfl, rfl⟩)
        · skip
          refine a_aload_n (pc := 50) (i := 0) dX6_told_50 rfl rfl ?_
          refine g_getI (pc := 51) (ci := 6) (k := 0) dX6_told_51 (lf_RX6_7 rfl) (by decide) rfl kd_a pa ?_
          refine a_top (show (.int (hI h (aN k) 0) : Value) = .int (nI (sW s)) from congrArg Value.int f0) ?_
          refine a_goto (pc := 54) (tgt := 134) dX6_told_54 (by decide) ?_
          refine a_top (show (.int (nI (sW s)) : Value) = .int (nI (tdN s w)) from by rw [show w = 0 by omega]; rfl) ?_
          exact a_ireturn (pc := 134) dX6_told_134 rfl rfl (⟨rfl, rfl⟩)
      · skip
        have LI : ∀ (fu : Nat) (c : Nat), c ≤ sCells s → sCells s - c < fu → AW X mX6_told (d + 6) 0 0 12 [(0, .ref (aN k)), (1, .int (nI w)), (2, .int (nI (uA s i + cnt (fun c => qcu s (pq s i c)) c))), (3, .int (nI i)), (4, .int (nI c))] [] h (Qe (some (.int (nI (tdN s w)))) h) := by
          intro fu
          induction fu with
          | zero => intro c hc hz; exact absurd hz (Nat.not_lt_zero _)
          | succ fu ih =>
            intro c hc hz
            refine a_iload (pc := 12) (i := 4) dX6_told_12 rfl ?_
            refine a_aload_n (pc := 14) (i := 0) dX6_told_14 rfl rfl ?_
            refine g_vV1 (pc := 15) (as := []) (b := aN k) (ci := 6) (v := .int (nI (sCells s))) (h' := h) dX6_told_15 (lc_RX6_82 rfl) ceX6_all kd_a pa (x_all l) rfl rfl (Nat.le_of_ble_eq_true rfl) rfl ?_
            refine n_icmp_ge (pc := 18) (tgt := 40) dX6_told_18 (by decide) (by omega) (by omega) (fun c18 => ?_) (fun c18 => ?_)
            · have ec : c = sCells s := by omega
              refine n_iinc (pc := 40) (k := 1) (ls' := [(0, .ref (aN k)), (1, .int (nI w)), (2, .int (nI (uA s i + cnt (fun c => qcu s (pq s i c)) c))), (3, .int (nI (i + 1))), (4, .int (nI c))]) dX6_told_40 rfl (by decide) (by decide) rfl ?_
              refine a_goto (pc := 43) (tgt := 4) dX6_told_43 (by decide) ?_
              refine a_drop (ls' := [(0, .ref (aN k)), (1, .int (nI w)), (2, .int (nI (uA s i + cnt (fun c => qcu s (pq s i c)) c))), (3, .int (nI (i + 1)))]) (by simp) ?_
              refine a_locs (ls' := [(0, .ref (aN k)), (1, .int (nI w)), (2, .int (nI (uA s (i + 1)))), (3, .int (nI (i + 1)))]) (by rw [ec]; rfl) ?_
              exact ihO (i + 1) (by omega) (by omega)
            · skip
              refine a_aload_n (pc := 21) (i := 0) dX6_told_21 rfl rfl ?_
              refine a_iload_n (pc := 22) (i := 3) dX6_told_22 rfl rfl ?_
              refine a_iload (pc := 23) (i := 4) dX6_told_23 rfl ?_
              refine g_vV1 (pc := 25) (as := [.int (nI i), .int (nI c)]) (b := aN k) (ci := 6) (v := .int (bi (qcu s (pq s i c)))) (h' := h) dX6_told_25 (lc_RX6_74 rfl) ceX6_canUse kd_a pa (x_canUse (d := d) l c6 c18) rfl rfl (Nat.le_of_ble_eq_true rfl) rfl ?_
              refine b_if_eq (pc := 28) (tgt := 34) dX6_told_28 (by decide) (fun c28 => ?_) (fun c28 => ?_)
              · skip
                refine n_iinc (pc := 34) (k := 1) (ls' := [(0, .ref (aN k)), (1, .int (nI w)), (2, .int (nI (uA s i + cnt (fun c => qcu s (pq s i c)) c))), (3, .int (nI i)), (4, .int (nI (c + 1)))]) dX6_told_34 rfl (by decide) (by decide) rfl ?_
                refine a_goto (pc := 37) (tgt := 12) dX6_told_37 (by decide) ?_
                refine a_locs (ls' := [(0, .ref (aN k)), (1, .int (nI w)), (2, .int (nI (uA s i + cnt (fun c => qcu s (pq s i c)) (c + 1)))), (3, .int (nI i)), (4, .int (nI (c + 1)))]) (by rw [cnt_no (P := fun c => qcu s (pq s i c)) (n := c) c28]) ?_
                exact ih (c + 1) (by omega) (by omega)
              · skip
                refine n_iinc (pc := 31) (k := 1) (ls' := [(0, .ref (aN k)), (1, .int (nI w)), (2, .int (nI ((uA s i + cnt (fun c => qcu s (pq s i c)) c) + 1))), (3, .int (nI i)), (4, .int (nI c))]) dX6_told_31 rfl (by decide) (by decide) rfl ?_
                refine n_iinc (pc := 34) (k := 1) (ls' := [(0, .ref (aN k)), (1, .int (nI w)), (2, .int (nI ((uA s i + cnt (fun c => qcu s (pq s i c)) c) + 1))), (3, .int (nI i)), (4, .int (nI (c + 1)))]) dX6_told_34 rfl (by decide) (by decide) rfl ?_
                refine a_goto (pc := 37) (tgt := 12) dX6_told_37 (by decide) ?_
                refine a_locs (ls' := [(0, .ref (aN k)), (1, .int (nI w)), (2, .int (nI (uA s i + cnt (fun c => qcu s (pq s i c)) (c + 1)))), (3, .int (nI i)), (4, .int (nI (c + 1)))]) (by rw [cnt_yes (P := fun c => qcu s (pq s i c)) (n := c) c28]; rfl) ?_
                exact ih (c + 1) (by omega) (by omega)
        refine a_iconst (pc := 9) (v := nI 0) dX6_told_9 (by decide) ?_
        refine a_istore (pc := 10) (i := 4) (ls' := [(0, .ref (aN k)), (1, .int (nI w)), (2, .int (nI (uA s i))), (3, .int (nI i)), (4, .int (nI 0))]) dX6_told_10 (by decide) rfl ?_
        refine a_locs (ls' := [(0, .ref (aN k)), (1, .int (nI w)), (2, .int (nI (uA s i + cnt (fun c => qcu s (pq s i c)) 0))), (3, .int (nI i)), (4, .int (nI 0))]) rfl ?_
        exact LI (sCells s + 1) 0 (by omega) (by omega)
  refine a_iconst (pc := 0) (v := nI 0) dX6_told_0 (by decide) ?_
  refine a_istore_n (pc := 1) (i := 2) (ls' := [(0, .ref (aN k)), (1, .int (nI w)), (2, .int (nI 0))]) dX6_told_1 rfl (by decide) rfl ?_
  refine a_iconst (pc := 2) (v := nI 0) dX6_told_2 (by decide) ?_
  refine a_istore_n (pc := 3) (i := 3) (ls' := [(0, .ref (aN k)), (1, .int (nI w)), (2, .int (nI 0)), (3, .int (nI 0))]) dX6_told_3 rfl (by decide) rfl ?_
  refine a_locs (ls' := [(0, .ref (aN k)), (1, .int (nI w)), (2, .int (nI (uA s 0))), (3, .int (nI 0))]) rfl ?_
  exact LO 3 0 (by omega) (by omega)
def lexL (nc bc : Nat → Nat) (c : Nat) : Prop := ∃ i, i < c ∧ (∀ j, j < i → nc j = bc j) ∧ nc i < bc i
def aheadP (c B : Nat) (nc bc : Nat → Nat) : Prop := c < B ∨ (c = B ∧ lexL nc bc c)
theorem ah_end {c B : Nat} {nc bc : Nat → Nat} (e : c = B) (he : ∀ j, j < c → nc j = bc j) : ¬ aheadP c B nc bc := by
  rintro (z | ⟨-, j, z1, -, z2⟩)
  · omega
  · have := he j z1; omega
theorem ah_i {c B i : Nat} {nc bc : Nat → Nat} (e : c = B) (he : ∀ j, j < i → nc j = bc j) (hi : bc i < nc i) : ¬ aheadP c B nc bc := by
  rintro (z | ⟨-, j, z1, z3, z2⟩)
  · omega
  · rcases Nat.lt_trichotomy j i with y | y | y
    · have := he j y; omega
    · subst y; omega
    · have := z3 i y; omega
set_option maxHeartbeats 1500000 in
set_option maxRecDepth 100000 in
theorem x_isAhead {d k gg : Nat} {h : AH} {s : SH} (l : LW h k gg s) {c B : Nat} {nc bc : Nat → Nat} (hc : c < 24) (hB9 : B < 100) (hB : hI h (aN k) 11 = nI B) (hn : ∀ i, i < c → hI h (nowN k) i = nI (nc i)) (hb : c = B → ∀ i, i < c → hI h (bstN k) i = nI (bc i)) (hs : ∀ i, i < c → nc i < 100000) (hs2 : c = B → ∀ i, i < c → bc i < 100000) : AC mX6_isAhead d 0 0 [.ref (aN k), .int (nI c)] h (Qe (some (.int (bi (aheadP c B nc bc)))) h) := by
  obtain ⟨⟨bs, pa, pn, pb, pg⟩, ⟨f0, f1, f4, f7, f8⟩, ⟨r9, r10, r5⟩, ⟨L, Z, rL, rZ, ⟨kL, pL⟩, ⟨kZ, pZ⟩, lin, siz⟩, ⟨M, rM, sM⟩, gon⟩ := id l
  have g := bs.1
  have gw := g.1
  have gh := g.2.1
  have gs := g.2.2.1
  have bw := bs.2.1
  have bh := bs.2.2.1
  have bl := bs.2.2.2
  have c12 := cells12 bs
  refine AC.of (by decide) rfl (Nat.le_of_ble_eq_true rfl) (fun X => ?_)
  show AW X mX6_isAhead d 0 0 0 [(0, .ref (aN k)), (1, .int (nI c))] [] h (Qe (some (.int (bi (aheadP c B nc bc)))) h)
  refine a_iload_n (pc := 0) (i := 1) dX6_isAhead_0 rfl rfl ?_
  refine a_aload_n (pc := 1) (i := 0) dX6_isAhead_1 rfl rfl ?_
  refine g_getI (pc := 2) (ci := 6) (k := 11) dX6_isAhead_2 (lf_RX6_108 rfl) (by decide) rfl kd_a pa ?_
  refine a_top (show (.int (hI h (aN k) 11) : Value) = .int (nI B) from congrArg Value.int hB) ?_
  refine n_icmp_eq (pc := 5) (tgt := 22) dX6_isAhead_5 (by decide) (by omega) (by omega) (fun c5 => ?_) (fun c5 => ?_)
  · skip
    have LP : ∀ (fu : Nat) (i : Nat), i ≤ c → (∀ j, j < i → nc j = bc j) → c - i < fu → AW X mX6_isAhead d 0 0 24 [(0, .ref (aN k)), (1, .int (nI c)), (2, .int (nI i))] [] h (Qe (some (.int (bi (aheadP c B nc bc)))) h) := by
      intro fu
      induction fu with
      | zero => intro i hi he hz; exact absurd hz (Nat.not_lt_zero _)
      | succ fu ih =>
        intro i hi he hz
        refine a_iload_n (pc := 24) (i := 2) dX6_isAhead_24 rfl rfl ?_
        refine a_iload_n (pc := 25) (i := 1) dX6_isAhead_25 rfl rfl ?_
        refine n_icmp_ge (pc := 26) (tgt := 71) dX6_isAhead_26 (by decide) (by omega) (by omega) (fun c26 => ?_) (fun c26 => ?_)
        · have e : ¬ aheadP c B nc bc := ah_end c5 (fun j hj => he j (by omega))
          refine a_iconst (pc := 71) (v := nI 0) dX6_isAhead_71 (by decide) ?_
          exact a_ireturn (pc := 72) dX6_isAhead_72 rfl rfl (⟨by rw [bi_f e]; rfl, rfl⟩)
        · skip
          have h1 := hs i c26
          have h2 := hs2 c5 i c26
          refine a_aload_n (pc := 29) (i := 0) dX6_isAhead_29 rfl rfl ?_
          refine g_getR (pc := 30) (ci := 6) (k := 9) (b := nowN k) dX6_isAhead_30 (lf_RX6_41 rfl) (by decide) rfl kd_a pa r9 ?_
          refine a_iload_n (pc := 33) (i := 2) dX6_isAhead_33 rfl rfl ?_
          refine g_iald (pc := 34) (j := i) dX6_isAhead_34 kd_now pn rfl (by omega) ?_
          refine a_top (show (.int (hI h (nowN k) i) : Value) = .int (nI (nc i)) from congrArg Value.int (hn i c26)) ?_
          refine a_aload_n (pc := 35) (i := 0) dX6_isAhead_35 rfl rfl ?_
          refine g_getR (pc := 36) (ci := 6) (k := 10) (b := bstN k) dX6_isAhead_36 (lf_RX6_44 rfl) (by decide) rfl kd_a pa r10 ?_
          refine a_iload_n (pc := 39) (i := 2) dX6_isAhead_39 rfl rfl ?_
          refine g_iald (pc := 40) (j := i) dX6_isAhead_40 kd_bst pb rfl (by omega) ?_
          refine a_top (show (.int (hI h (bstN k) i) : Value) = .int (nI (bc i)) from congrArg Value.int (hb c5 i c26)) ?_
          refine n_icmp_eq (pc := 41) (tgt := 65) dX6_isAhead_41 (by decide) (by omega) (by omega) (fun c41 => ?_) (fun c41 => ?_)
          · skip
            refine n_iinc (pc := 65) (k := 1) (ls' := [(0, .ref (aN k)), (1, .int (nI c)), (2, .int (nI (i + 1)))]) dX6_isAhead_65 rfl (by decide) (by decide) rfl ?_
            refine a_goto (pc := 68) (tgt := 24) dX6_isAhead_68 (by decide) ?_
            exact ih (i + 1) (by omega) (fun j hj => by rcases (by omega : j < i ∨ j = i) with z | z; exact he j z; rw [z]; exact c41) (by omega)
          · skip
            refine a_aload_n (pc := 44) (i := 0) dX6_isAhead_44 rfl rfl ?_
            refine g_getR (pc := 45) (ci := 6) (k := 9) (b := nowN k) dX6_isAhead_45 (lf_RX6_41 rfl) (by decide) rfl kd_a pa r9 ?_
            refine a_iload_n (pc := 48) (i := 2) dX6_isAhead_48 rfl rfl ?_
            refine g_iald (pc := 49) (j := i) dX6_isAhead_49 kd_now pn rfl (by omega) ?_
            refine a_top (show (.int (hI h (nowN k) i) : Value) = .int (nI (nc i)) from congrArg Value.int (hn i c26)) ?_
            refine a_aload_n (pc := 50) (i := 0) dX6_isAhead_50 rfl rfl ?_
            refine g_getR (pc := 51) (ci := 6) (k := 10) (b := bstN k) dX6_isAhead_51 (lf_RX6_44 rfl) (by decide) rfl kd_a pa r10 ?_
            refine a_iload_n (pc := 54) (i := 2) dX6_isAhead_54 rfl rfl ?_
            refine g_iald (pc := 55) (j := i) dX6_isAhead_55 kd_bst pb rfl (by omega) ?_
            refine a_top (show (.int (hI h (bstN k) i) : Value) = .int (nI (bc i)) from congrArg Value.int (hb c5 i c26)) ?_
            refine n_icmp_ge (pc := 56) (tgt := 63) dX6_isAhead_56 (by decide) (by omega) (by omega) (fun c56 => ?_) (fun c56 => ?_)
            · have e : ¬ aheadP c B nc bc := ah_i c5 he (by omega)
              refine a_iconst (pc := 63) (v := nI 0) dX6_isAhead_63 (by decide) ?_
              exact a_ireturn (pc := 64) dX6_isAhead_64 rfl rfl (⟨by rw [bi_f e]; rfl, rfl⟩)
            · have e : aheadP c B nc bc := Or.inr ⟨c5, i, c26, he, c56⟩
              refine a_iconst (pc := 59) (v := nI 1) dX6_isAhead_59 (by decide) ?_
              refine a_goto (pc := 60) (tgt := 64) dX6_isAhead_60 (by decide) ?_
              exact a_ireturn (pc := 64) dX6_isAhead_64 rfl rfl (⟨by rw [bi_t e]; rfl, rfl⟩)
    refine a_iconst (pc := 22) (v := nI 0) dX6_isAhead_22 (by decide) ?_
    refine a_istore_n (pc := 23) (i := 2) (ls' := [(0, .ref (aN k)), (1, .int (nI c)), (2, .int (nI 0))]) dX6_isAhead_23 rfl (by decide) rfl ?_
    exact LP (c + 1) 0 (by omega) (fun j hj => absurd hj (Nat.not_lt_zero _)) (by omega)
  · skip
    refine a_iload_n (pc := 8) (i := 1) dX6_isAhead_8 rfl rfl ?_
    refine a_aload_n (pc := 9) (i := 0) dX6_isAhead_9 rfl rfl ?_
    refine g_getI (pc := 10) (ci := 6) (k := 11) dX6_isAhead_10 (lf_RX6_108 rfl) (by decide) rfl kd_a pa ?_
    refine a_top (show (.int (hI h (aN k) 11) : Value) = .int (nI B) from congrArg Value.int hB) ?_
    refine n_icmp_ge (pc := 13) (tgt := 20) dX6_isAhead_13 (by decide) (by omega) (by omega) (fun c13 => ?_) (fun c13 => ?_)
    · have e : ¬ aheadP c B nc bc := fun z => by rcases z with z | z; omega; exact c5 z.1
      refine a_iconst (pc := 20) (v := nI 0) dX6_isAhead_20 (by decide) ?_
      exact a_ireturn (pc := 21) dX6_isAhead_21 rfl rfl (⟨by rw [bi_f e]; rfl, rfl⟩)
    · have e : aheadP c B nc bc := Or.inl c13
      refine a_iconst (pc := 16) (v := nI 1) dX6_isAhead_16 (by decide) ?_
      refine a_goto (pc := 17) (tgt := 21) dX6_isAhead_17 (by decide) ?_
      exact a_ireturn (pc := 21) dX6_isAhead_21 rfl rfl (⟨by rw [bi_t e]; rfl, rfl⟩)
def cdN (n sd p : Nat) : Nat := 1000 * (9 - n) + 100 * sd + p
theorem cdN_ok {n sd p : Nat} (hn : 1 ≤ n ∧ n ≤ 8) (hsd : sd < 2) (hp : p < 48) : 9 - cdN n sd p / 1000 = n ∧ cdN n sd p / 100 % 10 = sd ∧ cdN n sd p % 100 = p ∧ cdN n sd p < 10000 := by unfold cdN; omega
theorem cdN_9 {n sd p : Nat} (hn : 1 ≤ n ∧ n ≤ 8) (hsd : sd < 2) (hp : p < 48) : cdN n sd p / 1000 ≤ 9 := by unfold cdN; omega
def ofN (s : SH) (n sd p w : Nat) : Nat := if w = 0 then n else if w = 1 then sd else if w = 2 then p else n * sSz s sd (p / sW s)
set_option maxHeartbeats 1500000 in
set_option maxRecDepth 100000 in
theorem x_ofCut {d k gg : Nat} {h : AH} {s : SH} (l : LW h k gg s) {sd p : Nat} (hsd : sd < 2) (hp : p < sCells s) {i n w : Nat} (hi : i < 24) (hw : w < 4) (hn : 1 ≤ n ∧ n ≤ 8) (hb : hI h (bstN k) i = nI (cdN n sd p)) : AC mX6_ofCut (d + 1) 0 0 [.ref (aN k), .int (nI i), .int (nI w)] h (Qe (some (.int (nI (ofN s n sd p w)))) h) := by
  obtain ⟨⟨bs, pa, pn, pb, pg⟩, ⟨f0, f1, f4, f7, f8⟩, ⟨r9, r10, r5⟩, ⟨L, Z, rL, rZ, ⟨kL, pL⟩, ⟨kZ, pZ⟩, lin, siz⟩, ⟨M, rM, sM⟩, gon⟩ := id l
  have g := bs.1
  have gw := g.1
  have gh := g.2.1
  have gs := g.2.2.1
  have bw := bs.2.1
  have bh := bs.2.2.1
  have bl := bs.2.2.2
  have c12 := cells12 bs
  refine AC.of (by decide) rfl (Nat.le_of_ble_eq_true rfl) (fun X => ?_)
  show AW X mX6_ofCut (d + 1) 0 0 0 [(0, .ref (aN k)), (1, .int (nI i)), (2, .int (nI w))] [] h (Qe (some (.int (nI (ofN s n sd p w)))) h)
  obtain ⟨k1, k2, k3, k4⟩ := cdN_ok hn hsd (show p < 48 by omega)
  have k5 := cdN_9 hn hsd (show p < 48 by omega)
  refine a_bipush (pc := 0) (v := nI 9) dX6_ofCut_0 (by decide) ?_
  refine a_aload_n (pc := 2) (i := 0) dX6_ofCut_2 rfl rfl ?_
  refine g_getR (pc := 3) (ci := 6) (k := 10) (b := bstN k) dX6_ofCut_3 (lf_RX6_44 rfl) (by decide) rfl kd_a pa r10 ?_
  refine a_iload_n (pc := 6) (i := 1) dX6_ofCut_6 rfl rfl ?_
  refine g_iald (pc := 7) (j := i) dX6_ofCut_7 kd_bst pb rfl (by omega) ?_
  refine a_top (show (.int (hI h (bstN k) i) : Value) = .int (nI (cdN n sd p)) from congrArg Value.int hb) ?_
  refine a_sipush (pc := 8) (v := nI 1000) dX6_ofCut_8 (by decide) ?_
  refine n_idiv (pc := 11) dX6_ofCut_11 (by omega) (by omega) (by omega) ?_
  refine n_isub (pc := 12) dX6_ofCut_12 (by omega) ?_
  refine a_top (show (.int (nI (9 - ((cdN n sd p) / 1000))) : Value) = .int (nI n) from by rw [k1]) ?_
  refine a_istore_n (pc := 13) (i := 3) (ls' := [(0, .ref (aN k)), (1, .int (nI i)), (2, .int (nI w)), (3, .int (nI n))]) dX6_ofCut_13 rfl (by decide) rfl ?_
  refine a_aload_n (pc := 14) (i := 0) dX6_ofCut_14 rfl rfl ?_
  refine g_getR (pc := 15) (ci := 6) (k := 10) (b := bstN k) dX6_ofCut_15 (lf_RX6_44 rfl) (by decide) rfl kd_a pa r10 ?_
  refine a_iload_n (pc := 18) (i := 1) dX6_ofCut_18 rfl rfl ?_
  refine g_iald (pc := 19) (j := i) dX6_ofCut_19 kd_bst pb rfl (by omega) ?_
  refine a_top (show (.int (hI h (bstN k) i) : Value) = .int (nI (cdN n sd p)) from congrArg Value.int hb) ?_
  refine a_bipush (pc := 20) (v := nI 100) dX6_ofCut_20 (by decide) ?_
  refine n_idiv (pc := 22) dX6_ofCut_22 (by omega) (by omega) (by omega) ?_
  refine a_bipush (pc := 23) (v := nI 10) dX6_ofCut_23 (by decide) ?_
  refine n_irem (pc := 25) dX6_ofCut_25 (by omega) (by omega) (by omega) ?_
  refine a_top (show (.int (nI (((cdN n sd p) / 100) % 10)) : Value) = .int (nI sd) from by rw [k2]) ?_
  refine a_istore (pc := 26) (i := 4) (ls' := [(0, .ref (aN k)), (1, .int (nI i)), (2, .int (nI w)), (3, .int (nI n)), (4, .int (nI sd))]) dX6_ofCut_26 (by decide) rfl ?_
  refine a_aload_n (pc := 28) (i := 0) dX6_ofCut_28 rfl rfl ?_
  refine g_getR (pc := 29) (ci := 6) (k := 10) (b := bstN k) dX6_ofCut_29 (lf_RX6_44 rfl) (by decide) rfl kd_a pa r10 ?_
  refine a_iload_n (pc := 32) (i := 1) dX6_ofCut_32 rfl rfl ?_
  refine g_iald (pc := 33) (j := i) dX6_ofCut_33 kd_bst pb rfl (by omega) ?_
  refine a_top (show (.int (hI h (bstN k) i) : Value) = .int (nI (cdN n sd p)) from congrArg Value.int hb) ?_
  refine a_bipush (pc := 34) (v := nI 100) dX6_ofCut_34 (by decide) ?_
  refine n_irem (pc := 36) dX6_ofCut_36 (by omega) (by omega) (by omega) ?_
  refine a_top (show (.int (nI ((cdN n sd p) % 100)) : Value) = .int (nI p) from by rw [k3]) ?_
  refine a_istore (pc := 37) (i := 5) (ls' := [(0, .ref (aN k)), (1, .int (nI i)), (2, .int (nI w)), (3, .int (nI n)), (4, .int (nI sd)), (5, .int (nI p))]) dX6_ofCut_37 (by decide) rfl ?_
  refine a_iload_n (pc := 39) (i := 2) dX6_ofCut_39 rfl rfl ?_
  refine n_if_ne (pc := 40) (tgt := 47) dX6_ofCut_40 (by decide) (by omega) (fun c40 => ?_) (fun c40 => ?_)
  · skip
    refine a_iload_n (pc := 47) (i := 2) dX6_ofCut_47 rfl rfl ?_
    refine a_iconst (pc := 48) (v := nI 1) dX6_ofCut_48 (by decide) ?_
    refine n_icmp_ne (pc := 49) (tgt := 57) dX6_ofCut_49 (by decide) (by omega) (by omega) (fun c49 => ?_) (fun c49 => ?_)
    · skip
      refine a_iload_n (pc := 57) (i := 2) dX6_ofCut_57 rfl rfl ?_
      refine a_iconst (pc := 58) (v := nI 2) dX6_ofCut_58 (by decide) ?_
      refine n_icmp_ne (pc := 59) (tgt := 67) dX6_ofCut_59 (by decide) (by omega) (by omega) (fun c59 => ?_) (fun c59 => ?_)
      · skip
        refine a_iload_n (pc := 67) (i := 3) dX6_ofCut_67 rfl rfl ?_
        refine a_aload_n (pc := 68) (i := 0) dX6_ofCut_68 rfl rfl ?_
        refine a_iload (pc := 69) (i := 4) dX6_ofCut_69 rfl ?_
        refine a_iload (pc := 71) (i := 5) dX6_ofCut_71 rfl ?_
        refine g_vV1 (pc := 73) (as := [.int (nI sd), .int (nI p)]) (b := aN k) (ci := 6) (v := .int (nI (sSz s sd (p / sW s)))) (h' := h) dX6_ofCut_73 (lc_RX6_71 rfl) ceX6_size kd_a pa (x_size (d := d) l hsd hp) rfl rfl (Nat.le_of_ble_eq_true rfl) rfl ?_
        refine n_imul (pc := 76) dX6_ofCut_76 ?_
        refine a_top (show (.int (nI (n * (sSz s sd (p / sW s)))) : Value) = .int (nI (ofN s n sd p w)) from by unfold ofN; rw [if_neg (by omega), if_neg (by omega), if_neg (by omega)]) ?_
        exact a_ireturn (pc := 77) dX6_ofCut_77 rfl rfl (⟨rfl, rfl⟩)
      · skip
        refine a_iload (pc := 62) (i := 5) dX6_ofCut_62 rfl ?_
        refine a_goto (pc := 64) (tgt := 77) dX6_ofCut_64 (by decide) ?_
        refine a_top (show (.int (nI p) : Value) = .int (nI (ofN s n sd p w)) from by unfold ofN; rw [if_neg (by omega), if_neg (by omega), if_pos c59]) ?_
        exact a_ireturn (pc := 77) dX6_ofCut_77 rfl rfl (⟨rfl, rfl⟩)
    · skip
      refine a_iload (pc := 52) (i := 4) dX6_ofCut_52 rfl ?_
      refine a_goto (pc := 54) (tgt := 77) dX6_ofCut_54 (by decide) ?_
      refine a_top (show (.int (nI sd) : Value) = .int (nI (ofN s n sd p w)) from by unfold ofN; rw [if_neg (by omega), if_pos c49]) ?_
      exact a_ireturn (pc := 77) dX6_ofCut_77 rfl rfl (⟨rfl, rfl⟩)
  · skip
    refine a_iload_n (pc := 43) (i := 3) dX6_ofCut_43 rfl rfl ?_
    refine a_goto (pc := 44) (tgt := 77) dX6_ofCut_44 (by decide) ?_
    refine a_top (show (.int (nI n) : Value) = .int (nI (ofN s n sd p w)) from by unfold ofN; rw [if_pos c40]) ?_
    exact a_ireturn (pc := 77) dX6_ofCut_77 rfl rfl (⟨rfl, rfl⟩)
/-- cells whose change leaves rows of texts, sizes and texts as they are -/
def okS (S : Nat → Prop) : Prop := ∀ x, S x → (∀ n, kdA x ≠ some (.inr (6, n))) ∧ (∀ n, n ≤ 6 → kdA x ≠ some (.inr (0, n))) ∧ kdA x ≠ some (.inl 7) ∧ ∀ n, n < 64 → kdA x ≠ some (.inr (1, n))
theorem okS.str {S : Nat → Prop} (o : okS S) {h : AH} {r : Nat} {T : List Nat} : ∀ v, SWv h r v T → ¬ S r ∧ ¬ S v := fun v w => ⟨fun z => (o r z).2.2.1 w.1.1, fun z => (o v z).2.2.2 _ w.2.2.2.2.1 w.2.2.2.1.1⟩
theorem okS_k {S : Nat → Prop} (h : ∀ x, S x → kdA x = some (.inl 5) ∨ kdA x = some (.inl 6) ∨ (∃ n, kdA x = some (.inr (2, n))) ∨ kdA x = some (.inr (0, 24)) ∨ kdA x = some (.inr (0, 8)) ∨ kdA x = some (.inr (7, 9))) : okS S := by
  intro x hx
  rcases h x hx with e | e | ⟨n, e⟩ | e | e | e <;> rw [e] <;> refine ⟨fun n z => ?_, fun n hn z => ?_, fun z => ?_, fun n hn z => ?_⟩ <;> cases z <;> omega
theorem okS_no : okS noS := fun x hx => hx.elim
theorem okS_66 : okS (fun x => x < 66) := by
  intro x hx
  have h : ∀ x : Fin 66, (∀ n, shK x.val ≠ some (.inr (6, n))) ∧ (∀ n, n ≤ 6 → shK x.val ≠ some (.inr (0, n))) ∧ shK x.val ≠ some (.inl 7) ∧ ∀ n, n < 64 → shK x.val ≠ some (.inr (1, n)) := by
    have h2 : ∀ x : Fin 66, (match shK x.val with | some (.inr (6, _)) => false | some (.inr (0, n)) => decide (6 < n) | some (.inl 7) => false | some (.inr (1, n)) => decide (64 ≤ n) | _ => true) = true := by decide +kernel
    intro x
    have h3 := h2 x
    refine ⟨fun n z => ?_, fun n hn z => ?_, fun z => ?_, fun n hn z => ?_⟩ <;> rw [z] at h3 <;> simp at h3 <;> omega
  have e : kdA x = shK x := by unfold kdA; rw [if_pos (by omega)]
  rw [e]
  exact h ⟨x, hx⟩
theorem LZ.dq {S : Nat → Prop} {c k L Z : Nat} {h h2 : AH} {s : SH} (l : LZ h k L Z s) (f : Dq S c h h2) (o : okS S) (pa : prN (hN h) (aN k)) (ha : hR h2 (aN k) 2 = hR h (aN k) 2 ∧ hR h2 (aN k) 3 = hR h (aN k) 3) (hh : 2 * sH s ≤ 6) : LZ h2 k L Z s := by
  obtain ⟨rL, rZ, ⟨kL, pL⟩, ⟨kZ, pZ⟩, lin, siz⟩ := l
  have xL := f.2.2 L pL (fun z => (o L z).1 _ kL)
  have xZ := f.2.2 Z pZ (fun z => (o Z z).2.1 _ hh kZ)
  refine ⟨ha.1.trans rL, ha.2.trans rZ, ⟨kL, f.2.1 L pL⟩, ⟨kZ, f.2.1 Z pZ⟩, fun i hi => ?_, fun i hi => by rw [xZ.1]; exact siz i hi⟩
  obtain ⟨r, h1, h2⟩ := lin i hi
  exact ⟨r, by rw [xL.2.2]; exact h1, h2.dq f o.str⟩
theorem LW.dq {S : Nat → Prop} {c k gg : Nat} {h h2 : AH} {s : SH} (l : LW h k gg s) (f : Dq S c h h2) (o : okS S) (ha : ¬ S (aN k)) (hg : ¬ S (gonN k gg s)) : LW h2 k gg s := by
  obtain ⟨⟨bs, pa, pn, pb, pg⟩, ⟨f0, f1, f4, f7, f8⟩, ⟨r9, r10, r5⟩, ⟨L, Z, z⟩, ⟨M, rM, sM⟩, gon⟩ := l
  obtain ⟨x1, x2, x3⟩ := f.2.2 _ pa ha
  have hh := bs.2.2.1
  refine ⟨⟨bs, f.2.1 _ pa, f.2.1 _ pn, f.2.1 _ pb, f.2.1 _ pg⟩, by rw [x1]; exact ⟨f0, f1, f4, f7, f8⟩, by rw [x3]; exact ⟨r9, r10, r5⟩, ⟨L, Z, z.dq f o pa (by rw [x3]; exact ⟨rfl, rfl⟩) (by omega)⟩, ⟨M, by rw [x3]; exact rM, sM.dq f o.str⟩, fun c hc => by rw [(f.2.2 _ pg hg).1]; exact gon c hc⟩
