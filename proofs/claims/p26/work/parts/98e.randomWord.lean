/-! randomWord -/
theorem STR.okd {h : AH} {r : Nat} {T : List Nat} (s : STR h r T) : okd (hN h) (.ref r) := by
  rcases s.2 with ⟨i, hi, rfl, -⟩ | ⟨v, w⟩
  · exact okd_x (by unfold ext; omega)
  · exact okd_r w.1.2
def S1 : Nat → Prop := fun a => a = 67
theorem okS_1 : okS S1 := okS_k (by rintro x rfl; exact Or.inl k67)
theorem Dq.n68 {S : Nat → Prop} {c : Nat} {h h2 : AH} (f : Dq S c h h2) : 68 ≤ hN h2 := f.1.1
def QRw (h : AH) : Res → AH → Prop := fun r h2 => ∃ b U, r = .inl (some (.ref b)) ∧ STA h2 b U ∧ (1 ≤ U.length ∧ U.length ≤ 9) ∧ (∀ j, j < U.length → 97 ≤ U.getD j 0 ∧ U.getD j 0 ≤ 122) ∧ ∃ c, Dq S1 c h h2
theorem i2c_n {n : Nat} (h : n < 128) : ((nI n).toUInt32 % 65536).toInt32 = nI n := by
  have key : ∀ n : Fin 128, ((nI n.1).toUInt32 % 65536).toInt32 = nI n.1 := by decide +kernel
  exact key ⟨n, h⟩
theorem STR.ne {h : AH} {r : Nat} {T : List Nat} (s : STR h r T) (w : wfh h) : r ≠ 1030 := by
  rcases s.2 with ⟨i, hi, rfl, -⟩ | ⟨v, x⟩
  · omega
  · exact prN_ne w.1 x.1.2
set_option maxHeartbeats 1500000 in
set_option maxRecDepth 100000 in
theorem w_randomWord {d : Nat} {h : AH} (hn : 68 ≤ hN h) : AC mL_randomWord (d + 6) 36 360 [.ref 67] h (QRw h) := by
  refine AC.of (by decide) rfl (Nat.le_of_ble_eq_true rfl) (fun X => ?_)
  show AW X mL_randomWord (d + 6) 36 360 0 [(0, .ref 67)] [] h (QRw h)
  have hn0 := hn
  have LP : ∀ (fu m r : Nat) (H : AH) (U : List Nat), STA H r U → 1 ≤ U.length + m ∧ U.length + m ≤ 9 → (∀ j, j < U.length → 97 ≤ U.getD j 0 ∧ U.getD j 0 ≤ 122) → (∃ c, Dq S1 c h H) → m < fu → AW X mL_randomWord (d + 6) (4 * m) (40 * m) 24 [(0, .ref 67), (1, .ref r), (2, .int (nI m))] [] H (QRw h) := by
    intro fu
    induction fu with
    | zero => intro m r H U sta hL hU hD hz; exact absurd hz (Nat.not_lt_zero _)
    | succ fu ih =>
      intro m r H U sta hL hU hD hz
      obtain ⟨cc, hdq⟩ := hD
      have hN68 : 68 ≤ hN H := hdq.n68
      refine a_iload_n (pc := 24) (i := 2) dL_randomWord_24 rfl rfl ?_
      refine n_if_le (pc := 25) (tgt := 61) dL_randomWord_25 (by decide) (by omega) (fun c25 => ?_) (fun c25 => ?_)
      · skip
        refine a_aload_n (pc := 61) (i := 1) dL_randomWord_61 rfl rfl ?_
        refine a_wf (fun hw => ?_)
        exact a_areturn (pc := 62) dL_randomWord_62 rfl rfl (sta.1.ne hw) ⟨r, U, rfl, sta, by omega, hU, cc, hdq⟩
      · skip
        obtain ⟨m, rfl⟩ : ∃ m2, m = m2 + 1 := ⟨m - 1, by omega⟩
        refine a_room (kc' := (3 + 4 * m) + 1) (ks' := (36 + 40 * m) + 4) (by omega) (by omega) ?_
        refine a_wf (fun hw1 => ?_)
        obtain ⟨b, hb0⟩ : ∃ b, b = nm (dl (hN H)) 8 := ⟨_, rfl⟩
        obtain ⟨v, hv0⟩ : ∃ v, v = nm ((dl (hN H)) + 1) (qA 1 16) := ⟨_, rfl⟩
        have n1 : newC (hN H) b (dl (hN H)) 8 := ⟨hN68, hb0, rfl, by decide⟩
        have n2 : newC (hN (nwD H b)) v ((dl (hN H)) + 1) (qA 1 16) := ⟨adn_ge, hv0, by show _ = dl (adn _ _); rw [dl_adn], by decide⟩
        have kb : kdA b = some (.inl 8) := by rw [hb0]; exact kdA_c (by decide)
        have hp1 := fun a => prN_adn (N := hN H) (c := b) (a := a) n1.1
        refine d_new (pc := 28) (ci := 8) (kc := 3 + 4 * m) (ks := 36 + 40 * m) dL_randomWord_28 (by decide) n1 (tbi 949 (by decide +kernel)) (tbi 950 (by decide +kernel)) (tbi 26 (by decide +kernel)) (okc (okd_r (prN_st (Nat.lt_of_lt_of_le (by decide) hN68) (by decide))) (okc sta.1.okd (okc okd_i okz))) okz ?_
        refine a_dup (pc := 31) dL_randomWord_31 rfl ?_
        refine e_I0 (pc := 32) (mc := 1) (ms := 16) (kc := 2 + (4 * m)) (ks := 20 + (40 * m)) (as := []) (b := b) (h' := (sI (sR (nwD (nwD H b) v) b 0 (some v)) b 1 (nI 0))) dL_randomWord_32 (lc_RL_105 rfl) rfl rfl ceJ4_init_da8c8 (sp_sbInit (d := d + 3) ⟨kb, (hp1 _).mpr (Or.inr rfl)⟩ n2) rfl rfl (Nat.le_of_ble_eq_true rfl) (by omega) (by omega) ⟨(okc (okd_r ((hp1 _).mpr (Or.inl (prN_st (Nat.lt_of_lt_of_le (by decide) hN68) (by decide))))) (okc (fun a e => (sta.1.okd a e).imp (fun z => (hp1 a).mpr (Or.inl z)) id) (okc okd_i okz))), (okc (okd_r ((hp1 _).mpr (Or.inr rfl))) okz)⟩ ?_
        obtain ⟨H1, hH1⟩ : ∃ Hx, Hx = sI (sR (nwD (nwD H b) v) b 0 (some v)) b 1 (nI 0) := ⟨_, rfl⟩
        refine a_heap (h' := H1) hH1.symm ?_
        obtain ⟨sb1, dq1⟩ := SBd_begin n1 n2 hw1
        rw [← hH1] at sb1 dq1
        have sta1 := sta.dq dq1 okS_no.str
        refine a_aload_n (pc := 35) (i := 1) dL_randomWord_35 rfl rfl ?_
        refine g_vV1 (pc := 36) (as := [.ref r]) (b := b) (ci := 8) (v := .ref b) (h' := (sI (rI H1 v (fun j => if ([] : List Nat).length ≤ j ∧ j < ([] : List Nat).length + U.length then nI (U.getD (j - ([] : List Nat).length) 0) else hI H1 v j)) b 3 (nI (([] : List Nat).length + U.length)))) dL_randomWord_36 (lc_RL_106 rfl) ceJ4_append_15ec4 sb1.1.1 sb1.1.2 (sb_append (d := d + 1) sb1 sta1 (by show 0 + U.length ≤ 16; omega)) rfl rfl (Nat.le_of_ble_eq_true rfl) rfl ?_
        obtain ⟨H2, hH2⟩ : ∃ Hx, Hx = sI (rI H1 v (fun j => if ([] : List Nat).length ≤ j ∧ j < ([] : List Nat).length + U.length then nI (U.getD (j - ([] : List Nat).length) 0) else hI H1 v j)) b 3 (nI (([] : List Nat).length + U.length)) := ⟨_, rfl⟩
        refine a_heap (h' := H2) hH2.symm ?_
        have sb2 : SBd H2 b v U := by rw [hH2]; exact SBd_app sb1 (by show 0 + U.length ≤ 16; omega)
        have nb : ¬ prN (hN H) b := (n1.no hw1.1).1
        have nv : ¬ prN (hN H) v := fun z => absurd rfl (fun e : v = v => (n2.no (wfh_D hw1 n1 rfl (fun b hb => (nwD_old hb).2.2) (fun j b e => by rw [nwD_row.2.2] at e; cases e)).1).1 ((hp1 v).mpr (Or.inl z)))
        have dq2 : Dq S1 (cc + 2) h H2 := by
          rw [hH2]
          have z : Dq S1 (cc + 2) h H1 := hdq.trans (dq1.mono (fun a z => z.elim))
          exact (z.rI (Or.inr (fun y => nv (hdq.2.1 _ y)))).sI (Or.inr (fun y => nb (hdq.2.1 _ y)))
        refine a_bipush (pc := 39) (v := nI 97) dL_randomWord_39 (by decide) ?_
        refine a_aload_n (pc := 41) (i := 0) dL_randomWord_41 rfl rfl ?_
        refine a_iconst (pc := 42) (v := nI 4) dL_randomWord_42 (by decide) ?_
        refine g_wV (pc := 43) (as := [.int (nI 4)]) (b := 67) (ci := 5) dL_randomWord_43 (lc_RL_98 rfl) ceX5_below k67 (prN_st (Nat.lt_of_lt_of_le (by decide) dq2.n68) (by decide)) (x_below (d := d + 5) dq2.n68 (by omega)) rfl rfl (Nat.le_of_ble_eq_true rfl) (fun E h2 y => by obtain ⟨n, x, -, y, -⟩ := y; cases y) (fun v2 h2 y => by obtain ⟨n, x, -, -, y⟩ := y; rw [y]; rfl) (fun v2 hx y => ?_)
        obtain ⟨q2, x2, hq2, evq2, rfl⟩ := y
        cases evq2
        have b67 : b ≠ 67 := fun e => by have := sb2.1.1; rw [e, k67] at this; cases this
        have v67 : v ≠ 67 := fun e => by have := sb2.2.2.2.1.1; rw [e, k67] at this; cases this
        have sb3 := sb2.si (j := 0) (x := x2) b67 v67
        have dq3 := dq2.sI (b := 67) (j := 0) (x := x2) (Or.inl rfl)
        refine n_iadd (pc := 46) dL_randomWord_46 ?_
        refine a_i2c (pc := 47) dL_randomWord_47 ?_
        refine a_top (show (.int (((nI (97 + q2)).toUInt32 % 65536).toInt32) : Value) = .int (nI (97 + q2)) from congrArg Value.int (i2c_n (by omega))) ?_
        refine g_vV1 (pc := 48) (as := [.int (nI (97 + q2))]) (b := b) (ci := 8) (v := .ref b) (h' := (sI (sI (sI H2 67 0 x2) b 3 (nI (U.length + 1))) v U.length (nI (97 + q2)))) dL_randomWord_48 (lc_RL_109 rfl) ceJ4_append_cf468 sb3.1.1 sb3.1.2 (sb_appendC (d := d + 3) sb3 (by omega) (by omega)) rfl rfl (Nat.le_of_ble_eq_true rfl) rfl ?_
        obtain ⟨H4, hH4⟩ : ∃ Hx, Hx = sI (sI (sI H2 67 0 x2) b 3 (nI (U.length + 1))) v U.length (nI (97 + q2)) := ⟨_, rfl⟩
        refine a_heap (h' := H4) hH4.symm ?_
        have sb4 : SBd H4 b v (U ++ [97 + q2]) := by rw [hH4]; exact SBd_appC sb3 (by omega)
        have dq4 : Dq S1 (cc + 2) h H4 := by rw [hH4]; exact (dq3.sI (Or.inr (fun y => nb (hdq.2.1 _ y)))).sI (Or.inr (fun y => nv (hdq.2.1 _ y)))
        refine a_wf (fun hw4 => ?_)
        have hU2 : ∀ j, j < (U ++ [97 + q2]).length → 97 ≤ (U ++ [97 + q2]).getD j 0 ∧ (U ++ [97 + q2]).getD j 0 ≤ 122 := fun j hj => by
          rw [List.length_append] at hj
          have hj : j < U.length + 1 := hj
          rcases (by omega : j < U.length ∨ j = U.length) with z | z
          · rw [getD_app z]; exact hU j z
          · rw [show (U ++ [97 + q2]).getD j 0 = 97 + q2 by rw [z, List.getD_eq_getElem?_getD, List.getElem?_append_right (Nat.le_refl _), Nat.sub_self]; rfl]; omega
        have hT2 : ∀ j, (U ++ [97 + q2]).getD j 0 < 128 := fun j => by
          rcases Nat.lt_or_ge j (U ++ [97 + q2]).length with z | z
          · have := hU2 j z; omega
          · rw [List.getD_eq_getElem?_getD, List.getElem?_eq_none z]; decide
        have hlen : (U ++ [97 + q2]).length = U.length + 1 := by rw [List.length_append]; rfl
        obtain ⟨r2, hr2⟩ : ∃ b, b = nm (dl (hN H4)) 7 := ⟨_, rfl⟩
        obtain ⟨c2, hc2⟩ : ∃ b, b = nm (dl (hN H4) + 1) (qA 1 (U ++ [97 + q2]).length) := ⟨_, rfl⟩
        have n3 : newC (hN H4) r2 (dl (hN H4)) 7 := ⟨dq4.n68, hr2, rfl, by decide⟩
        have n4 : newC (hN (nwD H4 r2)) c2 (dl (hN H4) + 1) (qA 1 (U ++ [97 + q2]).length) := ⟨adn_ge, hc2, by show _ = dl (adn _ _); rw [dl_adn], by rw [hlen]; unfold qA; omega⟩
        obtain ⟨sw, dqs⟩ := SBd_str sb4 n3 n4 hw4 (by rw [hlen]; omega)
        have sta4 : STR H4 r U := sta.1.dq (c := 2) (S := S1) (by rw [hH4, hH2]; exact (((((dq1.mono (fun a z => z.elim) : Dq S1 2 H H1)).rI (Or.inr nv)).sI (Or.inr nb)).sI (b := 67) (j := 0) (x := x2) (Or.inl rfl) |>.sI (Or.inr nb)).sI (Or.inr nv)) okS_1.str
        refine e_V1 (pc := 51) (mc := 2) (ms := 20) (kc := 4 * m) (ks := 40 * m) (as := []) (b := b) (ci := 8) (v := .ref r2) (h' := (sR (rI (nwD (sI (nwD H4 r2) r2 1 (nI 0)) c2) c2 (va_cpy (hI (nwD (sI (nwD H4 r2) r2 1 (nI 0)) c2) v) (hI (nwD (sI (nwD H4 r2) r2 1 (nI 0)) c2) c2) 0 0 (U ++ [97 + q2]).length)) r2 0 (some c2))) dL_randomWord_51 (lc_RL_112 rfl) ceJ4_toString_0e30d sb4.1.1 sb4.1.2 (sp_toString (d := d) sb4 hT2 (by rw [hlen]; omega) n3 n4) rfl rfl (Nat.le_of_ble_eq_true rfl) (by omega) (by omega) ⟨(okc (okd_r (prN_st (Nat.lt_of_lt_of_le (by decide) dq4.n68) (by decide))) (okc sta4.okd (okc okd_i okz))), okz⟩ ?_
        obtain ⟨H5, hH5⟩ : ∃ Hx, Hx = sR (rI (nwD (sI (nwD H4 r2) r2 1 (nI 0)) c2) c2 (va_cpy (hI (nwD (sI (nwD H4 r2) r2 1 (nI 0)) c2) v) (hI (nwD (sI (nwD H4 r2) r2 1 (nI 0)) c2) c2) 0 0 (U ++ [97 + q2]).length)) r2 0 (some c2) := ⟨_, rfl⟩
        refine a_heap (h' := H5) hH5.symm ?_
        rw [← hH5] at sw dqs
        refine a_astore_n (pc := 54) (i := 1) (ls' := [(0, .ref 67), (1, .ref r2), (2, .int (nI (m + 1)))]) dL_randomWord_54 rfl (by decide) rfl ?_
        refine n_idec (pc := 55) (ls' := [(0, .ref 67), (1, .ref r2), (2, .int (nI ((m + 1) - 1)))]) dL_randomWord_55 rfl (by omega) (by decide) rfl ?_
        refine a_goto (pc := 58) (tgt := 24) dL_randomWord_58 (by decide) ?_
        exact ih m r2 H5 (U ++ [97 + q2]) ⟨⟨hT2, Or.inr ⟨c2, sw⟩⟩, Or.inl ⟨c2, sw⟩⟩ (by rw [hlen]; omega) hU2 ⟨_, dq4.trans (dqs.mono (fun a z => z.elim))⟩ (by omega)
  refine a_ldcS (pc := 0) (i := 6) (tx := "") dL_randomWord_0 (by decide) (by decide) ?_
  refine a_astore_n (pc := 2) (i := 1) (ls' := [(0, .ref 67), (1, .ref (1001 + 6))]) dL_randomWord_2 rfl (by decide) rfl ?_
  refine a_iconst (pc := 3) (v := nI 1) dL_randomWord_3 (by decide) ?_
  refine a_aload_n (pc := 4) (i := 0) dL_randomWord_4 rfl rfl ?_
  refine a_aload_n (pc := 5) (i := 0) dL_randomWord_5 rfl rfl ?_
  refine a_iconst (pc := 6) (v := nI 4) dL_randomWord_6 (by decide) ?_
  refine g_wV (pc := 7) (as := [.int (nI 4)]) (b := 67) (ci := 5) dL_randomWord_7 (lc_RL_98 rfl) ceX5_below k67 (prN_st (Nat.lt_of_lt_of_le (by decide) hn) (by decide)) (x_below (d := d + 5) hn (by omega)) rfl rfl (Nat.le_of_ble_eq_true rfl) (fun E h2 y => by obtain ⟨n, x, -, y, -⟩ := y; cases y) (fun v2 h2 y => by obtain ⟨n, x, -, -, y⟩ := y; rw [y]; rfl) (fun v2 hx y => ?_)
  obtain ⟨q0, x0, hq0, evq0, rfl⟩ := y
  cases evq0
  have hn : 68 ≤ hN (sI h 67 0 x0) := hn
  refine n_if_ne (pc := 10) (tgt := 18) dL_randomWord_10 (by decide) (by omega) (fun c10 => ?_) (fun c10 => ?_)
  · skip
    refine a_iconst (pc := 18) (v := nI 5) dL_randomWord_18 (by decide) ?_
    refine g_wV (pc := 19) (as := [.int (nI 5)]) (b := 67) (ci := 5) dL_randomWord_19 (lc_RL_98 rfl) ceX5_below k67 (prN_st (Nat.lt_of_lt_of_le (by decide) hn) (by decide)) (x_below (d := d + 5) hn (by omega)) rfl rfl (Nat.le_of_ble_eq_true rfl) (fun E h2 y => by obtain ⟨n, x, -, y, -⟩ := y; cases y) (fun v2 h2 y => by obtain ⟨n, x, -, -, y⟩ := y; rw [y]; rfl) (fun v2 hx y => ?_)
    obtain ⟨q1, x1, hq1, evq1, rfl⟩ := y
    cases evq1
    refine n_iadd (pc := 22) dL_randomWord_22 ?_
    refine a_istore_n (pc := 23) (i := 2) (ls' := [(0, .ref 67), (1, .ref (1001 + 6)), (2, .int (nI (1 + q1)))]) dL_randomWord_23 rfl (by decide) rfl ?_
    refine a_room (kc' := 4 * (1 + q1)) (ks' := 40 * (1 + q1)) (by omega) (by omega) ?_
    exact LP (1 + q1 + 1) (1 + q1) (1001 + 6) _ [] ⟨STR_c (i := 6) (by decide), Or.inr rfl⟩ (by show 1 ≤ 0 + (1 + q1) ∧ 0 + (1 + q1) ≤ 9; omega) (fun j hj => absurd hj (Nat.not_lt_zero j)) ⟨0, ((Dq.refl hn0 : Dq S1 0 h h).sI (b := 67) (j := 0) (x := x0) (Or.inl rfl)).sI (b := 67) (j := 0) (x := x1) (Or.inl rfl)⟩ (by omega)
  · skip
    refine a_bipush (pc := 13) (v := nI 9) dL_randomWord_13 (by decide) ?_
    refine a_goto (pc := 15) (tgt := 19) dL_randomWord_15 (by decide) ?_
    refine g_wV (pc := 19) (as := [.int (nI 9)]) (b := 67) (ci := 5) dL_randomWord_19 (lc_RL_98 rfl) ceX5_below k67 (prN_st (Nat.lt_of_lt_of_le (by decide) hn) (by decide)) (x_below (d := d + 5) hn (by omega)) rfl rfl (Nat.le_of_ble_eq_true rfl) (fun E h2 y => by obtain ⟨n, x, -, y, -⟩ := y; cases y) (fun v2 h2 y => by obtain ⟨n, x, -, -, y⟩ := y; rw [y]; rfl) (fun v2 hx y => ?_)
    obtain ⟨q1, x1, hq1, evq1, rfl⟩ := y
    cases evq1
    refine n_iadd (pc := 22) dL_randomWord_22 ?_
    refine a_istore_n (pc := 23) (i := 2) (ls' := [(0, .ref 67), (1, .ref (1001 + 6)), (2, .int (nI (1 + q1)))]) dL_randomWord_23 rfl (by decide) rfl ?_
    refine a_room (kc' := 4 * (1 + q1)) (ks' := 40 * (1 + q1)) (by omega) (by omega) ?_
    exact LP (1 + q1 + 1) (1 + q1) (1001 + 6) _ [] ⟨STR_c (i := 6) (by decide), Or.inr rfl⟩ (by show 1 ≤ 0 + (1 + q1) ∧ 0 + (1 + q1) ≤ 9; omega) (fun j hj => absurd hj (Nat.not_lt_zero j)) ⟨0, ((Dq.refl hn0 : Dq S1 0 h h).sI (b := 67) (j := 0) (x := x0) (Or.inl rfl)).sI (b := 67) (j := 0) (x := x1) (Or.inl rfl)⟩ (by omega)
