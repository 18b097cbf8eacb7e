/-! randomSheet: its lines -/
theorem STR.ln {h : AH} {k E m x : Nat} {y : Option Nat} {U : List Nat} (hE : E ≤ 3) (h68 : 68 ≤ hN h) (s : STR h x U) : STR (sR h (lnN k E) m y) x U :=
  s.dq ((Dq.refl h68 : Dq (fun a => a = lnN k E) 0 h h).sR (Or.inl rfl)) (fun v w => noStr.off (fun a e => by rw [show a = lnN k E from e, kd_ln hE]; exact ⟨fun z => (by cases z), fun n z => (by cases z)⟩) v w)
theorem okc_lt {c : Nat} (h : okq c) : c < 128 := by
  rcases h with rfl | h
  · decide
  · omega
theorem getD_128 {U : List Nat} {c : Nat} (h : ∀ j, U.getD j 0 < 128) (hc : c < 128) : ∀ j, (U ++ [c]).getD j 0 < 128 := fun j => by
  rcases Nat.lt_trichotomy j U.length with z | z | z
  · rw [gA1 z]; exact h j
  · rw [gA2 (i := 0) (by omega)]; exact hc
  · rw [List.getD_eq_getElem?_getD, List.getElem?_eq_none (by rw [List.length_append]; show U.length + 1 ≤ j; omega)]; decide
theorem getD_okc {U : List Nat} {c W : Nat} (hl : U.length = W) (h : ∀ j, j < W → okq (U.getD j 0)) (hc : okq c) : ∀ j, j < W + 1 → okq ((U ++ [c]).getD j 0) := fun j hj => by
  rcases (by omega : j < U.length ∨ j = U.length) with z | z
  · rw [gA1 z]; exact h j (by omega)
  · rw [gA2 (i := 0) (by omega)]; exact hc
theorem mk_no {E m : Nat} (h : ¬ m % E = 0) : mkT E m = [] := by
  unfold mkT
  rw [if_neg (fun e => h (by rw [e, Nat.zero_mod])), if_neg (fun e => h (by rw [e, Nat.mod_self]))]
theorem mk_E {E m : Nat} (hE : 1 ≤ E ∧ E ≤ 3) (hm : m < 2 * E) (h0 : m ≠ 0) (h : m % E = 0) : mkT E m = zT 10 := by
  have e : m = E := by
    rcases (by omega : E = 1 ∨ E = 2 ∨ E = 3) with rfl | rfl | rfl <;> omega
  unfold mkT
  rw [if_neg h0, if_pos e]
set_option maxHeartbeats 1500000 in
set_option maxRecDepth 100000 in
theorem rs_in {X : XT} {d k W E m KA KB : Nat} {h0 : AH} {t0 : ST} {Ln : Nat → List Nat} {T : List Nat} (hW : 1 ≤ W ∧ W ≤ 4) (hE : 1 ≤ E ∧ E ≤ 3) (hm : m < 2 * E) (hJ : ∀ (x : Nat) (U : List Nat) (H : AH), (∃ v, SWv H x v U) → STR H x U → U.length = W → (∀ j, j < W → okq (U.getD j 0)) → RI h0 H t0 k W E 1 m m Ln (fun _ => 1) T → AW X mL_randomSheet (d + 104) KA KB 203 [(0, .ref 0), (1, .ref 66), (2, .ref 67), (3, .ref (aN k)), (4, .int (nI m)), (5, .ref x)] [] H (QRs t0 k h0)) : ∀ (fu c x : Nat) (H : AH) (U : List Nat), STA H x U → U.length = c → c ≤ W → (∀ j, j < c → okq (U.getD j 0)) → RI h0 H t0 k W E 1 m m Ln (fun _ => 1) T → W - c < fu → AW X mL_randomSheet (d + 104) (4 * (W - c) + KA) (40 * (W - c) + KB) 145 [(0, .ref 0), (1, .ref 66), (2, .ref 67), (3, .ref (aN k)), (4, .int (nI m)), (5, .ref x), (6, .int (nI c))] [] H (QRs t0 k h0) := by
  intro fu
  induction fu with
  | zero => intro c x H U sta hl hc hU r hz; exact absurd hz (Nat.not_lt_zero _)
  | succ fu ih =>
    intro c x H U sta hl hc hU r hz
    have hN68 := r.n68
    refine a_iload (pc := 145) (i := 6) dL_randomSheet_145 rfl ?_
    refine a_aload_n (pc := 147) (i := 3) dL_randomSheet_147 rfl rfl ?_
    refine g_getI (pc := 148) (ci := 6) (k := 0) dL_randomSheet_148 (lf_RL_119 rfl) (by decide) rfl kd_a r.1.1.1 ?_
    refine a_top (show (.int (hI H (aN k) 0) : Value) = .int (nI W) from congrArg Value.int r.1.2.1.1) ?_
    refine n_icmp_ge (pc := 151) (tgt := 203) dL_randomSheet_151 (by decide) (by omega) (by omega) (fun c151 => ?_) (fun c151 => ?_)
    · skip
      refine a_drop (ls' := [(0, .ref 0), (1, .ref 66), (2, .ref 67), (3, .ref (aN k)), (4, .int (nI m)), (5, .ref x)]) (by simp) ?_
      refine a_room (kc' := KA) (ks' := KB) (by omega) (by omega) ?_
      have ec : c = W := by omega
      rw [ec] at hl hU
      exact hJ x U H (sta.2.resolve_right (fun z => by rw [z] at hl; have hl : 0 = W := hl; omega)) sta.1 hl hU r
    · skip
      refine a_room (kc' := (3 + (4 * (W - (c + 1)) + KA)) + 1) (ks' := (36 + (40 * (W - (c + 1)) + KB)) + 4) (by omega) (by omega) ?_
      refine a_wf (fun hw1 => ?_)
      obtain ⟨b, hb0⟩ : ∃ b, b = nm (dl (hN H)) 8 := ⟨_, rfl⟩
      obtain ⟨v, hv0⟩ : ∃ v, v = nm ((dl (hN H)) + 1) (qA 1 16) := ⟨_, rfl⟩
      have n1 : newC (hN H) b (dl (hN H)) 8 := ⟨hN68, hb0, rfl, by decide⟩
      have n2 : newC (hN (nwD H b)) v ((dl (hN H)) + 1) (qA 1 16) := ⟨adn_ge, hv0, by show _ = dl (adn _ _); rw [dl_adn], by decide⟩
      have kb : kdA b = some (.inl 8) := by rw [hb0]; exact kdA_c (by decide)
      have hp1 := fun a => prN_adn (N := hN H) (c := b) (a := a) n1.1
      refine d_new (pc := 154) (ci := 8) (kc := 3 + (4 * (W - (c + 1)) + KA)) (ks := 36 + (40 * (W - (c + 1)) + KB)) dL_randomSheet_154 (by decide) n1 (tbi 949 (by decide +kernel)) (tbi 950 (by decide +kernel)) (tbi 26 (by decide +kernel)) (okc (okd_r (prN_st (Nat.lt_of_lt_of_le (by decide) r.n68) (by decide))) (okc (okd_r (prN_st (Nat.lt_of_lt_of_le (by decide) r.n68) (by decide))) (okc (okd_r (prN_st (Nat.lt_of_lt_of_le (by decide) r.n68) (by decide))) (okc (okd_r r.1.1.1) (okc okd_i (okc sta.1.okd (okc okd_i okz))))))) okz ?_
      refine a_dup (pc := 157) dL_randomSheet_157 rfl ?_
      refine e_I0 (pc := 158) (mc := 1) (ms := 16) (kc := 2 + (4 * (W - (c + 1)) + KA)) (ks := 20 + (40 * (W - (c + 1)) + KB)) (as := []) (b := b) (h' := (sI (sR (nwD (nwD H b) v) b 0 (some v)) b 1 (nI 0))) dL_randomSheet_158 (lc_RL_105 rfl) rfl rfl ceJ4_init_da8c8 (sp_sbInit (d := d + 101) ⟨kb, (hp1 _).mpr (Or.inr rfl)⟩ n2) rfl rfl (Nat.le_of_ble_eq_true rfl) (by omega) (by omega) ⟨(okc (okd_r ((hp1 _).mpr (Or.inl (prN_st (Nat.lt_of_lt_of_le (by decide) r.n68) (by decide))))) (okc (okd_r ((hp1 _).mpr (Or.inl (prN_st (Nat.lt_of_lt_of_le (by decide) r.n68) (by decide))))) (okc (okd_r ((hp1 _).mpr (Or.inl (prN_st (Nat.lt_of_lt_of_le (by decide) r.n68) (by decide))))) (okc (okd_r ((hp1 _).mpr (Or.inl r.1.1.1))) (okc okd_i (okc (fun a e => (sta.1.okd a e).imp (fun z => (hp1 a).mpr (Or.inl z)) id) (okc okd_i okz))))))), (okc (okd_r ((hp1 _).mpr (Or.inr rfl))) okz)⟩ ?_
      obtain ⟨H1, hH1⟩ : ∃ Hx, Hx = sI (sR (nwD (nwD H b) v) b 0 (some v)) b 1 (nI 0) := ⟨_, rfl⟩
      refine a_heap (h' := H1) hH1.symm ?_
      obtain ⟨sb1, dq1⟩ := SBd_begin n1 n2 hw1
      rw [← hH1] at sb1 dq1
      have sta1 := sta.dq dq1 okS_no.str
      have nb : ¬ prN (hN H) b := (n1.no hw1.1).1
      have nv : ¬ prN (hN H) v := fun z => absurd rfl (fun e : v = v => (n2.no (wfh_D hw1 n1 rfl (fun b hb => (nwD_old hb).2.2) (fun j b e => by rw [nwD_row.2.2] at e; cases e)).1).1 ((hp1 v).mpr (Or.inl z)))
      have r1 := r.dq dq1 (fun a z => z.elim)
      refine a_aload (pc := 161) (i := 5) dL_randomSheet_161 rfl ?_
      refine g_vV1 (pc := 163) (as := [.ref x]) (b := b) (ci := 8) (v := .ref b) (h' := (sI (rI H1 v (fun j => if ([] : List Nat).length ≤ j ∧ j < ([] : List Nat).length + U.length then nI (U.getD (j - ([] : List Nat).length) 0) else hI H1 v j)) b 3 (nI (([] : List Nat).length + U.length)))) dL_randomSheet_163 (lc_RL_106 rfl) ceJ4_append_15ec4 sb1.1.1 sb1.1.2 (sb_append (d := d + 99) sb1 sta1 (by show 0 + U.length ≤ 16; omega)) rfl rfl (Nat.le_of_ble_eq_true rfl) rfl ?_
      obtain ⟨H2, hH2⟩ : ∃ Hx, Hx = sI (rI H1 v (fun j => if ([] : List Nat).length ≤ j ∧ j < ([] : List Nat).length + U.length then nI (U.getD (j - ([] : List Nat).length) 0) else hI H1 v j)) b 3 (nI (([] : List Nat).length + U.length)) := ⟨_, rfl⟩
      refine a_heap (h' := H2) hH2.symm ?_
      have sb2 : SBd H2 b v U := by rw [hH2]; exact SBd_app sb1 (by show 0 + U.length ≤ 16; omega)
      have dq2 : Dq S1 2 H H2 := by rw [hH2]; exact ((dq1.mono (fun a z => z.elim) : Dq S1 2 H H1).rI (Or.inr nv)).sI (Or.inr nb)
      have b67 : b ≠ 67 := fun e => by have := sb2.1.1; rw [e, k67] at this; cases this
      have v67 : v ≠ 67 := fun e => by have := sb2.2.2.2.1.1; rw [e, k67] at this; cases this
      have K188 : ∀ (ch : Nat) (H3 : AH), okq ch → SBd H3 b v U → Dq S1 2 H H3 → AW X mL_randomSheet (d + 104) (2 + (4 * (W - (c + 1)) + KA)) (20 + (40 * (W - (c + 1)) + KB)) 188 [(0, .ref 0), (1, .ref 66), (2, .ref 67), (3, .ref (aN k)), (4, .int (nI m)), (5, .ref x), (6, .int (nI c))] [.int (nI ch), .ref b] H3 (QRs t0 k h0) := by
        intro ch H3 hch sb3 dq3
        have hch8 := okc_lt hch
        have r3 := r.dq dq3 (fun a z => z)
        refine a_i2c (pc := 188) dL_randomSheet_188 ?_
        refine a_top (show (.int (((nI ch).toUInt32 % 65536).toInt32) : Value) = .int (nI ch) from congrArg Value.int (i2c_n (by omega))) ?_
        refine g_vV1 (pc := 189) (as := [.int (nI ch)]) (b := b) (ci := 8) (v := .ref b) (h' := (sI (sI H3 b 3 (nI (U.length + 1))) v U.length (nI ch))) dL_randomSheet_189 (lc_RL_109 rfl) ceJ4_append_cf468 sb3.1.1 sb3.1.2 (sb_appendC (d := d + 101) sb3 (by omega) (by omega)) rfl rfl (Nat.le_of_ble_eq_true rfl) rfl ?_
        obtain ⟨H4, hH4⟩ : ∃ Hx, Hx = sI (sI H3 b 3 (nI (U.length + 1))) v U.length (nI ch) := ⟨_, rfl⟩
        refine a_heap (h' := H4) hH4.symm ?_
        have sb4 : SBd H4 b v (U ++ [ch]) := by rw [hH4]; exact SBd_appC sb3 (by omega)
        have dq4 : Dq S1 2 H H4 := by rw [hH4]; exact (dq3.sI (Or.inr nb)).sI (Or.inr nv)
        refine a_wf (fun hw4 => ?_)
        have hT2 := getD_128 sta.1.1 hch8
        have hlen : (U ++ [ch]).length = U.length + 1 := by rw [List.length_append]; rfl
        obtain ⟨r2, hr2⟩ : ∃ b, b = nm (dl (hN H4)) 7 := ⟨_, rfl⟩
        obtain ⟨c2, hc2⟩ : ∃ b, b = nm (dl (hN H4) + 1) (qA 1 (U ++ [ch]).length) := ⟨_, rfl⟩
        have n3 : newC (hN H4) r2 (dl (hN H4)) 7 := ⟨dq4.n68, hr2, rfl, by decide⟩
        have n4 : newC (hN (nwD H4 r2)) c2 (dl (hN H4) + 1) (qA 1 (U ++ [ch]).length) := ⟨adn_ge, hc2, by show _ = dl (adn _ _); rw [dl_adn], by rw [hlen]; unfold qA; omega⟩
        obtain ⟨sw, dqs⟩ := SBd_str sb4 n3 n4 hw4 (by rw [hlen]; omega)
        have r4 := r.dq dq4 (fun a z => z)
        have sta4 : STR H4 x U := sta.1.dq dq4 okS_1.str
        refine e_V1 (pc := 192) (mc := 2) (ms := 20) (kc := (4 * (W - (c + 1)) + KA)) (ks := (40 * (W - (c + 1)) + KB)) (as := []) (b := b) (ci := 8) (v := .ref r2) (h' := (sR (rI (nwD (sI (nwD H4 r2) r2 1 (nI 0)) c2) c2 (va_cpy (hI (nwD (sI (nwD H4 r2) r2 1 (nI 0)) c2) v) (hI (nwD (sI (nwD H4 r2) r2 1 (nI 0)) c2) c2) 0 0 (U ++ [ch]).length)) r2 0 (some c2))) dL_randomSheet_192 (lc_RL_112 rfl) ceJ4_toString_0e30d sb4.1.1 sb4.1.2 (sp_toString (d := d + 98) sb4 hT2 (by rw [hlen]; omega) n3 n4) rfl rfl (Nat.le_of_ble_eq_true rfl) (by omega) (by omega) ⟨(okc (okd_r (prN_st (Nat.lt_of_lt_of_le (by decide) r4.n68) (by decide))) (okc (okd_r (prN_st (Nat.lt_of_lt_of_le (by decide) r4.n68) (by decide))) (okc (okd_r (prN_st (Nat.lt_of_lt_of_le (by decide) r4.n68) (by decide))) (okc (okd_r r4.1.1.1) (okc okd_i (okc sta4.okd (okc okd_i okz))))))), okz⟩ ?_
        obtain ⟨H5, hH5⟩ : ∃ Hx, Hx = sR (rI (nwD (sI (nwD H4 r2) r2 1 (nI 0)) c2) c2 (va_cpy (hI (nwD (sI (nwD H4 r2) r2 1 (nI 0)) c2) v) (hI (nwD (sI (nwD H4 r2) r2 1 (nI 0)) c2) c2) 0 0 (U ++ [ch]).length)) r2 0 (some c2) := ⟨_, rfl⟩
        refine a_heap (h' := H5) hH5.symm ?_
        rw [← hH5] at sw dqs
        refine a_astore (pc := 195) (i := 5) (ls' := [(0, .ref 0), (1, .ref 66), (2, .ref 67), (3, .ref (aN k)), (4, .int (nI m)), (5, .ref r2), (6, .int (nI c))]) dL_randomSheet_195 (by decide) rfl ?_
        refine n_iinc (pc := 197) (k := 1) (ls' := [(0, .ref 0), (1, .ref 66), (2, .ref 67), (3, .ref (aN k)), (4, .int (nI m)), (5, .ref r2), (6, .int (nI (c + 1)))]) dL_randomSheet_197 rfl (by decide) (by decide) rfl ?_
        refine a_goto (pc := 200) (tgt := 145) dL_randomSheet_200 (by decide) ?_
        exact ih (c + 1) r2 H5 (U ++ [ch]) ⟨⟨hT2, Or.inr ⟨c2, sw⟩⟩, Or.inl ⟨c2, sw⟩⟩ (by rw [hlen, hl]) (by omega) (fun j hj => getD_okc hl hU hch j hj) (r4.dq dqs (fun a z => z.elim)) (by omega)
      have r2 := r.dq dq2 (fun a z => z)
      refine a_aload_n (pc := 166) (i := 2) dL_randomSheet_166 rfl rfl ?_
      refine a_bipush (pc := 167) (v := nI 6) dL_randomSheet_167 (by decide) ?_
      refine g_wV (pc := 169) (as := [.int (nI 6)]) (b := 67) (ci := 5) dL_randomSheet_169 (lc_RL_98 rfl) ceX5_below k67 (prN_st (Nat.lt_of_lt_of_le (by decide) dq2.n68) (by decide)) (x_below (d := d + 103) dq2.n68 (by omega)) rfl rfl (Nat.le_of_ble_eq_true rfl) (fun E h2 y => by obtain ⟨n, x, -, y, -⟩ := y; cases y) (fun v2 h2 y => by obtain ⟨n, x, -, -, y⟩ := y; rw [y]; rfl) (fun v2 hx y => ?_)
      obtain ⟨q0, x0, hq0, evq0, rfl⟩ := y
      cases evq0
      have sb3 := sb2.si (j := 0) (x := x0) b67 v67
      have dq3 := dq2.sI (b := 67) (j := 0) (x := x0) (Or.inl rfl)
      have r3 := r2.bel (x := x0)
      refine n_if_ne (pc := 172) (tgt := 180) dL_randomSheet_172 (by decide) (by omega) (fun c172 => ?_) (fun c172 => ?_)
      · skip
        refine a_bipush (pc := 180) (v := nI 97) dL_randomSheet_180 (by decide) ?_
        refine a_aload_n (pc := 182) (i := 2) dL_randomSheet_182 rfl rfl ?_
        refine a_iconst (pc := 183) (v := nI 4) dL_randomSheet_183 (by decide) ?_
        refine g_wV (pc := 184) (as := [.int (nI 4)]) (b := 67) (ci := 5) dL_randomSheet_184 (lc_RL_98 rfl) ceX5_below k67 (prN_st (Nat.lt_of_lt_of_le (by decide) dq3.n68) (by decide)) (x_below (d := d + 103) dq3.n68 (by omega)) rfl rfl (Nat.le_of_ble_eq_true rfl) (fun E h2 y => by obtain ⟨n, x, -, y, -⟩ := y; cases y) (fun v2 h2 y => by obtain ⟨n, x, -, -, y⟩ := y; rw [y]; rfl) (fun v2 hx y => ?_)
        obtain ⟨q1, x1, hq1, evq1, rfl⟩ := y
        cases evq1
        refine n_iadd (pc := 187) dL_randomSheet_187 ?_
        exact K188 (97 + q1) _ (Or.inr (by omega)) (sb3.si (j := 0) (x := x1) b67 v67) (dq3.sI (b := 67) (j := 0) (x := x1) (Or.inl rfl))
      · skip
        refine a_bipush (pc := 175) (v := nI 45) dL_randomSheet_175 (by decide) ?_
        refine a_goto (pc := 177) (tgt := 188) dL_randomSheet_177 (by decide) ?_
        exact K188 45 _ (Or.inl rfl) sb3 dq3
set_option maxHeartbeats 1500000 in
set_option maxRecDepth 100000 in
theorem rs_1 {X : XT} {d k W E : Nat} {h0 : AH} {t0 : ST} (hW : 1 ≤ W ∧ W ≤ 4) (hE : 1 ≤ E ∧ E ≤ 3) (nw0 : ∀ i q, q < 1024 → ¬ prN (hN h0) (nm (k + i) q)) : ∀ (fu m : Nat) (H : AH) (T : List Nat) (Ln : Nat → List Nat), m ≤ 2 * E → RI h0 H t0 k W E 1 m m Ln (fun _ => 1) T → LT T W E m Ln → (∀ r, r < m → (Ln r).length = W ∧ ∀ j, j < W → okq ((Ln r).getD j 0)) → 2 * E - m < fu → AW X mL_randomSheet (d + 104) (16 * (2 * E - m) + 1) (160 * (2 * E - m) + 6) 100 [(0, .ref 0), (1, .ref 66), (2, .ref 67), (3, .ref (aN k)), (4, .int (nI m))] [] H (QRs t0 k h0) := by
  intro fu
  induction fu with
  | zero => intro m H T Ln hm r lt hLn hz; exact absurd hz (Nat.not_lt_zero _)
  | succ fu ih =>
    intro m H T Ln hm r lt hLn hz
    have hT9 : T.length ≤ 49 := by
      have z := psn_le (m := m) hW.2 hE.2 (by omega)
      have z2 := LT_mk hE.1 lt
      have z3 := z2.1
      rw [List.length_append] at z3
      omega
    refine a_iload (pc := 100) (i := 4) dL_randomSheet_100 rfl ?_
    refine a_iconst (pc := 102) (v := nI 2) dL_randomSheet_102 (by decide) ?_
    refine a_aload_n (pc := 103) (i := 3) dL_randomSheet_103 rfl rfl ?_
    refine g_getI (pc := 104) (ci := 6) (k := 1) dL_randomSheet_104 (lf_RL_123 rfl) (by decide) rfl kd_a r.1.1.1 ?_
    refine a_top (show (.int (hI H (aN k) 1) : Value) = .int (nI E) from congrArg Value.int r.1.2.1.2.1) ?_
    refine n_imul (pc := 107) dL_randomSheet_107 ?_
    refine n_icmp_ge (pc := 108) (tgt := 240) dL_randomSheet_108 (by decide) (by omega) (by omega) (fun c108 => ?_) (fun c108 => ?_)
    · skip
      obtain rfl : m = 2 * E := by omega
      refine a_drop (ls' := [(0, .ref 0), (1, .ref 66), (2, .ref 67), (3, .ref (aN k))]) (by simp) ?_
      refine a_room (kc' := 1) (ks' := 6) (by omega) (by omega) ?_
      have e2 : 2 * E = E + E := by omega
      have lt2 : LNs T W E (E + E) Ln := by rw [← e2]; exact lt.2
      have hT : T.length = psn W E (E + E) := by
        have z := lt.1
        rw [if_neg (by omega), if_neg (by omega), e2] at z
        rw [z]
        unfold psn
        rw [if_neg (by omega)]
      exact rs_2 hW hE nw0 r lt2 hLn hT
    · skip
      have K138 : ∀ (H3 : AH) (T3 : List Nat), RI h0 H3 t0 k W E 1 m m Ln (fun _ => 1) T3 → LT2 T3 W E m Ln → AW X mL_randomSheet (d + 104) (16 * (2 * E - m) + 1) (160 * (2 * E - m) + 6) 138 [(0, .ref 0), (1, .ref 66), (2, .ref 67), (3, .ref (aN k)), (4, .int (nI m))] [] H3 (QRs t0 k h0) := by
        intro H3 T3 r3 lt3
        refine a_ldcS (pc := 138) (i := 6) (tx := "") dL_randomSheet_138 (by decide) (by decide) ?_
        refine a_astore (pc := 140) (i := 5) (ls' := [(0, .ref 0), (1, .ref 66), (2, .ref 67), (3, .ref (aN k)), (4, .int (nI m)), (5, .ref (1001 + 6))]) dL_randomSheet_140 (by decide) rfl ?_
        refine a_iconst (pc := 142) (v := nI 0) dL_randomSheet_142 (by decide) ?_
        refine a_istore (pc := 143) (i := 6) (ls' := [(0, .ref 0), (1, .ref 66), (2, .ref 67), (3, .ref (aN k)), (4, .int (nI m)), (5, .ref (1001 + 6)), (6, .int (nI 0))]) dL_randomSheet_143 (by decide) rfl ?_
        refine a_room (kc' := 4 * (W - 0) + (16 * (2 * E - (m + 1)) + 1)) (ks' := 40 * (W - 0) + (160 * (2 * E - (m + 1)) + 6)) (by omega) (by omega) ?_
        refine rs_in (KA := (16 * (2 * E - (m + 1)) + 1)) (KB := (160 * (2 * E - (m + 1)) + 6)) hW hE c108 (fun x U H4 sw st4 hl4 hU4 r4 => ?_) (W + 1) 0 (1001 + 6) H3 [] ⟨STR_c (i := 6) (by decide), Or.inr rfl⟩ rfl (Nat.zero_le _) (fun j hj => absurd hj (Nat.not_lt_zero j)) r3 (by omega)
        obtain ⟨v4, sw⟩ := sw
        have hp9 := lt3.1
        have hp8 := psn_le (m := m) hW.2 hE.2 (by omega)
        refine a_aload_n (pc := 203) (i := 3) dL_randomSheet_203 rfl rfl ?_
        refine g_getR (pc := 204) (ci := 6) (k := 2) (b := lnN k E) dL_randomSheet_204 (lf_RL_133 rfl) (by decide) rfl kd_a r4.1.1.1 r4.1.2.2.1.2.2.2.1 ?_
        refine a_iload (pc := 207) (i := 4) dL_randomSheet_207 rfl ?_
        refine a_aload (pc := 209) (i := 5) dL_randomSheet_209 rfl ?_
        refine g_aasto (pc := 211) (t := 6) (n := 2 * E) (j := m) (b := x) (ci := 7) dL_randomSheet_211 (kd_ln hE.2) (Or.inr (Or.inl ⟨rfl, rfl⟩)) r4.1.1.2.2.2.2.1 rfl c108 sw.1.1 sw.1.2 ?_
        have st5 := st4.ln (k := k) (m := m) (y := some x) hE.2 r4.n68
        have r4_31 := r4.own (k1 := k + 7) (q1 := (qA 6 (2 * E))) (r4.1.line hE.2 st4) ((Dq.refl r4.n68 : Dq (fun a => a = lnN k E) 0 _ _).sR (Or.inl rfl)) (nw0 7 _ (by have := hE.2; unfold qA; omega))
        obtain ⟨H32, hH32⟩ : ∃ Hx, Hx = sR H4 (lnN k E) m (some x) := ⟨_, rfl⟩
        refine a_heap (h' := H32) hH32.symm ?_
        rw [← hH32] at r4_31
        rw [← hH32] at st5
        refine a_aload_n (pc := 212) (i := 0) dL_randomSheet_212 rfl rfl ?_
        refine a_aload_n (pc := 213) (i := 1) dL_randomSheet_213 rfl rfl ?_
        refine a_ldcS (pc := 214) (i := 8) (tx := " ") dL_randomSheet_214 (by decide) (by decide) ?_
        refine g_uS (pc := 216) (as := [.ref 0, .ref 66, .ref (1001 + 8)]) dL_randomSheet_216 (lc_RL_90 rfl) ceL_write (w_write (d := d) r4_31.2.1 (STR_c (i := 8) (by decide)) r4_31.n68 (by rw [show (zT 8).length = 1 from rfl]; omega)) rfl rfl (Nat.le_of_ble_eq_true rfl) (fun h2 y => y.2.2) (fun H33 yH33 => ?_)
        have r4_34 := r4_31.w yH33
        have st6 := st5.dq yH33.2.1 okS_67.str
        refine a_aload_n (pc := 219) (i := 0) dL_randomSheet_219 rfl rfl ?_
        refine a_aload_n (pc := 220) (i := 1) dL_randomSheet_220 rfl rfl ?_
        refine a_aload (pc := 221) (i := 5) dL_randomSheet_221 rfl ?_
        refine g_uS (pc := 223) (as := [.ref 0, .ref 66, .ref x]) dL_randomSheet_223 (lc_RL_90 rfl) ceL_write (w_write (d := d) r4_34.2.1 st6 r4_34.n68 (by rw [List.length_append, show (zT 8).length = 1 from rfl]; omega)) rfl rfl (Nat.le_of_ble_eq_true rfl) (fun h2 y => y.2.2) (fun H35 yH35 => ?_)
        have r4_36 := r4_34.w yH35
        refine a_aload_n (pc := 226) (i := 3) dL_randomSheet_226 rfl rfl ?_
        refine g_getR (pc := 227) (ci := 6) (k := 3) (b := szN k E) dL_randomSheet_227 (lf_RL_137 rfl) (by decide) rfl kd_a r4_36.1.1.1 r4_36.1.2.2.1.2.2.2.2 ?_
        refine a_iload (pc := 230) (i := 4) dL_randomSheet_230 rfl ?_
        refine a_iconst (pc := 232) (v := nI 1) dL_randomSheet_232 (by decide) ?_
        refine g_iast (pc := 233) (j := m) dL_randomSheet_233 (kd_sz hE.2) r4_36.1.1.2.2.2.2.2 rfl (by omega) ?_
        have r4_37 := r4_36.own (k1 := k + 8) (q1 := (qA 0 (2 * E))) (r4_36.1.size hW.2 hE.2 (j := m) (y := 1) (f2 := fun _ => 1) (m3 := m + 1) rfl (fun _ _ => rfl) (fun r hr hne => by omega)) ((Dq.refl r4_36.n68 : Dq (fun a => a = szN k E) 0 _ _).sI (Or.inl rfl)) (nw0 8 _ (by have := hE.2; unfold qA; omega))
        obtain ⟨H38, hH38⟩ : ∃ Hx, Hx = sI H35 (szN k E) m (nI 1) := ⟨_, rfl⟩
        refine a_heap (h' := H38) hH38.symm ?_
        rw [← hH38] at r4_37
        refine n_iinc (pc := 234) (k := 1) (ls' := [(0, .ref 0), (1, .ref 66), (2, .ref 67), (3, .ref (aN k)), (4, .int (nI (m + 1))), (5, .ref x)]) dL_randomSheet_234 rfl (by decide) (by decide) rfl ?_
        refine a_goto (pc := 237) (tgt := 100) dL_randomSheet_237 (by decide) ?_
        refine a_drop (ls' := [(0, .ref 0), (1, .ref 66), (2, .ref 67), (3, .ref (aN k)), (4, .int (nI (m + 1)))]) (by simp) ?_
        exact ih (m + 1) _ _ _ (by omega) r4_37 (LT_line lt3 hl4) (fun r hr => by show (if r = m then U else Ln r).length = W ∧ ∀ j, j < W → okq ((if r = m then U else Ln r).getD j 0); by_cases e : r = m; rw [if_pos e]; exact ⟨hl4, hU4⟩; rw [if_neg e]; exact hLn r (by omega)) (by omega)
      have hml := Nat.mod_lt m (show 0 < E by omega)
      refine a_iload (pc := 111) (i := 4) dL_randomSheet_111 rfl ?_
      refine a_aload_n (pc := 113) (i := 3) dL_randomSheet_113 rfl rfl ?_
      refine g_getI (pc := 114) (ci := 6) (k := 1) dL_randomSheet_114 (lf_RL_123 rfl) (by decide) rfl kd_a r.1.1.1 ?_
      refine a_top (show (.int (hI H (aN k) 1) : Value) = .int (nI E) from congrArg Value.int r.1.2.1.2.1) ?_
      refine n_irem (pc := 117) dL_randomSheet_117 (by omega) (by omega) (by omega) ?_
      refine n_if_ne (pc := 118) (tgt := 138) dL_randomSheet_118 (by decide) (by omega) (fun c118 => ?_) (fun c118 => ?_)
      · skip
        have z := LT_mk hE.1 lt
        rw [mk_no (fun e => by omega), List.append_nil] at z
        exact K138 _ _ r z
      · skip
        refine a_aload_n (pc := 121) (i := 0) dL_randomSheet_121 rfl rfl ?_
        refine a_aload_n (pc := 122) (i := 1) dL_randomSheet_122 rfl rfl ?_
        refine a_iload (pc := 123) (i := 4) dL_randomSheet_123 rfl ?_
        refine n_if_ne (pc := 125) (tgt := 133) dL_randomSheet_125 (by decide) (by omega) (fun c125 => ?_) (fun c125 => ?_)
        · skip
          refine a_ldcS (pc := 133) (i := 10) (tx := ";back") dL_randomSheet_133 (by decide) (by decide) ?_
          refine g_uS (pc := 135) (as := [.ref 0, .ref 66, .ref (1001 + 10)]) dL_randomSheet_135 (lc_RL_90 rfl) ceL_write (w_write (d := d) r.2.1 (STR_c (i := 10) (by decide)) r.n68 (by rw [show (zT 10).length = 5 from rfl]; omega)) rfl rfl (Nat.le_of_ble_eq_true rfl) (fun h2 y => y.2.2) (fun H41 yH41 => ?_)
          have r_42 := r.w yH41
          have z := LT_mk hE.1 lt
          rw [mk_E hE c108 (by omega) (by omega)] at z
          exact K138 _ _ r_42 z
        · skip
          refine a_ldcS (pc := 128) (i := 9) (tx := ";front") dL_randomSheet_128 (by decide) (by decide) ?_
          refine a_goto (pc := 130) (tgt := 135) dL_randomSheet_130 (by decide) ?_
          refine g_uS (pc := 135) (as := [.ref 0, .ref 66, .ref (1001 + 9)]) dL_randomSheet_135 (lc_RL_90 rfl) ceL_write (w_write (d := d) r.2.1 (STR_c (i := 9) (by decide)) r.n68 (by rw [show (zT 9).length = 6 from rfl]; omega)) rfl rfl (Nat.le_of_ble_eq_true rfl) (fun h2 y => y.2.2) (fun H41 yH41 => ?_)
          have r_42 := r.w yH41
          have z := LT_mk hE.1 lt
          rw [show mkT E m = zT 9 from if_pos (by omega)] at z
          exact K138 _ _ r_42 z
