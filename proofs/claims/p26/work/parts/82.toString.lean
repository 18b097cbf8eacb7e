/-! StringBuilder: its making, toString; what is new beside what stood -/
set_option maxHeartbeats 1500000 in
set_option maxRecDepth 100000 in
theorem sb_getValue {d b v : Nat} {T : List Nat} {h : AH} (s : SBd h b v T) : AC mJ5_getValue_6d5f1 d 0 0 [.ref b] h (Qe (some (.ref v)) h) := by
  refine AC.of (by decide) rfl (Nat.le_of_ble_eq_true rfl) (fun X => ?_)
  show AW X mJ5_getValue_6d5f1 d 0 0 0 [(0, .ref b)] [] h (Qe (some (.ref v)) h)
  refine a_wf (fun hw => ?_)
  refine a_aload_n (pc := 0) (i := 0) dJ5_getValue_6d5f1_0 rfl rfl ?_
  refine g_getR (pc := 1) (ci := 8) (k := 0) (b := v) dJ5_getValue_6d5f1_1 (lf_RJ5_15 rfl) (by decide) rfl s.1.1 s.1.2 s.2.2.1 ?_
  exact a_areturn (pc := 4) dJ5_getValue_6d5f1_4 rfl rfl (prN_ne hw.1 s.2.2.2.1.2) (⟨rfl, rfl⟩)
set_option maxHeartbeats 1500000 in
set_option maxRecDepth 100000 in
theorem sb_length5 {d b v : Nat} {T : List Nat} {h : AH} (s : SBd h b v T) : AC mJ5_length_8abf5 d 0 0 [.ref b] h (Qe (some (.int (nI T.length))) h) := by
  refine AC.of (by decide) rfl (Nat.le_of_ble_eq_true rfl) (fun X => ?_)
  show AW X mJ5_length_8abf5 d 0 0 0 [(0, .ref b)] [] h (Qe (some (.int (nI T.length))) h)
  refine a_aload_n (pc := 0) (i := 0) dJ5_length_8abf5_0 rfl rfl ?_
  refine g_getI (pc := 1) (ci := 8) (k := 3) dJ5_length_8abf5_1 (lf_RJ5_79 rfl) (by decide) rfl s.1.1 s.1.2 ?_
  refine a_top (show (.int (hI h b 3) : Value) = .int (nI T.length) from congrArg Value.int s.2.2.2.2.1) ?_
  exact a_ireturn (pc := 4) dJ5_length_8abf5_4 rfl rfl (⟨rfl, rfl⟩)
set_option maxHeartbeats 1500000 in
set_option maxRecDepth 100000 in
theorem sb_length {d b v : Nat} {T : List Nat} {h : AH} (s : SBd h b v T) : AC mJ4_length_8abf5 (d + 1) 0 0 [.ref b] h (Qe (some (.int (nI T.length))) h) := by
  refine AC.of (by decide) rfl (Nat.le_of_ble_eq_true rfl) (fun X => ?_)
  show AW X mJ4_length_8abf5 (d + 1) 0 0 0 [(0, .ref b)] [] h (Qe (some (.int (nI T.length))) h)
  refine a_aload_n (pc := 0) (i := 0) dJ4_length_8abf5_0 rfl rfl ?_
  refine g_vP1 (pc := 1) (as := []) (b := b) (ci := 8) (v := .int (nI T.length)) (h' := h) dJ4_length_8abf5_1 (lc_RJ4_343 rfl) (by decide) ceJ5_length_8abf5 s.1.1 s.1.2 (sb_length5 s) rfl rfl (Nat.le_of_ble_eq_true rfl) rfl ?_
  exact a_ireturn (pc := 4) dJ4_length_8abf5_4 rfl rfl (⟨rfl, rfl⟩)
theorem SBd.nwD {h : AH} {b v c k q : Nat} {T : List Nat} (s : SBd h b v T) (n : newC (hN h) c k q) (w : wfh h) : SBd (nwD h c) b v T := by
  have hno := n.no w.1
  have hb : b ≠ c := fun e => hno.1 (e ▸ s.1.2)
  have hv : v ≠ c := fun e => hno.1 (e ▸ s.2.2.2.1.2)
  have hp := fun a => prN_adn (N := hN h) (c := c) (a := a) n.1
  obtain ⟨⟨s1, s2⟩, s3, s4, ⟨s5, s6⟩, s7, s8, s9⟩ := s
  refine ⟨⟨s1, (hp b).mpr (Or.inl s2)⟩, ?_, ?_, ⟨s5, (hp v).mpr (Or.inl s6)⟩, ?_, s8, fun j hj => ?_⟩
  · rw [(nwD_old hb).1]; exact s3
  · rw [(nwD_old hb).2.2]; exact s4
  · rw [(nwD_old hb).1]; exact s7
  · rw [(nwD_old hv).1]; exact s9 j hj
theorem lt16 {n : Nat} (hn : n < 16) : ¬ nI n = nI 16 := fun e => by
  have := (nI_eq (a := n) (b := 16) (by omega) (by omega)).mp e
  omega
theorem SBd.si {h : AH} {b v c j : Nat} {x : Int32} {T : List Nat} (s : SBd h b v T) (hb : b ≠ c) (hv : v ≠ c) : SBd (sI h c j x) b v T := by
  obtain ⟨s0, s3, s4, s5, s7, s8, s9⟩ := s
  refine ⟨s0, ?_, s4, s5, ?_, s8, fun i hi => ?_⟩
  · rw [show hI (sI h c j x) b = hI h b from up2_row hb]; exact s3
  · rw [show hI (sI h c j x) b = hI h b from up2_row hb]; exact s7
  · rw [show hI (sI h c j x) v = hI h v from up2_row hv]; exact s9 i hi
set_option maxHeartbeats 1500000 in
set_option maxRecDepth 100000 in
theorem sp_checkLength {d n : Nat} {h : AH} (hn : n < 64) : AC mJ7_checkLength_df160 d 0 0 [.int (nI 0), .int (nI n)] h (Qe none h) := by
  refine AC.of (by decide) rfl (Nat.le_of_ble_eq_true rfl) (fun X => ?_)
  show AW X mJ7_checkLength_df160 d 0 0 0 [(0, .int (nI 0)), (1, .int (nI n))] [] h (Qe none h)
  refine a_iload_n (pc := 0) (i := 1) dJ7_checkLength_df160_0 rfl rfl ?_
  refine a_iload_n (pc := 1) (i := 0) dJ7_checkLength_df160_1 rfl rfl ?_
  refine n_icmp_ge (pc := 2) (tgt := 37) dJ7_checkLength_df160_2 (by decide) (by omega) (by omega) (fun c2 => ?_) (fun c2 => ?_)
  · skip
    exact a_return (pc := 37) dJ7_checkLength_df160_37 rfl (⟨rfl, rfl⟩)
  · exact absurd c2 (by omega)
set_option maxHeartbeats 1500000 in
set_option maxRecDepth 100000 in
theorem sp_copyByte {d v c k n : Nat} {h : AH} (hv : kdA v = some (.inr (1, 16)) ∧ prN (hN h) v) (hf : ∀ i, i < n → fits .byte (.int (hI h v i)) = true) (hn9 : n < 16) (hn : newC (hN h) c k (qA 1 n)) : AC mJ7_copyOfRangeByte_39247 (d + 1) 1 16 [.ref v, .int (nI 0), .int (nI n)] h (Qe (some (.ref c)) (rI (nwD h c) c (va_cpy (hI (nwD h c) v) (hI (nwD h c) c) 0 0 n))) := by
  refine AC.of (by decide) rfl (Nat.le_of_ble_eq_true rfl) (fun X => ?_)
  show AW X mJ7_copyOfRangeByte_39247 (d + 1) 1 16 0 [(0, .ref v), (1, .int (nI 0)), (2, .int (nI n))] [] h (Qe (some (.ref c)) (rI (nwD h c) c (va_cpy (hI (nwD h c) v) (hI (nwD h c) c) 0 0 n)))
  refine a_wf (fun hw => ?_)
  refine a_iload_n (pc := 0) (i := 1) dJ7_copyOfRangeByte_39247_0 rfl rfl ?_
  refine a_iload_n (pc := 1) (i := 2) dJ7_copyOfRangeByte_39247_1 rfl rfl ?_
  refine a_vS0 (pc := 2) (as := [.int (nI 0), .int (nI n)]) (h' := h) dJ7_copyOfRangeByte_39247_2 (lc_RJ7_343 rfl) ceJ7_checkLength_df160 (sp_checkLength (by omega)) rfl rfl (Nat.le_of_ble_eq_true rfl) rfl ?_
  refine a_iload_n (pc := 5) (i := 2) dJ7_copyOfRangeByte_39247_5 rfl rfl ?_
  refine a_iload_n (pc := 6) (i := 1) dJ7_copyOfRangeByte_39247_6 rfl rfl ?_
  refine n_isub (pc := 7) dJ7_copyOfRangeByte_39247_7 (by omega) ?_
  refine a_top (show (.int (nI (n - 0)) : Value) = .int (nI n) from rfl) ?_
  refine a_istore_n (pc := 8) (i := 3) (ls' := [(0, .ref v), (1, .int (nI 0)), (2, .int (nI n)), (3, .int (nI n))]) dJ7_copyOfRangeByte_39247_8 rfl (by decide) rfl ?_
  refine a_iload_n (pc := 9) (i := 3) dJ7_copyOfRangeByte_39247_9 rfl rfl ?_
  refine a_room (kc' := 0 + 1) (ks' := 0 + n) (Nat.le_refl _) (by omega) ?_
  refine d_newarr (pc := 10) (t := 1) (n := n) (kc := 0) (ks := 0) dJ7_copyOfRangeByte_39247_10 (by omega) hn rfl (by decide) aC_in.2.1 rfl (okc (okd_r hv.2) (okc okd_i (okc okd_i (okc okd_i okz)))) okz ?_
  have hp := fun a => prN_adn (N := hN h) (c := c) (a := a) hn.1
  have hw2 : wfh (nwD h c) := wfh_D hw hn rfl (fun b hb => (nwD_old hb).2.2) (fun j b e => by rw [nwD_row.2.2] at e; cases e)
  refine a_astore (pc := 12) (i := 4) (ls' := [(0, .ref v), (1, .int (nI 0)), (2, .int (nI n)), (3, .int (nI n)), (4, .ref c)]) dJ7_copyOfRangeByte_39247_12 (by decide) rfl ?_
  refine a_aload_n (pc := 14) (i := 0) dJ7_copyOfRangeByte_39247_14 rfl rfl ?_
  refine a_iload_n (pc := 15) (i := 1) dJ7_copyOfRangeByte_39247_15 rfl rfl ?_
  refine a_aload (pc := 16) (i := 4) dJ7_copyOfRangeByte_39247_16 rfl ?_
  refine a_iconst (pc := 18) (v := nI 0) dJ7_copyOfRangeByte_39247_18 (by decide) ?_
  refine a_aload_n (pc := 19) (i := 0) dJ7_copyOfRangeByte_39247_19 rfl rfl ?_
  refine g_alen (pc := 20) (n := 16) dJ7_copyOfRangeByte_39247_20 hv.1 ((hp v).mpr (Or.inl hv.2)) ?_
  refine a_iload_n (pc := 21) (i := 1) dJ7_copyOfRangeByte_39247_21 rfl rfl ?_
  refine n_isub (pc := 22) dJ7_copyOfRangeByte_39247_22 (by omega) ?_
  refine a_iload_n (pc := 23) (i := 3) dJ7_copyOfRangeByte_39247_23 rfl rfl ?_
  refine n_mmin (pc := 24) dJ7_copyOfRangeByte_39247_24 (lm_RJ7_304 rfl) (Nat.le_of_ble_eq_true rfl) (by omega) (by omega) ?_
  refine a_top (show (.int (nI (min (16 - 0) n)) : Value) = .int (nI n) from congrArg (fun z : Nat => (.int (nI z) : Value)) (Nat.min_eq_right (by omega))) ?_
  refine g_copy (pc := 27) (a := v) (b := c) (n1 := 16) (n2 := n) (t := 1) (sp := 0) (dp := 0) (n := n) dJ7_copyOfRangeByte_39247_27 (tbi 1016 (by decide +kernel)) hv.1 (show kdA c = some (.inr (1, n)) from by rw [hn.2.1]; exact kdA_a (by omega) (by omega)) (by decide) ((hp v).mpr (Or.inl hv.2)) ((hp c).mpr (Or.inr rfl)) rfl rfl rfl (by omega) (by omega) (fun _ i hi => by rw [Nat.zero_add, (nwD_old (h := h) (c := c) (a := v) (fun e => (hn.no hw.1).1 (by rw [← e]; exact hv.2))).1]; exact hf i hi) (Nat.le_of_ble_eq_true rfl) ?_
  refine a_aload (pc := 30) (i := 4) dJ7_copyOfRangeByte_39247_30 rfl ?_
  exact a_areturn (pc := 32) dJ7_copyOfRangeByte_39247_32 rfl rfl (prN_ne hw2.1 ((hp c).mpr (Or.inr rfl))) ⟨rfl, rfl⟩
set_option maxHeartbeats 1500000 in
set_option maxRecDepth 100000 in
theorem sp_copyRange {d v c k n : Nat} {h : AH} (hv : kdA v = some (.inr (1, 16)) ∧ prN (hN h) v) (hf : ∀ i, i < n → fits .byte (.int (hI h v i)) = true) (hn9 : n < 16) (hn : newC (hN h) c k (qA 1 n)) : AC mJ7_copyOfRange_39247 (d + 2) 1 16 [.ref v, .int (nI 0), .int (nI n)] h (Qe (some (.ref c)) (rI (nwD h c) c (va_cpy (hI (nwD h c) v) (hI (nwD h c) c) 0 0 n))) := by
  refine AC.of (by decide) rfl (Nat.le_of_ble_eq_true rfl) (fun X => ?_)
  show AW X mJ7_copyOfRange_39247 (d + 2) 1 16 0 [(0, .ref v), (1, .int (nI 0)), (2, .int (nI n))] [] h (Qe (some (.ref c)) (rI (nwD h c) c (va_cpy (hI (nwD h c) v) (hI (nwD h c) c) 0 0 n)))
  refine a_wf (fun hw => ?_)
  have hp := fun a => prN_adn (N := hN h) (c := c) (a := a) hn.1
  have hw2 : wfh (nwD h c) := wfh_D hw hn rfl (fun b hb => (nwD_old hb).2.2) (fun j b e => by rw [nwD_row.2.2] at e; cases e)
  refine a_iload_n (pc := 0) (i := 1) dJ7_copyOfRange_39247_0 rfl rfl ?_
  refine n_if_ne (pc := 1) (tgt := 10) dJ7_copyOfRange_39247_1 (by decide) (by omega) (fun c1 => ?_) (fun c1 => ?_)
  · exact absurd c1 (by omega)
  · skip
    refine a_iload_n (pc := 4) (i := 2) dJ7_copyOfRange_39247_4 rfl rfl ?_
    refine a_aload_n (pc := 5) (i := 0) dJ7_copyOfRange_39247_5 rfl rfl ?_
    refine g_alen (pc := 6) (n := 16) dJ7_copyOfRange_39247_6 hv.1 hv.2 ?_
    refine n_icmp_eq (pc := 7) (tgt := 17) dJ7_copyOfRange_39247_7 (by decide) (by omega) (by omega) (fun c7 => ?_) (fun c7 => ?_)
    · exact absurd c7 (by omega)
    · skip
      refine a_aload_n (pc := 10) (i := 0) dJ7_copyOfRange_39247_10 rfl rfl ?_
      refine a_iload_n (pc := 11) (i := 1) dJ7_copyOfRange_39247_11 rfl rfl ?_
      refine a_iload_n (pc := 12) (i := 2) dJ7_copyOfRange_39247_12 rfl rfl ?_
      refine e_S1 (pc := 13) (mc := 1) (ms := 16) (kc := 0) (ks := 0) (as := [.ref v, .int (nI 0), .int (nI n)]) (v := .ref c) (h' := (rI (nwD h c) c (va_cpy (hI (nwD h c) v) (hI (nwD h c) c) 0 0 n))) dJ7_copyOfRange_39247_13 (lc_RJ7_339 rfl) ceJ7_copyOfRangeByte_39247 (sp_copyByte (d := d) hv hf hn9 hn) rfl rfl (Nat.le_of_ble_eq_true rfl) (by omega) (by omega) ⟨(okc (okd_r hv.2) (okc okd_i (okc okd_i okz))), okz⟩ ?_
      exact a_areturn (pc := 16) dJ7_copyOfRange_39247_16 rfl rfl (prN_ne hw2.1 ((hp c).mpr (Or.inr rfl))) ⟨rfl, rfl⟩
set_option maxHeartbeats 1500000 in
set_option maxRecDepth 100000 in
theorem sp_strInit {d b v r c k : Nat} {T : List Nat} {h : AH} (s : SBd h b v T) (hT : ∀ j, T.getD j 0 < 128) (hr : kdA r = some (.inl 7) ∧ prN (hN h) r) (hn9 : T.length < 16) (hn : newC (hN h) c k (qA 1 T.length)) : AC mJ0_init_db425 (d + 3) 1 16 [.ref r, .ref b, .null] h (Qe none (sR (rI (nwD (sI h r 1 (nI 0)) c) c (va_cpy (hI (nwD (sI h r 1 (nI 0)) c) v) (hI (nwD (sI h r 1 (nI 0)) c) c) 0 0 T.length)) r 0 (some c))) := by
  have hrv : v ≠ r := fun e => by have h1 := hr.1; rw [← e, s.2.2.2.1.1] at h1; cases h1
  have hrb : b ≠ r := fun e => by have h1 := hr.1; rw [← e, s.1.1] at h1; cases h1
  have hp := fun a => prN_adn (N := hN h) (c := c) (a := a) hn.1
  refine AC.of (by decide) rfl (Nat.le_of_ble_eq_true rfl) (fun X => ?_)
  show AW X mJ0_init_db425 (d + 3) 1 16 0 [(0, .ref r), (1, .ref b), (2, .null)] [] h (Qe none (sR (rI (nwD (sI h r 1 (nI 0)) c) c (va_cpy (hI (nwD (sI h r 1 (nI 0)) c) v) (hI (nwD (sI h r 1 (nI 0)) c) c) 0 0 T.length)) r 0 (some c)))
  refine a_wf (fun hw => ?_)
  refine a_aload_n (pc := 0) (i := 0) dJ0_init_db425_0 rfl rfl ?_
  refine a_objInit (pc := 1) dJ0_init_db425_1 (tbi 1097 (by decide +kernel)) (Nat.le_of_ble_eq_true rfl) ?_
  refine a_aload_n (pc := 4) (i := 1) dJ0_init_db425_4 rfl rfl ?_
  refine g_vU1 (pc := 5) (as := []) (b := b) (ci := 8) (v := .ref v) (h' := h) dJ0_init_db425_5 (lc_RJ0_552 rfl) ceJ5_getValue_6d5f1 s.1.1 s.1.2 (sb_getValue s) rfl rfl (Nat.le_of_ble_eq_true rfl) rfl ?_
  refine a_astore_n (pc := 8) (i := 3) (ls' := [(0, .ref r), (1, .ref b), (2, .null), (3, .ref v)]) dJ0_init_db425_8 rfl (by decide) rfl ?_
  refine a_aload_n (pc := 9) (i := 1) dJ0_init_db425_9 rfl rfl ?_
  refine g_vU1 (pc := 10) (as := []) (b := b) (ci := 8) (v := .int (nI T.length)) (h' := h) dJ0_init_db425_10 (lc_RJ0_549 rfl) ceJ4_length_8abf5 s.1.1 s.1.2 (sb_length s) rfl rfl (Nat.le_of_ble_eq_true rfl) rfl ?_
  refine a_istore (pc := 13) (i := 4) (ls' := [(0, .ref r), (1, .ref b), (2, .null), (3, .ref v), (4, .int (nI T.length))]) dJ0_init_db425_13 (by decide) rfl ?_
  refine a_aload_n (pc := 15) (i := 1) dJ0_init_db425_15 rfl rfl ?_
  refine g_vU1 (pc := 16) (as := []) (b := b) (ci := 8) (v := .int (nI 1)) (h' := h) dJ0_init_db425_16 (lc_RJ0_1047 rfl) ceJ5_isLatin1_aae02 s.1.1 s.1.2 (sb_isLatin1 s) rfl rfl (Nat.le_of_ble_eq_true rfl) rfl ?_
  refine n_if_eq (pc := 19) (tgt := 41) dJ0_init_db425_19 (by decide) (by omega) (fun c19 => ?_) (fun c19 => ?_)
  · exact absurd c19 (by decide)
  · skip
    refine a_aload_n (pc := 22) (i := 0) dJ0_init_db425_22 rfl rfl ?_
    refine a_iconst (pc := 23) (v := nI 0) dJ0_init_db425_23 (by decide) ?_
    refine g_putV (pc := 24) (ci := 7) (k := 1) dJ0_init_db425_24 (lf_RJ0_15 rfl) (by decide) rfl rfl rfl hr.1 hr.2 (Or.inr ⟨rfl, rfl, rfl, lfm_RJ0_15 rfl⟩) ?_
    refine a_aload_n (pc := 27) (i := 0) dJ0_init_db425_27 rfl rfl ?_
    refine a_aload_n (pc := 28) (i := 3) dJ0_init_db425_28 rfl rfl ?_
    refine a_iconst (pc := 29) (v := nI 0) dJ0_init_db425_29 (by decide) ?_
    refine a_iload (pc := 30) (i := 4) dJ0_init_db425_30 rfl ?_
    have s2 : SBd (sI h r 1 (nI 0)) b v T := s.si hrb hrv
    refine e_S1 (pc := 32) (mc := 1) (ms := 16) (kc := 0) (ks := 0) (as := [.ref v, .int (nI 0), .int (nI T.length)]) (v := .ref c) (h' := (rI (nwD (sI h r 1 (nI 0)) c) c (va_cpy (hI (nwD (sI h r 1 (nI 0)) c) v) (hI (nwD (sI h r 1 (nI 0)) c) c) 0 0 T.length))) dJ0_init_db425_32 (lc_RJ0_54 rfl) ceJ7_copyOfRange_39247 (sp_copyRange (d := d) (n := T.length) (h := sI h r 1 (nI 0)) s2.2.2.2.1 (fun i hi => by rw [s2.2.2.2.2.2.2 i hi]; exact (by decide +kernel : ∀ c : Fin 128, fits .byte (.int (nI c.val)) = true) ⟨_, hT i⟩) hn9 hn) rfl rfl (Nat.le_of_ble_eq_true rfl) (by omega) (by omega) ⟨(okc (okd_r hr.2) (okc (okd_r s.1.2) (okc okd_n (okc (okd_r s.2.2.2.1.2) (okc okd_i okz))))), (okc (okd_r hr.2) okz)⟩ ?_
    refine g_putR (pc := 35) (ci := 7) (k := 0) (b := c) dJ0_init_db425_35 (lf_RJ0_9 rfl) (by decide) rfl hr.1 ((hp r).mpr (Or.inl hr.2)) (Or.inl ((hp c).mpr (Or.inr rfl))) (Or.inr ⟨rfl, rfl, rfl, lfm_RJ0_9 rfl⟩) ?_
    refine a_goto (pc := 38) (tgt := 97) dJ0_init_db425_38 (by decide) ?_
    exact a_return (pc := 97) dJ0_init_db425_97 rfl (⟨rfl, rfl⟩)
set_option maxHeartbeats 1500000 in
set_option maxRecDepth 100000 in
theorem sp_strInitB {d b v r c k : Nat} {T : List Nat} {h : AH} (s : SBd h b v T) (hT : ∀ j, T.getD j 0 < 128) (hr : kdA r = some (.inl 7) ∧ prN (hN h) r) (hn9 : T.length < 16) (hn : newC (hN h) c k (qA 1 T.length)) : AC mJ0_init_81219 (d + 4) 1 16 [.ref r, .ref b] h (Qe none (sR (rI (nwD (sI h r 1 (nI 0)) c) c (va_cpy (hI (nwD (sI h r 1 (nI 0)) c) v) (hI (nwD (sI h r 1 (nI 0)) c) c) 0 0 T.length)) r 0 (some c))) := by
  have hrv : v ≠ r := fun e => by have h1 := hr.1; rw [← e, s.2.2.2.1.1] at h1; cases h1
  have hrb : b ≠ r := fun e => by have h1 := hr.1; rw [← e, s.1.1] at h1; cases h1
  have hp := fun a => prN_adn (N := hN h) (c := c) (a := a) hn.1
  refine AC.of (by decide) rfl (Nat.le_of_ble_eq_true rfl) (fun X => ?_)
  show AW X mJ0_init_81219 (d + 4) 1 16 0 [(0, .ref r), (1, .ref b)] [] h (Qe none (sR (rI (nwD (sI h r 1 (nI 0)) c) c (va_cpy (hI (nwD (sI h r 1 (nI 0)) c) v) (hI (nwD (sI h r 1 (nI 0)) c) c) 0 0 T.length)) r 0 (some c)))
  refine a_aload_n (pc := 0) (i := 0) dJ0_init_81219_0 rfl rfl ?_
  refine a_aload_n (pc := 1) (i := 1) dJ0_init_81219_1 rfl rfl ?_
  refine a_null (pc := 2) dJ0_init_81219_2 ?_
  refine e_I0 (pc := 3) (mc := 1) (ms := 16) (kc := 0) (ks := 0) (as := [.ref b, .null]) (b := r) (h' := (sR (rI (nwD (sI h r 1 (nI 0)) c) c (va_cpy (hI (nwD (sI h r 1 (nI 0)) c) v) (hI (nwD (sI h r 1 (nI 0)) c) c) 0 0 T.length)) r 0 (some c))) dJ0_init_81219_3 (lc_RJ0_489 rfl) rfl rfl ceJ0_init_db425 (sp_strInit (d := d) s hT hr hn9 hn) rfl rfl (Nat.le_of_ble_eq_true rfl) (by omega) (by omega) ⟨(okc (okd_r hr.2) (okc (okd_r s.1.2) okz)), okz⟩ ?_
  exact a_return (pc := 6) dJ0_init_81219_6 rfl (⟨rfl, rfl⟩)
set_option maxHeartbeats 1500000 in
set_option maxRecDepth 100000 in
theorem sp_toString {d b v r c k k2 : Nat} {T : List Nat} {h : AH} (s : SBd h b v T) (hT : ∀ j, T.getD j 0 < 128) (hn9 : T.length < 16) (hr : newC (hN h) r k 7) (hc : newC (hN (nwD h r)) c k2 (qA 1 T.length)) : AC mJ4_toString_0e30d (d + 5) 2 20 [.ref b] h (Qe (some (.ref r)) (sR (rI (nwD (sI (nwD h r) r 1 (nI 0)) c) c (va_cpy (hI (nwD (sI (nwD h r) r 1 (nI 0)) c) v) (hI (nwD (sI (nwD h r) r 1 (nI 0)) c) c) 0 0 T.length)) r 0 (some c))) := by
  refine AC.of (by decide) rfl (Nat.le_of_ble_eq_true rfl) (fun X => ?_)
  show AW X mJ4_toString_0e30d (d + 5) 2 20 0 [(0, .ref b)] [] h (Qe (some (.ref r)) (sR (rI (nwD (sI (nwD h r) r 1 (nI 0)) c) c (va_cpy (hI (nwD (sI (nwD h r) r 1 (nI 0)) c) v) (hI (nwD (sI (nwD h r) r 1 (nI 0)) c) c) 0 0 T.length)) r 0 (some c)))
  refine a_wf (fun hw => ?_)
  refine d_new (pc := 0) (ci := 7) (kc := 1) (ks := 16) dJ4_toString_0e30d_0 (by decide) hr (tbi 1089 (by decide +kernel)) (tbi 1090 (by decide +kernel)) (tbi 16 (by decide +kernel)) (okc (okd_r s.1.2) okz) okz ?_
  have hp := fun c a => prN_adn (N := hN h) (c := c) (a := a) hr.1
  have kr : kdA r = some (.inl 7) := by rw [hr.2.1]; exact kdA_c (by decide)
  refine a_dup (pc := 3) dJ4_toString_0e30d_3 rfl ?_
  refine a_aload_n (pc := 4) (i := 0) dJ4_toString_0e30d_4 rfl rfl ?_
  refine e_I0 (pc := 5) (mc := 1) (ms := 16) (kc := 0) (ks := 0) (as := [.ref b]) (b := r) (h' := (sR (rI (nwD (sI (nwD h r) r 1 (nI 0)) c) c (va_cpy (hI (nwD (sI (nwD h r) r 1 (nI 0)) c) v) (hI (nwD (sI (nwD h r) r 1 (nI 0)) c) c) 0 0 T.length)) r 0 (some c))) dJ4_toString_0e30d_5 (lc_RJ4_137 rfl) rfl rfl ceJ0_init_81219 (sp_strInitB (d := d) (s.nwD hr hw) hT ⟨kr, (hp r r).mpr (Or.inr rfl)⟩ hn9 hc) rfl rfl (Nat.le_of_ble_eq_true rfl) (by omega) (by omega) ⟨(okc (okd_r ((hp r b).mpr (Or.inl s.1.2))) okz), (okc (okd_r ((hp r r).mpr (Or.inr rfl))) okz)⟩ ?_
  have hw1 : wfh (nwD h r) := wfh_D hw hr rfl (fun b hb => (nwD_old hb).2.2) (fun j b e => by rw [nwD_row.2.2] at e; cases e)
  exact a_areturn (pc := 8) dJ4_toString_0e30d_8 rfl rfl (prN_ne hw1.1 ((hp r r).mpr (Or.inr rfl))) ⟨rfl, rfl⟩
set_option maxHeartbeats 1500000 in
set_option maxRecDepth 100000 in
theorem sp_asbInit {d b v k : Nat} {h : AH} (hb : kdA b = some (.inl 8) ∧ prN (hN h) b) (hn : newC (hN h) v k (qA 1 16)) : AC mJ5_init_d00df (d + 1) 1 16 [.ref b, .int (nI 16)] h (Qe none (sI (sR (nwD h v) b 0 (some v)) b 1 (nI 0))) := by
  refine AC.of (by decide) rfl (Nat.le_of_ble_eq_true rfl) (fun X => ?_)
  show AW X mJ5_init_d00df (d + 1) 1 16 0 [(0, .ref b), (1, .int (nI 16))] [] h (Qe none (sI (sR (nwD h v) b 0 (some v)) b 1 (nI 0)))
  refine a_aload_n (pc := 0) (i := 0) dJ5_init_d00df_0 rfl rfl ?_
  refine a_objInit (pc := 1) dJ5_init_d00df_1 (tbi 957 (by decide +kernel)) (Nat.le_of_ble_eq_true rfl) ?_
  refine a_getCS (pc := 4) dJ5_init_d00df_4 (by decide +kernel) ?_
  refine a_top (show (.int 1 : Value) = .int (nI 1) from rfl) ?_
  refine n_if_eq (pc := 7) (tgt := 25) dJ5_init_d00df_7 (by decide) (by omega) (fun c7 => ?_) (fun c7 => ?_)
  · exact absurd c7 (by decide)
  · skip
    refine a_aload_n (pc := 10) (i := 0) dJ5_init_d00df_10 rfl rfl ?_
    refine a_iload_n (pc := 11) (i := 1) dJ5_init_d00df_11 rfl rfl ?_
    refine d_newarr (pc := 12) (t := 1) (n := 16) (kc := 0) (ks := 0) dJ5_init_d00df_12 (by omega) hn rfl (by decide) aC_in.2.1 rfl (okc (okd_r hb.2) (okc okd_i okz)) (okc (okd_r hb.2) okz) ?_
    have hp := fun a => prN_adn (N := hN h) (c := v) (a := a) hn.1
    refine g_putR (pc := 14) (ci := 8) (k := 0) (b := v) dJ5_init_d00df_14 (lf_RJ5_15 rfl) (by decide) rfl hb.1 ((hp b).mpr (Or.inl hb.2)) (Or.inl ((hp v).mpr (Or.inr rfl))) (Or.inl rfl) ?_
    refine a_aload_n (pc := 17) (i := 0) dJ5_init_d00df_17 rfl rfl ?_
    refine a_iconst (pc := 18) (v := nI 0) dJ5_init_d00df_18 (by decide) ?_
    refine g_putV (pc := 19) (ci := 8) (k := 1) dJ5_init_d00df_19 (lf_RJ5_22 rfl) (by decide) rfl rfl rfl hb.1 ((hp b).mpr (Or.inl hb.2)) (Or.inl rfl) ?_
    refine a_goto (pc := 22) (tgt := 38) dJ5_init_d00df_22 (by decide) ?_
    exact a_return (pc := 38) dJ5_init_d00df_38 rfl (⟨rfl, rfl⟩)
set_option maxHeartbeats 1500000 in
set_option maxRecDepth 100000 in
theorem sp_sbInit {d b v k : Nat} {h : AH} (hb : kdA b = some (.inl 8) ∧ prN (hN h) b) (hn : newC (hN h) v k (qA 1 16)) : AC mJ4_init_da8c8 (d + 2) 1 16 [.ref b] h (Qe none (sI (sR (nwD h v) b 0 (some v)) b 1 (nI 0))) := by
  refine AC.of (by decide) rfl (Nat.le_of_ble_eq_true rfl) (fun X => ?_)
  show AW X mJ4_init_da8c8 (d + 2) 1 16 0 [(0, .ref b)] [] h (Qe none (sI (sR (nwD h v) b 0 (some v)) b 1 (nI 0)))
  refine a_aload_n (pc := 0) (i := 0) dJ4_init_da8c8_0 rfl rfl ?_
  refine a_bipush (pc := 1) (v := nI 16) dJ4_init_da8c8_1 (by decide) ?_
  refine e_I0 (pc := 3) (mc := 1) (ms := 16) (kc := 0) (ks := 0) (as := [.int (nI 16)]) (b := b) (h' := (sI (sR (nwD h v) b 0 (some v)) b 1 (nI 0))) dJ4_init_da8c8_3 (lc_RJ4_1 rfl) rfl rfl ceJ5_init_d00df (sp_asbInit (d := d) hb hn) rfl rfl (Nat.le_of_ble_eq_true rfl) (by omega) (by omega) ⟨(okc (okd_r hb.2) okz), okz⟩ ?_
  exact a_return (pc := 6) dJ4_init_da8c8_6 rfl (⟨rfl, rfl⟩)
