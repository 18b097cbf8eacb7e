/-! the law: its beginning, its loop -/
theorem law_in {len i : Nat} (h1 : len ≤ 3072) (h2 : i ≤ 4000) (h : ¬ nI len - nI 6 < nI i) : i + 6 ≤ len := by
  rw [Int32.lt_iff_toInt_lt, Int32.toInt_sub, nI_toInt (by omega), nI_toInt (by omega), nI_toInt (by omega)] at h
  unfold Int.bmod at h
  simp only [] at h
  split at h <;> omega
set_option maxHeartbeats 4000000 in
set_option maxRecDepth 100000 in
theorem law_aw {X : XT} {nm : String} {hh : List (Nat × Nat × Nat × Nat)} {h : AH} (hX : X.1.2.1 ≤ 3072) (hn : hN h = 0) : AW X (mLaw nm hh) 2000 602 13111 0 [(0, .ref 1000)] [] h (fun r _ => r = .inl (some (.int 1))) := by
  have LP : ∀ (fu : Nat) (j : Nat) (t : ST) (H : AH), j ≤ 512 → IM H t → MM H t → 513 - j < fu → AW X (mLaw nm hh) 2000 (512 - j) (6 * (512 - j)) 23 [(0, .ref 1000), (1, .ref 0), (2, .ref 66), (3, .ref 89), (4, .int (nI (6 * j)))] [] H ((fun r _ => r = .inl (some (.int 1)))) := by
    intro fu
    induction fu with
    | zero => intro j t H hj m m2 hz; exact absurd hz (Nat.not_lt_zero _)
    | succ fu ih =>
      intro j t H hj m m2 hz
      refine a_iload (pc := 23) (i := 4) dL_law_23 rfl ?_
      refine a_aload_n (pc := 25) (i := 0) dL_law_25 rfl rfl ?_
      refine a_slen (pc := 26) dL_law_26 ?_
      refine a_bipush (pc := 27) (v := nI 6) dL_law_27 (by decide) ?_
      refine a_isub (pc := 29) dL_law_29 ?_
      refine a_icmp_gt (pc := 30) (tgt := 1173) dL_law_30 (by decide) (fun c30 => ?_) (fun c30 => ?_)
      · skip
        refine a_iconst (pc := 1173) (v := nI 1) dL_law_1173 (by decide) ?_
        exact a_ireturn (pc := 1174) dL_law_1174 rfl rfl rfl
      · have hin : 6 * j + 6 ≤ X.1.2.1 := law_in hX (by omega) c30
        rw [show 512 - j = (511 - j) + 1 by omega, show 6 * ((511 - j) + 1) = 6 * (511 - j) + 6 by omega]
        have TL : ∀ t1 h1, IM h1 t1 → MM h1 t1 → AW X (mLaw nm hh) 2000 (511 - j) (6 * (511 - j)) 1167 [(0, .ref 1000), (1, .ref 0), (2, .ref 66), (3, .ref 89), (4, .int (nI (6 * j)))] [] h1 (fun r _ => r = .inl (some (.int 1))) := by
          intro t1 h1 a1 a2
          refine n_iinc (pc := 1167) (k := 6) (ls' := [(0, .ref 1000), (1, .ref 0), (2, .ref 66), (3, .ref 89), (4, .int (nI ((6 * j) + 6)))]) dL_law_1167 rfl (by first | decide | exact Nat.le_of_ble_eq_true rfl) (by first | decide | exact Nat.le_of_ble_eq_true rfl) rfl ?_
          refine a_goto (pc := 1170) (tgt := 23) dL_law_1170 (by decide) ?_
          have gg := ih (j + 1) t1 h1 (by omega) a1 a2 (by omega)
          rw [show 512 - (j + 1) = 511 - j by omega] at gg
          exact gg
        refine a_aload_n (pc := 33) (i := 0) dL_law_33 rfl rfl ?_
        refine a_iload (pc := 34) (i := 4) dL_law_34 rfl ?_
        refine a_sald (pc := 36) (j := (6 * j)) dL_law_36 rfl (by omega) (by omega) (by omega) ?_
        refine a_bipush (pc := 37) (v := nI 31) dL_law_37 (by decide) ?_
        refine a_iand (pc := 39) dL_law_39 ?_
        rcases tb_n 22 (by omega) ((X.1.2.2 (6 * j)) &&& (nI 31)) with ⟨k, hk, e⟩ | hk
        · rcases (by omega : k = 0 ∨ k = 1 ∨ k = 2 ∨ k = 3 ∨ k = 4 ∨ k = 5 ∨ k = 6 ∨ k = 7 ∨ k = 8 ∨ k = 9 ∨ k = 10 ∨ k = 11 ∨ k = 12 ∨ k = 13 ∨ k = 14 ∨ k = 15 ∨ k = 16 ∨ k = 17 ∨ k = 18 ∨ k = 19 ∨ k = 20 ∨ k = 21 ∨ k = 22) with rfl | rfl | rfl | rfl | rfl | rfl | rfl | rfl | rfl | rfl | rfl | rfl | rfl | rfl | rfl | rfl | rfl | rfl | rfl | rfl | rfl | rfl | rfl
          · refine a_tableIn (pc := 40) (tgt := 148) dL_law_40 (by rw [e]; decide) (by rw [e]; decide) (by rw [e]; rfl) (by decide) ?_
            exact lwc_append m m2 hin hX TL
          · refine a_tableIn (pc := 40) (tgt := 221) dL_law_40 (by rw [e]; decide) (by rw [e]; decide) (by rw [e]; rfl) (by decide) ?_
            exact lwc_load m m2 hin hX TL
          · refine a_tableIn (pc := 40) (tgt := 277) dL_law_40 (by rw [e]; decide) (by rw [e]; decide) (by rw [e]; rfl) (by decide) ?_
            exact lwc_errorOffset m m2 hin hX TL
          · refine a_tableIn (pc := 40) (tgt := 290) dL_law_40 (by rw [e]; decide) (by rw [e]; decide) (by rw [e]; rfl) (by decide) ?_
            exact lwc_state m m2 hin hX TL
          · refine a_tableIn (pc := 40) (tgt := 346) dL_law_40 (by rw [e]; decide) (by rw [e]; decide) (by rw [e]; rfl) (by decide) ?_
            exact lwc_letter m m2 hin hX TL
          · refine a_tableIn (pc := 40) (tgt := 414) dL_law_40 (by rw [e]; decide) (by rw [e]; decide) (by rw [e]; rfl) (by decide) ?_
            exact lwc_place m m2 hin hX TL
          · refine a_tableIn (pc := 40) (tgt := 494) dL_law_40 (by rw [e]; decide) (by rw [e]; decide) (by rw [e]; rfl) (by decide) ?_
            exact lwc_stock m m2 hin hX TL
          · refine a_tableIn (pc := 40) (tgt := 562) dL_law_40 (by rw [e]; decide) (by rw [e]; decide) (by rw [e]; rfl) (by decide) ?_
            exact lwc_message m m2 hin hX TL
          · refine a_tableIn (pc := 40) (tgt := 618) dL_law_40 (by rw [e]; decide) (by rw [e]; decide) (by rw [e]; rfl) (by decide) ?_
            exact lwc_missing m m2 hin hX TL
          · refine a_tableIn (pc := 40) (tgt := 631) dL_law_40 (by rw [e]; decide) (by rw [e]; decide) (by rw [e]; rfl) (by decide) ?_
            exact lwc_fewest m m2 hin hX TL
          · refine a_tableIn (pc := 40) (tgt := 644) dL_law_40 (by rw [e]; decide) (by rw [e]; decide) (by rw [e]; rfl) (by decide) ?_
            exact lwc_cutOf m m2 hin hX TL
          · refine a_tableIn (pc := 40) (tgt := 712) dL_law_40 (by rw [e]; decide) (by rw [e]; decide) (by rw [e]; rfl) (by decide) ?_
            exact lwc_unevenness m m2 hin hX TL
          · refine a_tableIn (pc := 40) (tgt := 725) dL_law_40 (by rw [e]; decide) (by rw [e]; decide) (by rw [e]; rfl) (by decide) ?_
            exact lwc_copies m m2 hin hX TL
          · refine a_tableIn (pc := 40) (tgt := 738) dL_law_40 (by rw [e]; decide) (by rw [e]; decide) (by rw [e]; rfl) (by decide) ?_
            exact lwc_longest m m2 hin hX TL
          · refine a_tableIn (pc := 40) (tgt := 794) dL_law_40 (by rw [e]; decide) (by rw [e]; decide) (by rw [e]; rfl) (by decide) ?_
            exact lwc_clashes m m2 hin hX TL
          · refine a_tableIn (pc := 40) (tgt := 807) dL_law_40 (by rw [e]; decide) (by rw [e]; decide) (by rw [e]; rfl) (by decide) ?_
            exact lwc_meanSize m m2 hin hX TL
          · refine a_tableIn (pc := 40) (tgt := 848) dL_law_40 (by rw [e]; decide) (by rw [e]; decide) (by rw [e]; rfl) (by decide) ?_
            exact lwc_tell m m2 hin hX TL
          · refine a_tableIn (pc := 40) (tgt := 904) dL_law_40 (by rw [e]; decide) (by rw [e]; decide) (by rw [e]; rfl) (by decide) ?_
            exact lwc_cut m m2 hin hX TL
          · refine a_tableIn (pc := 40) (tgt := 948) dL_law_40 (by rw [e]; decide) (by rw [e]; decide) (by rw [e]; rfl) (by decide) ?_
            exact lwc_snip m m2 hin hX TL
          · refine a_tableIn (pc := 40) (tgt := 1028) dL_law_40 (by rw [e]; decide) (by rw [e]; decide) (by rw [e]; rfl) (by decide) ?_
            exact lwc_least m m2 hin hX TL
          · refine a_tableIn (pc := 40) (tgt := 1084) dL_law_40 (by rw [e]; decide) (by rw [e]; decide) (by rw [e]; rfl) (by decide) ?_
            exact lwc_mend m m2 hin hX TL
          · refine a_tableIn (pc := 40) (tgt := 1140) dL_law_40 (by rw [e]; decide) (by rw [e]; decide) (by rw [e]; rfl) (by decide) ?_
            exact lwc_undo m m2 hin hX TL
          · refine a_tableIn (pc := 40) (tgt := 1153) dL_law_40 (by rw [e]; decide) (by rw [e]; decide) (by rw [e]; rfl) (by decide) ?_
            exact lwc_checksum m m2 hin hX TL
        · refine a_tableOut (pc := 40) (tgt := 1167) dL_law_40 (by simpa using hk) (by decide) ?_
          exact AW.mono (TL t H m m2) (Nat.le_add_right _ _) (Nat.le_add_right _ _)
  refine b_new (pc := 0) (n := 0) (ci := 4) (kc := 601) (ks := 13101) hn rfl rfl dL_law_0 rfl (show Cond.classLink RL 8 (cR 4) ∈ lw_tbl from tbi 22 (by decide +kernel)) (tbi 23 (by decide +kernel)) (tbi 1 (by decide +kernel)) (by decide) (by decide) ?_
  obtain ⟨G1, eG1⟩ : ∃ Hx, Hx = nw h := ⟨_, rfl⟩
  refine a_heap (h' := G1) eG1.symm ?_
  have nG1 : hN G1 = 1 := by rw [eG1]; exact congrArg (· + 1) hn
  refine a_dup (pc := 3) dL_law_3 rfl ?_
  refine b_mk (pc := 4) (kc := 536) (ks := 9796) nG1 dL_law_4 (lc_RL_60 rfl) rfl rfl ceX4_init (mk4 (d := 1995) nG1) rfl rfl (Nat.le_of_ble_eq_true rfl) (by decide) (by decide) (fun G2 y2 _ r2 => ?_)
  refine a_astore_n (pc := 7) (i := 1) (ls' := [(0, .ref 1000), (1, .ref 0)]) dL_law_7 rfl (Nat.le_of_ble_eq_true rfl) rfl ?_
  refine b_new (pc := 8) (n := 66) (ci := 5) (kc := 535) (ks := 9769) y2.1 rfl rfl dL_law_8 rfl (show Cond.classLink RL 61 (cR 5) ∈ lw_tbl from tbi 822 (by decide +kernel)) (tbi 823 (by decide +kernel)) (tbi 7 (by decide +kernel)) (by decide) (by decide) ?_
  obtain ⟨G3, eG3⟩ : ∃ Hx, Hx = nw G2 := ⟨_, rfl⟩
  refine a_heap (h' := G3) eG3.symm ?_
  have nG3 : hN G3 = 67 := by rw [eG3]; exact congrArg (· + 1) y2.1
  refine a_dup (pc := 11) dL_law_11 rfl ?_
  have i0 : BI [(66, 2, 0), (66, 12, 0)] G3 := by
    have z := (nw_row (h := G2)).1
    rw [y2.1] at z
    intro q hq
    simp only [List.mem_cons, List.not_mem_nil, or_false] at hq
    rcases hq with rfl | rfl <;> (rw [eG3]; show hI (nw G2) 66 _ = 0; rw [z])
  refine b_mk (pc := 12) (kc := 513) (ks := 3073) nG3 dL_law_12 (lc_RL_63 rfl) rfl rfl ceX5_init (mk5 (d := 1997) nG3 i0) rfl rfl (Nat.le_of_ble_eq_true rfl) (by decide) (by decide) (fun G4 y4 z4 r4 => ?_)
  refine a_astore_n (pc := 15) (i := 2) (ls' := [(0, .ref 1000), (1, .ref 0), (2, .ref 66)]) dL_law_15 rfl (Nat.le_of_ble_eq_true rfl) rfl ?_
  refine a_iconst (pc := 16) (v := nI 1) dL_law_16 (by decide) ?_
  refine b_newarr (pc := 17) (N := 89) (t := 3) (n := 1) (kc := 512) (ks := 3072) y4.1 rfl rfl dL_law_17 rfl rfl (by decide) aC_in.2.2.2 rfl (by decide) (by decide) ?_
  have s3 : Sb 66 G2 G3 := by rw [eG3]; exact Sb.nw y2.1 (Nat.le_refl _)
  obtain ⟨c, m, m2⟩ := at0 (h := G3) (h2 := G4) y4 z4 r4.1 r4.2 (y2.keep (k := 66) s3 nG3 (by decide +kernel)) (r2.1.keep s3 (by decide +kernel)) (r2.2.1.sb s3 (by omega)) (fun j hj => by rw [(s3 6 (by omega)).2.2, (s3 (34 + 4 * j) (by omega)).2.2]; exact r2.2.2 j hj)
  refine a_astore_n (pc := 19) (i := 3) (ls' := [(0, .ref 1000), (1, .ref 0), (2, .ref 66), (3, .ref 89)]) dL_law_19 rfl (Nat.le_of_ble_eq_true rfl) rfl ?_
  refine a_iconst (pc := 20) (v := nI 0) dL_law_20 (by decide) ?_
  refine a_istore (pc := 21) (i := 4) (ls' := [(0, .ref 1000), (1, .ref 0), (2, .ref 66), (3, .ref 89), (4, .int (nI 0))]) dL_law_21 (Nat.le_of_ble_eq_true rfl) rfl ?_
  exact LP 514 0 T0 _ (by omega) m m2 (by omega)
