/-! read, load -/
/-- an error code, or none -/
def E4 (x : Int32) : Prop := x = 0 ∨ x = -2 ∨ x = -3 ∨ x = -4
theorem E4_neg {x : Int32} (h : E4 x) (h0 : x ≠ 0) : ¬ 0 ≤ x ∧ x < 0 := by
  rcases h with h | rfl | rfl | rfl
  · exact absurd h h0
  · decide
  · decide
  · decide
theorem pF_E {q : PS} {code : Int32} {off : Nat} (h : E4 q.2.1) (hc : E4 code) : E4 (pF q code off).2.1 := by
  unfold pF
  rcases Classical.em (q.2.1 = 0) with e | e
  · rw [cif_t e]; exact hc
  · rw [cif_f e]; exact h
theorem E42 : E4 (-2) := Or.inr (Or.inl rfl)
theorem E43 : E4 (-3) := Or.inr (Or.inr (Or.inl rfl))
theorem E44 : E4 (-4) := Or.inr (Or.inr (Or.inr rfl))
theorem pSc_E {n : Nat} {Y : Nat → Int32} {q : PS} (h : E4 q.2.1) : E4 (pSc n Y q).2.1 := by
  unfold pSc
  rcases Classical.em ((pSp n Y q).1 < n ∧ Y (pSp n Y q).1 = nI 59) with e | e
  · rw [cif_t e]; exact h
  · rw [cif_f e]; exact pF_E h E42
theorem pN_E {n most : Nat} {Y : Nat → Int32} {q : PS} (h : E4 q.2.1) : E4 (pN n Y most q).2.1 := by
  unfold pN
  rcases Classical.em ((pNn n Y q).1 = (pSp n Y q).1) with e | e
  · rw [cif_t e]; exact pF_E h E42
  · rw [cif_f e]
    rcases Classical.em ((pNn n Y q).2 < 1 ∨ most < (pNn n Y q).2) with e2 | e2
    · rw [cif_t e2]; exact pF_E h E43
    · rw [cif_f e2]; exact h
theorem pL_E {n w : Nat} {Y : Nat → Int32} {q : PS} (h : E4 q.2.1) : E4 (pL n Y w q).2.1 := by
  unfold pL
  rcases Classical.em (pLb n Y q = (pSp n Y q).1) with e | e
  · rw [cif_t e]; exact pF_E h E42
  · rw [cif_f e]
    rcases Classical.em (pLb n Y q - (pSp n Y q).1 = w) with e2 | e2
    · rw [cif_t e2]; exact h
    · rw [cif_f e2]; exact pF_E h E44
theorem pLi_E {n w : Nat} {Y : Nat → Int32} {q : PS} (h : E4 q.2.1) : ∀ k, E4 (pLi n Y w k q).2.1
  | 0 => h
  | k + 1 => pL_E (pLi_E h k)
theorem pNi_E {n : Nat} {Y : Nat → Int32} {q : PS} (h : E4 q.2.1) : ∀ k, E4 (pNi n Y k q).2.1
  | 0 => h
  | k + 1 => pN_E (pNi_E h k)
theorem pSt_cases {n : Nat} {Y : Nat → Int32} {z : PQZ} {P : PQZ → Prop} (h0 : ∀ x, x < 2 → wd (x + 1) Y z.1.1 (pW n Y z.1).1 ∧ z.2.1 x = 0 → P (pLi n Y (sW z.2.2) (sH z.2.2) (pW n Y z.1), flS z.2.1 x, dSide z.2.2 x (lnv n Y (sW z.2.2) (pW n Y z.1))))
    (h2 : wd 3 Y z.1.1 (pW n Y z.1).1 ∧ z.2.1 2 = 0 → P (pNi n Y (sH z.2.2 + sH z.2.2) (pW n Y z.1), flS z.2.1 2, dSizes z.2.2 (nbv n Y (pW n Y z.1)))) (h3 : wd 4 Y z.1.1 (pW n Y z.1).1 ∧ z.2.1 3 = 0 → P (pN n Y 9 (pW n Y z.1), flS z.2.1 3, dLeast z.2.2 (pNn n Y (pW n Y z.1)).2)) (h4 : P (pF (pW n Y z.1) (-2) z.1.1, z.2.1, z.2.2)) : P (pStA n Y z) := by
  unfold pStA
  rcases Classical.em (wd 1 Y z.1.1 (pW n Y z.1).1 ∧ z.2.1 0 = 0) with e | e
  · rw [cif_t e]; exact h0 0 (by omega) e
  · rw [cif_f e]
    rcases Classical.em (wd 2 Y z.1.1 (pW n Y z.1).1 ∧ z.2.1 1 = 0) with e | e
    · rw [cif_t e]; exact h0 1 (by omega) e
    · rw [cif_f e]
      rcases Classical.em (wd 3 Y z.1.1 (pW n Y z.1).1 ∧ z.2.1 2 = 0) with e | e
      · rw [cif_t e]; exact h2 e
      · rw [cif_f e]
        rcases Classical.em (wd 4 Y z.1.1 (pW n Y z.1).1 ∧ z.2.1 3 = 0) with e | e
        · rw [cif_t e]; exact h3 e
        · rw [cif_f e]; exact h4
theorem pSt_E {n : Nat} {Y : Nat → Int32} {z : PQZ} (h : E4 z.1.2.1) : E4 (pSt n Y z).1.2.1 :=
  pSc_E (pSt_cases (P := fun z => E4 z.1.2.1) (fun x _ _ => pLi_E (q := pW n Y z.1) h _) (fun _ => pNi_E (q := pW n Y z.1) h _) (fun _ => pN_E (q := pW n Y z.1) h) (pF_E (q := pW n Y z.1) h E42))
theorem pSt_G {n : Nat} {Y : Nat → Int32} {z : PQZ} (h : GS z.2.2) : GS (pSt n Y z).2.2 :=
  pSt_cases (P := fun z => GS z.2.2) (fun x _ _ => GS_dSide h) (fun _ => GS_dSizes h) (fun _ => GS_dLeast h) h
theorem flS_1 {fl : Nat → Nat} (h : ∀ i, fl i ≤ 1) {k : Nat} : ∀ i, flS fl k i ≤ 1 := fun i => by
  unfold flS
  split
  · exact Nat.le_refl _
  · exact h i
theorem pSt_f {n : Nat} {Y : Nat → Int32} {z : PQZ} (h : ∀ i, z.2.1 i ≤ 1) : ∀ i, (pSt n Y z).2.1 i ≤ 1 :=
  pSt_cases (P := fun z => ∀ i, z.2.1 i ≤ 1) (fun x _ _ => flS_1 h) (fun _ => flS_1 h) (fun _ => flS_1 h) h
theorem pSt_le {n : Nat} {Y : Nat → Int32} {z : PQZ} (h : z.1.1 ≤ n) : (pSt n Y z).1.1 ≤ n := pSc_le (pStA_le h)
/-- statements, so many at most -/
noncomputable def pGo (n : Nat) (Y : Nat → Int32) : Nat → PQZ → PQZ
  | 0, z => z
  | m + 1, z => cif (z.1.2.1 = 0 ∧ (pSp n Y z.1).1 < n) (pGo n Y m (pSt n Y (pSp n Y z.1, z.2))) z
theorem pGo_ind {n : Nat} {Y : Nat → Int32} {P : PQZ → Prop} (hs : ∀ z, P z → P (pSt n Y (pSp n Y z.1, z.2))) : ∀ m z, P z → P (pGo n Y m z)
  | 0, _, h => h
  | m + 1, z, h => by
    unfold pGo
    rcases Classical.em (z.1.2.1 = 0 ∧ (pSp n Y z.1).1 < n) with e | e
    · rw [cif_t e]; exact pGo_ind hs m _ (hs z h)
    · rw [cif_f e]; exact h
noncomputable def pPz (n : Nat) (Y : Nat → Int32) : PQZ := (pPage n Y (0, 0, -1), fun _ => 0, newS (pPw n Y (0, 0, -1)) (pPh n Y (0, 0, -1)))
noncomputable def pRead (n : Nat) (Y : Nat → Int32) : PQZ := pGo n Y 5 (pPz n Y)
theorem pPage_E {n : Nat} {Y : Nat → Int32} : E4 (pPage n Y (0, 0, -1)).2.1 := by
  refine pSc_E (pN_E (pN_E ?_))
  unfold pPg3
  rcases Classical.em (wd 0 Y (pSp n Y (0, 0, -1)).1 (pW n Y (pSp n Y (0, 0, -1))).1) with e | e
  · rw [cif_t e]; exact Or.inl rfl
  · rw [cif_f e]; exact pF_E (Or.inl rfl) E42
theorem pRead_E {n : Nat} {Y : Nat → Int32} : E4 (pRead n Y).1.2.1 := pGo_ind (P := fun z => E4 z.1.2.1) (fun _ h => pSt_E h) 5 _ pPage_E
theorem GS_newS {w hh : Nat} (hw : 1 ≤ w ∧ w ≤ 8) (hh6 : 1 ≤ hh ∧ hh ≤ 6) : GS (newS w hh) := ⟨hw, hh6, ⟨Nat.le_refl _, by show 1 ≤ 9; omega⟩, fun _ _ => Or.inl rfl, fun _ _ => ⟨Nat.le_refl _, by show 1 ≤ 9; omega⟩, Nat.zero_le _, fun _ => by show 0 < 26; omega⟩
theorem pGo_err {n : Nat} {Y : Nat → Int32} : ∀ m z, z.1.2.1 ≠ 0 → pGo n Y m z = z
  | 0, _, _ => rfl
  | m + 1, z, h => by unfold pGo; rw [cif_f (fun e => h e.1)]
theorem pRead_G {n : Nat} {Y : Nat → Int32} (h : (pRead n Y).1.2.1 = 0) : GS (pRead n Y).2.2 := by
  have h0 : (pPage n Y (0, 0, -1)).2.1 = 0 := Classical.byContradiction fun z => by
    have e : pRead n Y = pPz n Y := pGo_err 5 (pPz n Y) z
    rw [e] at h
    exact z h
  have h1 := pPage_0 h0
  exact pGo_ind (P := fun z => GS z.2.2) (fun _ h => pSt_G h) 5 _ (GS_newS h1.1 h1.2)
theorem fits_b (b : Int8) : fits .byte (.int b.toInt32) = true := by
  have h := pk_fb b.toInt32
  rwa [Int8.toInt8_toInt32] at h
set_option maxHeartbeats 1500000 in
set_option maxRecDepth 100000 in
theorem sp_read {d : Nat} {h : AH} {n : Nat} {Y : Nat → Int32} (c : CB h) (hn4 : n ≤ 400) (hY : ∀ j, j < n → hI h 1 j = Y j) (hY8 : ∀ j, ∃ b : Int8, Y j = b.toInt32) : AC mX2_read (d + 6) 0 0 [.ref 7, .ref 1, .int (nI n)] h (Qx (fun x h2 => x = (pRead n Y).1.2.1 ∧ Fr [7, 8, 9, 10, 12] h h2 ∧ hI h2 7 5 = (pRead n Y).1.2.2 ∧ ((pRead n Y).1.2.1 = 0 → CR h2 8 (pRead n Y).2.2))) := by
  refine AC.of (by decide) rfl (Nat.le_of_ble_eq_true rfl) (fun X => ?_)
  show AW X mX2_read (d + 6) 0 0 0 [(0, .ref 7), (1, .ref 1), (2, .int (nI n))] [] h (Qx (fun x h2 => x = (pRead n Y).1.2.1 ∧ Fr [7, 8, 9, 10, 12] h h2 ∧ hI h2 7 5 = (pRead n Y).1.2.2 ∧ ((pRead n Y).1.2.1 = 0 → CR h2 8 (pRead n Y).2.2)))
  have hn := c.1
  have LP : ∀ (fu : Nat) (i : Nat) (H : AH) (z : PQZ), i ≤ 5 → TX H n Y → Fr [7, 8, 9, 10, 12] h H → R7 H z.1 → z.1.1 ≤ n → (∀ i, z.2.1 i ≤ 1) → (z.1.2.1 = 0 → FL7 H z.2.1 ∧ CR H 8 z.2.2 ∧ GS z.2.2) → pGo n Y (5 - i) z = pRead n Y → 5 - i < fu → AW X mX2_read (d + 6) 0 0 75 [(0, .ref 7), (1, .ref 1), (2, .int (nI n)), (3, .int (nI i))] [] H (Qx (fun x h2 => x = (pRead n Y).1.2.1 ∧ Fr [7, 8, 9, 10, 12] h h2 ∧ hI h2 7 5 = (pRead n Y).1.2.2 ∧ ((pRead n Y).1.2.1 = 0 → CR h2 8 (pRead n Y).2.2))) := by
    intro fu
    induction fu with
    | zero => intro i H z hi x hf r ha hf1 hzz he hz; exact absurd hz (Nat.not_lt_zero _)
    | succ fu ih =>
      intro i H z hi x hf r ha hf1 hzz he hz
      have hn1 := x.1.1
      refine a_iload_n (pc := 75) (i := 3) dX2_read_75 rfl rfl ?_
      refine a_iconst (pc := 76) (v := nI 4) dX2_read_76 (by decide) ?_
      refine n_icmp_gt (pc := 77) (tgt := 104) dX2_read_77 (by decide) (by omega) (by omega) (fun c77 => ?_) (fun c77 => ?_)
      · have e5 : 5 - i = 0 := by omega
        rw [e5] at he
        have ez : z = pRead n Y := by rw [← he]; exact rfl
        refine a_aload_n (pc := 104) (i := 0) dX2_read_104 rfl rfl ?_
        refine a_getI (pc := 105) (ci := 2) (k := 4) dX2_read_105 (lf_RX2_47 rfl) (by decide) rfl rfl (lt90 hn1 (shK_lt (show shK 7 = _ from rfl))) ?_
        refine a_top (show (.int (hI H 7 4) : Value) = .int z.1.2.1 from congrArg Value.int r.2.1) ?_
        exact a_ireturn (pc := 108) dX2_read_108 rfl rfl (⟨_, rfl, by rw [ez], hf, r.2.2.trans (congrArg (fun z : PQZ => z.1.2.2) ez), fun z0 => by rw [← ez] at z0 ⊢; exact (hzz z0).2.1⟩)
      · obtain ⟨m, hm⟩ : ∃ m, 5 - i = m + 1 := ⟨4 - i, by omega⟩
        rw [hm] at he
        refine a_aload_n (pc := 80) (i := 0) dX2_read_80 rfl rfl ?_
        refine a_getI (pc := 81) (ci := 2) (k := 4) dX2_read_81 (lf_RX2_47 rfl) (by decide) rfl rfl (lt90 hn1 (shK_lt (show shK 7 = _ from rfl))) ?_
        refine a_top (show (.int (hI H 7 4) : Value) = .int z.1.2.1 from congrArg Value.int r.2.1) ?_
        refine a_if_ne (pc := 84) (tgt := 104) dX2_read_84 (by decide) (fun c84 => ?_) (fun c84 => ?_)
        · skip
          have ez : z = pRead n Y := by rw [← he]; exact (cif_f (fun e => c84 e.1)).symm
          refine a_aload_n (pc := 104) (i := 0) dX2_read_104 rfl rfl ?_
          refine a_getI (pc := 105) (ci := 2) (k := 4) dX2_read_105 (lf_RX2_47 rfl) (by decide) rfl rfl (lt90 hn1 (shK_lt (show shK 7 = _ from rfl))) ?_
          refine a_top (show (.int (hI H 7 4) : Value) = .int z.1.2.1 from congrArg Value.int r.2.1) ?_
          exact a_ireturn (pc := 108) dX2_read_108 rfl rfl (⟨_, rfl, by rw [ez], hf, r.2.2.trans (congrArg (fun z : PQZ => z.1.2.2) ez), fun z0 => by rw [← ez] at z0 ⊢; exact (hzz z0).2.1⟩)
        · skip
          obtain ⟨k7, c8, g8⟩ := hzz c84
          refine a_aload_n (pc := 87) (i := 0) dX2_read_87 rfl rfl ?_
          refine a_wV1 (pc := 88) (as := []) (b := 7) (ci := 2) (v := .int (bi ((pSp n Y z.1).1 < n))) dX2_read_88 (lc_RX2_66 rfl) ceX2_hasMore rfl (lt90 hn1 (shK_lt (show shK 7 = _ from rfl))) (sp_hasMore (d := d + 2) x r ha) rfl rfl (Nat.le_of_ble_eq_true rfl) (fun H2 f2 y => ?_)
          have x2 := x.k y.1
          have hn2 := x2.1.1
          refine b_if_eq (pc := 91) (tgt := 104) dX2_read_91 (by decide) (fun c91 => ?_) (fun c91 => ?_)
          · skip
            have ez : z = pRead n Y := by rw [← he]; exact (cif_f (fun e => c91 e.2)).symm
            refine a_aload_n (pc := 104) (i := 0) dX2_read_104 rfl rfl ?_
            refine a_getI (pc := 105) (ci := 2) (k := 4) dX2_read_105 (lf_RX2_47 rfl) (by decide) rfl rfl (lt90 hn2 (shK_lt (show shK 7 = _ from rfl))) ?_
            refine a_top (show (.int (hI H2 7 4) : Value) = .int z.1.2.1 from congrArg Value.int y.2.2.1) ?_
            exact a_ireturn (pc := 108) dX2_read_108 rfl rfl (⟨_, rfl, by rw [ez], (hf.trans (f2.mono (by simp))), y.2.2.2.trans (congrArg (fun z : PQZ => z.1.2.2) ez), fun z0 => by rw [← ez] at z0 ⊢; exact c8.fr f2 (fun a h1 h3 => by simp; omega)⟩)
          · skip
            refine a_aload_n (pc := 94) (i := 0) dX2_read_94 rfl rfl ?_
            refine a_uV (pc := 95) (as := []) (b := 7) (ci := 2) dX2_read_95 (lc_RX2_70 rfl) ceX2_readStatement rfl (lt90 hn2 (shK_lt (show shK 7 = _ from rfl))) (sp_readStatement (d := d) (z := (pSp n Y z.1, z.2)) x2 y.2 (pSp_le ha).2 (k7.k y.1.2) hf1 (c8.fr f2 (fun a h1 h3 => by simp; omega)) g8) rfl rfl (Nat.le_of_ble_eq_true rfl) (fun h2 z => z.1.1.1) (fun H3 y3 => ?_)
            have x3 := x2.t y3.1
            have hn3 := x3.1.1
            refine n_iinc (pc := 98) (k := 1) (ls' := [(0, .ref 7), (1, .ref 1), (2, .int (nI n)), (3, .int (nI (i + 1)))]) dX2_read_98 rfl (by decide) (by decide) rfl ?_
            refine a_goto (pc := 101) (tgt := 75) dX2_read_101 (by decide) ?_
            exact ih (i + 1) H3 (pSt n Y (pSp n Y z.1, z.2)) (by omega) x3 ((hf.trans (f2.mono (by simp))).trans (y3.1.1.mono (by intro b hb; simp at hb ⊢; omega))) y3.2.1 (pSt_le (pSp_le ha).2) (pSt_f hf1) (fun z0 => ⟨(y3.2.2 z0).1, (y3.2.2 z0).2, pSt_G g8⟩) (by rw [← he, show 5 - (i + 1) = m by omega]; exact (cif_t (a := pGo n Y m (pSt n Y (pSp n Y z.1, z.2))) (b := z) (P := z.1.2.1 = 0 ∧ (pSp n Y z.1).1 < n) ⟨c84, c91⟩).symm) (by omega)
  refine a_aload_n (pc := 0) (i := 0) dX2_read_0 rfl rfl ?_
  refine a_iconst (pc := 1) (v := nI 0) dX2_read_1 (by decide) ?_
  refine a_iload_n (pc := 2) (i := 2) dX2_read_2 rfl rfl ?_
  refine a_sipush (pc := 3) (v := nI 400) dX2_read_3 (by decide) ?_
  refine a_aload_n (pc := 6) (i := 1) dX2_read_6 rfl rfl ?_
  refine a_alen (pc := 7) (n := 400) dX2_read_7 rfl (lt90 hn (shK_lt (show shK 1 = _ from rfl))) ?_
  refine n_mmin (pc := 8) dX2_read_8 (lm_RX2_26 rfl) (Nat.le_of_ble_eq_true rfl) (by omega) (by omega) ?_
  refine n_mmin (pc := 11) dX2_read_11 (lm_RX2_26 rfl) (Nat.le_of_ble_eq_true rfl) (by omega) (by omega) ?_
  refine n_mmax (pc := 14) dX2_read_14 (lm_RX2_32 rfl) (Nat.le_of_ble_eq_true rfl) (by omega) (by omega) ?_
  refine a_top (show (.int (nI (max 0 (min n (min 400 400)))) : Value) = .int (nI n) from congrArg Value.int (congrArg nI (by omega : max 0 (min n (min 400 400)) = n))) ?_
  refine a_putI (pc := 17) (ci := 2) (k := 2) dX2_read_17 (lf_RX2_35 rfl) (by decide) (Or.inl rfl) rfl (lt90 hn (shK_lt (show shK 7 = _ from rfl))) rfl ?_
  obtain ⟨H0, hH0⟩ : ∃ Hx, Hx = sI h 7 2 (nI n) := ⟨_, rfl⟩
  have f0 : Fr [7] h H0 := by rw [hH0]; exact Fr.refl.sI (by simp)
  have k2 : hI H0 7 2 = nI n := by rw [hH0]; exact rd2 ⟨rfl, rfl⟩
  refine a_heap (h' := H0) hH0.symm ?_
  have c0 := c.fr f0
  have hn0 := c0.1
  refine a_aload_n (pc := 20) (i := 1) dX2_read_20 rfl rfl ?_
  refine a_iconst (pc := 21) (v := nI 0) dX2_read_21 (by decide) ?_
  refine a_aload_n (pc := 22) (i := 0) dX2_read_22 rfl rfl ?_
  refine a_getR (pc := 23) (ci := 2) (k := 1) (b := 12) dX2_read_23 (lf_RX2_18 rfl) (by decide) rfl rfl (lt90 hn0 (shK_lt (show shK 7 = _ from rfl))) c0.2.2.2.1.2 ?_
  refine a_iconst (pc := 26) (v := nI 0) dX2_read_26 (by decide) ?_
  refine a_aload_n (pc := 27) (i := 0) dX2_read_27 rfl rfl ?_
  refine a_getI (pc := 28) (ci := 2) (k := 2) dX2_read_28 (lf_RX2_35 rfl) (by decide) rfl rfl (lt90 hn0 (shK_lt (show shK 7 = _ from rfl))) ?_
  refine a_top (show (.int (hI H0 7 2) : Value) = .int (nI n) from congrArg Value.int k2) ?_
  refine a_copy (pc := 31) (a := 1) (b := 12) (n1 := 400) (n2 := 400) (t := 1) (sp := 0) (dp := 0) (n := n) dX2_read_31 (la_RX2_38 rfl) rfl rfl (by decide) (lt90 hn0 (shK_lt (show shK 1 = _ from rfl))) (lt90 hn0 (shK_lt (show shK 12 = _ from rfl))) rfl rfl rfl (by omega) (by omega) (fun _ i hi => by rw [(f0.2.2 1 (by simp)).1, Nat.zero_add, hY i hi]; obtain ⟨b, hb⟩ := hY8 i; rw [hb]; exact fits_b b) (Nat.le_of_ble_eq_true rfl) ?_
  refine a_aload_n (pc := 34) (i := 0) dX2_read_34 rfl rfl ?_
  refine a_iconst (pc := 35) (v := nI 0) dX2_read_35 (by decide) ?_
  refine a_putI (pc := 36) (ci := 2) (k := 3) dX2_read_36 (lf_RX2_44 rfl) (by decide) (Or.inl rfl) rfl (lt90 hn0 (shK_lt (show shK 7 = _ from rfl))) rfl ?_
  refine a_aload_n (pc := 39) (i := 0) dX2_read_39 rfl rfl ?_
  refine a_iconst (pc := 40) (v := nI 0) dX2_read_40 (by decide) ?_
  refine a_putI (pc := 41) (ci := 2) (k := 4) dX2_read_41 (lf_RX2_47 rfl) (by decide) (Or.inl rfl) rfl (lt90 hn0 (shK_lt (show shK 7 = _ from rfl))) rfl ?_
  refine a_aload_n (pc := 44) (i := 0) dX2_read_44 rfl rfl ?_
  refine a_iconst (pc := 45) (v := (-1)) dX2_read_45 (by decide) ?_
  refine a_putI (pc := 46) (ci := 2) (k := 5) dX2_read_46 (lf_RX2_22 rfl) (by decide) (Or.inl rfl) rfl (lt90 hn0 (shK_lt (show shK 7 = _ from rfl))) rfl ?_
  refine a_aload_n (pc := 49) (i := 0) dX2_read_49 rfl rfl ?_
  refine a_iconst (pc := 50) (v := nI 0) dX2_read_50 (by decide) ?_
  refine a_putI (pc := 51) (ci := 2) (k := 6) dX2_read_51 (lf_RX2_50 rfl) (by decide) (Or.inr ⟨rfl, (by decide)⟩) rfl (lt90 hn0 (shK_lt (show shK 7 = _ from rfl))) rfl ?_
  refine a_aload_n (pc := 54) (i := 0) dX2_read_54 rfl rfl ?_
  refine a_iconst (pc := 55) (v := nI 0) dX2_read_55 (by decide) ?_
  refine a_putI (pc := 56) (ci := 2) (k := 7) dX2_read_56 (lf_RX2_54 rfl) (by decide) (Or.inr ⟨rfl, (by decide)⟩) rfl (lt90 hn0 (shK_lt (show shK 7 = _ from rfl))) rfl ?_
  refine a_aload_n (pc := 59) (i := 0) dX2_read_59 rfl rfl ?_
  refine a_iconst (pc := 60) (v := nI 0) dX2_read_60 (by decide) ?_
  refine a_putI (pc := 61) (ci := 2) (k := 8) dX2_read_61 (lf_RX2_57 rfl) (by decide) (Or.inr ⟨rfl, (by decide)⟩) rfl (lt90 hn0 (shK_lt (show shK 7 = _ from rfl))) rfl ?_
  refine a_aload_n (pc := 64) (i := 0) dX2_read_64 rfl rfl ?_
  refine a_iconst (pc := 65) (v := nI 0) dX2_read_65 (by decide) ?_
  refine a_putI (pc := 66) (ci := 2) (k := 9) dX2_read_66 (lf_RX2_60 rfl) (by decide) (Or.inr ⟨rfl, (by decide)⟩) rfl (lt90 hn0 (shK_lt (show shK 7 = _ from rfl))) rfl ?_
  obtain ⟨H, hH⟩ : ∃ Hx, Hx = sI (sI (sI (sI (sI (sI (sI (rI H0 12 (va_cpy (hI H0 1) (hI H0 12) 0 0 n)) 7 3 (nI 0)) 7 4 (nI 0)) 7 5 ((-1))) 7 6 (nI 0)) 7 7 (nI 0)) 7 8 (nI 0)) 7 9 (nI 0) := ⟨_, rfl⟩
  have fH : Fr [7, 12] h H := by rw [hH]; exact (((((((((f0.mono (by simp)).rI (by simp)).sI (by simp)).sI (by simp)).sI (by simp)).sI (by simp)).sI (by simp)).sI (by simp)).sI (by simp))
  have a3 : hI H 7 3 = nI 0 := (by rw [hH]; simp (disch := omega) only [rd1, rd2, rd3, rd4])
  have a4 : hI H 7 4 = nI 0 := (by rw [hH]; simp (disch := omega) only [rd1, rd2, rd3, rd4])
  have a5 : hI H 7 5 = (-1) := (by rw [hH]; simp (disch := omega) only [rd1, rd2, rd3, rd4])
  have a6 : hI H 7 6 = nI 0 := (by rw [hH]; simp (disch := omega) only [rd1, rd2, rd3, rd4])
  have a7 : hI H 7 7 = nI 0 := (by rw [hH]; simp (disch := omega) only [rd1, rd2, rd3, rd4])
  have a8 : hI H 7 8 = nI 0 := (by rw [hH]; simp (disch := omega) only [rd1, rd2, rd3, rd4])
  have a9 : hI H 7 9 = nI 0 := (by rw [hH]; simp (disch := omega) only [rd1, rd2, rd3, rd4])
  have a2 : hI H 7 2 = nI n := (show hI H 7 2 = hI H0 7 2 from by rw [hH]; simp (disch := omega) only [rd1, rd3]).trans k2
  have x : TX H n Y := ⟨c.fr fH, hn4, a2, fun j hj => by rw [hH]; simp (disch := omega) only [rd1, rd4, rd7]; rw [(f0.2.2 1 (by simp)).1, show 0 + (j - 0) = j by omega]; exact hY j hj⟩
  refine a_heap (h' := H) hH.symm ?_
  have hn1 := x.1.1
  refine a_aload_n (pc := 69) (i := 0) dX2_read_69 rfl rfl ?_
  refine a_uV (pc := 70) (as := []) (b := 7) (ci := 2) dX2_read_70 (lc_RX2_63 rfl) ceX2_readPage rfl (lt90 hn1 (shK_lt (show shK 7 = _ from rfl))) (sp_readPage (d := d) (q := (0, 0, -1)) x ⟨a3, a4, a5⟩ (Nat.zero_le _)) rfl rfl (Nat.le_of_ble_eq_true rfl) (fun h2 z => z.1.1.1) (fun H2 y => ?_)
  have x2 := x.ks y.1 (by simp)
  have hn2 := x2.1.1
  refine a_iconst (pc := 73) (v := nI 0) dX2_read_73 (by decide) ?_
  refine a_istore_n (pc := 74) (i := 3) (ls' := [(0, .ref 7), (1, .ref 1), (2, .int (nI n)), (3, .int (nI 0))]) dX2_read_74 rfl (by decide) rfl ?_
  have kf : FL7 H2 (fun _ => 0) := fun i hi => by
    rw [y.1.2 (6 + i) (by omega)]
    rcases (by omega : i = 0 ∨ i = 1 ∨ i = 2 ∨ i = 3) with rfl | rfl | rfl | rfl
    · exact a6
    · exact a7
    · exact a8
    · exact a9
  exact LP 6 0 H2 (pPz n Y) (by omega) x2 ((fH.mono (by intro b hb; simp at hb ⊢; omega)).trans (y.1.1.mono (by intro b hb; simp at hb ⊢; omega))) y.2.1 (pPage_le (Nat.zero_le _)) (fun _ => Nat.zero_le _) (fun z0 => ⟨kf, y.2.2 z0, GS_newS (pPage_0 z0).1 (pPage_0 z0).2⟩) rfl (by omega)
def tLd (t : ST) (off : Int32) : ST := (tC t, (0, tY t), off, t.2.2.2)
noncomputable def oLoad (t : ST) (x : Int32) : Res × ST := cif (∃ n, n ≤ tB t ∧ x = nI n) (cif ((pRead (i2n x) (tY t)).1.2.1 = 0) (ri (nI (sCells (pRead (i2n x) (tY t)).2.2)), ((pRead (i2n x) (tY t)).2.2, (tRem (tLd t (pRead (i2n x) (tY t)).1.2.2)).2)) (ri (pRead (i2n x) (tY t)).1.2.1, tLd t (pRead (i2n x) (tY t)).1.2.2)) (.inr eIA, t)
theorem IM.ld {h h2 : AH} {t : ST} {off : Int32} (m : IM h t) (f : Fr [0, 7, 8, 9, 10, 12] h h2) (h0 : ∀ j, j ≠ 1 → j ≠ 2 → hI h2 0 j = hI h 0 j) (h1 : hI h2 0 1 = nI 0) (h2b : hI h2 0 2 = off) : IM h2 (tLd t off) := by
  obtain ⟨⟨c, g0, r0, -, e2, e5, w, w1, w2⟩, hk⟩ := m
  refine ⟨⟨c.fr f, ⟨g0.1, Nat.zero_le _, g0.2.2⟩, r0.fr f (fun a h1 h3 => by simp; omega), ⟨h1, fun j hj => absurd hj (Nat.not_lt_zero _)⟩, h2b, (h0 5 (by omega) (by omega)).trans e5, w, ⟨fun i hi => by rw [f.2.1]; exact w1.1 i hi, w1.2⟩, fun i hi => (w2 i hi).fr f (fun a h1 h3 => by simp; omega)⟩, ?_⟩
  rcases hk with hk | ⟨k1, k2, k3⟩
  · exact Or.inl ((h0 9 (by omega) (by omega)).trans hk)
  · exact Or.inr ⟨(h0 9 (by omega) (by omega)).trans k1, k2, k3.row (fun a h1 h3 => f.2.2 a (by simp; omega))⟩
set_option maxHeartbeats 1500000 in
set_option maxRecDepth 100000 in
theorem sp_load {d : Nat} {h : AH} {t : ST} {x : Int32} (m : IM h t) : AC mX4_load (d + 100) 1 6 [.ref 0, .int x] h (Qw (oLoad t x).1 (oLoad t x).2 h) := by
  have m0 := m.1
  have c := m0.1
  have g := m0.2.1.1
  have r := m0.2.2.1
  have hn := c.1
  have gl := g.2.2.2.2.2.1
  have gs := g.2.2.1
  have gw := g.1
  have gh := g.2.1
  refine AC.of (by decide) rfl (Nat.le_of_ble_eq_true rfl) (fun X => ?_)
  show AW X mX4_load (d + 100) 1 6 0 [(0, .ref 0), (1, .int x)] [] h (Qw (oLoad t x).1 (oLoad t x).2 h)
  have b0 := m0.2.2.2.1
  have hb4 := m0.2.1.2.1
  have hb8 := m0.2.1.2.2.1
  refine a_iload_n (pc := 0) (i := 1) dX4_load_0 rfl rfl ?_
  refine a_if_lt (pc := 1) (tgt := 12) dX4_load_1 (by decide) (fun c1 => ?_) (fun c1 => ?_)
  · have e : oLoad t x = _ := cif_f (fun ⟨n, h1, h2⟩ => by rw [h2] at c1; exact absurd c1 (nI_pos (by omega)))
    exact a_throw (kc := 0) (ks := 0) th_X4_load_12 (by omega) (Nat.le_of_ble_eq_true rfl) (⟨by rw [e], by rw [e]; exact m, Fw.refl⟩)
  · obtain ⟨n, hn31, -, rfl⟩ := ge_n (k := 0) (by omega) c1
    refine a_iload_n (pc := 4) (i := 1) dX4_load_4 rfl rfl ?_
    refine a_aload_n (pc := 5) (i := 0) dX4_load_5 rfl rfl ?_
    refine a_getI (pc := 6) (ci := 4) (k := 1) dX4_load_6 (lf_RX4_13 rfl) (by decide) rfl rfl (lt90 hn (shK_lt (show shK 0 = _ from rfl))) ?_
    refine a_top (show (.int (hI h 0 1) : Value) = .int (nI (tB t)) from congrArg Value.int b0.1) ?_
    refine n_icmp_le (pc := 9) (tgt := 20) dX4_load_9 (by decide) (by omega) (by omega) (fun c9 => ?_) (fun c9 => ?_)
    · have e : oLoad t (nI n) = _ := cif_t ⟨n, c9, rfl⟩
      rw [i2n_nI hn31] at e
      refine a_aload_n (pc := 20) (i := 0) dX4_load_20 rfl rfl ?_
      refine a_getR (pc := 21) (ci := 4) (k := 6) (b := 7) dX4_load_21 (lf_RX4_37 rfl) (by decide) rfl rfl (lt90 hn (shK_lt (show shK 0 = _ from rfl))) c.2.1.2.2.2.1 ?_
      refine a_aload_n (pc := 24) (i := 0) dX4_load_24 rfl rfl ?_
      refine a_getR (pc := 25) (ci := 4) (k := 0) (b := 1) dX4_load_25 (lf_RX4_9 rfl) (by decide) rfl rfl (lt90 hn (shK_lt (show shK 0 = _ from rfl))) c.2.1.1 ?_
      refine a_iload_n (pc := 28) (i := 1) dX4_load_28 rfl rfl ?_
      refine a_xVN (pc := 29) (as := [.ref 1, .int (nI n)]) (b := 7) (ci := 2) dX4_load_29 (lc_RX4_66 rfl) ceX2_read rfl (lt90 hn (shK_lt (show shK 7 = _ from rfl))) (sp_read (d := d + 93) c (by omega) (fun j hj => b0.2 j (by omega)) hb8) rfl rfl (Nat.le_of_ble_eq_true rfl) (fun b h3 y => y.2.1.1) (fun x2 H q2 => ?_)
      obtain ⟨ex, fr, e5, rs⟩ := q2
      subst ex
      have ca := c.fr fr
      have hna := ca.1
      obtain ⟨z, hz⟩ : ∃ z, z = pRead n (tY t) := ⟨_, rfl⟩
      have hE := pRead_E (n := n) (Y := tY t)
      have hG := pRead_G (n := n) (Y := tY t)
      rw [← hz] at e e5 rs hE hG ⊢
      refine a_istore_n (pc := 32) (i := 2) (ls' := [(0, .ref 0), (1, .int (nI n)), (2, .int z.1.2.1)]) dX4_load_32 rfl (by decide) rfl ?_
      refine a_aload_n (pc := 33) (i := 0) dX4_load_33 rfl rfl ?_
      refine a_iconst (pc := 34) (v := nI 0) dX4_load_34 (by decide) ?_
      refine a_putI (pc := 35) (ci := 4) (k := 1) dX4_load_35 (lf_RX4_13 rfl) (by decide) (Or.inl rfl) rfl (lt90 hna (shK_lt (show shK 0 = _ from rfl))) rfl ?_
      refine a_aload_n (pc := 38) (i := 0) dX4_load_38 rfl rfl ?_
      refine a_aload_n (pc := 39) (i := 0) dX4_load_39 rfl rfl ?_
      refine a_getR (pc := 40) (ci := 4) (k := 6) (b := 7) dX4_load_40 (lf_RX4_37 rfl) (by decide) rfl rfl (lt90 hna (shK_lt (show shK 0 = _ from rfl))) ca.2.1.2.2.2.1 ?_
      refine a_getI (pc := 43) (ci := 2) (k := 5) dX4_load_43 (lf_RX4_70 rfl) (by decide) rfl rfl (lt90 hna (shK_lt (show shK 7 = _ from rfl))) ?_
      refine a_top (show (.int (hI (sI H 0 1 (nI 0)) 7 5) : Value) = .int z.1.2.2 from congrArg Value.int ((rd1 (by omega)).trans e5)) ?_
      refine a_putI (pc := 46) (ci := 4) (k := 2) dX4_load_46 (lf_RX4_17 rfl) (by decide) (Or.inl rfl) rfl (lt90 hna (shK_lt (show shK 0 = _ from rfl))) rfl ?_
      obtain ⟨H1, hH1⟩ : ∃ Hx, Hx = sI (sI H 0 1 (nI 0)) 0 2 z.1.2.2 := ⟨_, rfl⟩
      have f1 : Fr [0, 7, 8, 9, 10, 12] h H1 := by rw [hH1]; exact ((fr.mono (by intro b hb; simp at hb ⊢; omega)).sI (by simp)).sI (by simp)
      have z0 := (fr.2.2 0 (by simp)).1
      have m1 : IM H1 (tLd t z.1.2.2) := m.ld f1 (fun j h1 h2 => by rw [hH1, rd1 (by omega), rd1 (by omega), z0]) (by rw [hH1, rd1 (by omega)]; exact rd2 ⟨rfl, rfl⟩) (by rw [hH1]; exact rd2 ⟨rfl, rfl⟩)
      have w1 : Fw h H1 := f1.w (by intro a ha; simp at ha; omega)
      refine a_heap (h' := H1) hH1.symm ?_
      have cb := c.fr f1
      have hnb := cb.1
      refine a_iload_n (pc := 49) (i := 2) dX4_load_49 rfl rfl ?_
      refine a_if_ge (pc := 50) (tgt := 55) dX4_load_50 (by decide) (fun c50 => ?_) (fun c50 => ?_)
      · have hz0 : z.1.2.1 = 0 := Classical.byContradiction fun q => absurd c50 (E4_neg hE q).1
        have e9 := e.trans (cif_t hz0)
        have cr : CR H1 8 z.2.2 := by rw [hH1]; exact ((rs hz0).sI (by omega)).sI (by omega)
        refine a_aload_n (pc := 55) (i := 0) dX4_load_55 rfl rfl ?_
        refine a_uV (pc := 56) (as := []) (b := 0) (ci := 4) dX4_load_56 (lc_RX4_73 rfl) ceX4_remember rfl (lt90 hnb (shK_lt (show shK 0 = _ from rfl))) (sp_remember (d := d + 96) m1.1) rfl rfl (Nat.le_of_ble_eq_true rfl) (fun h2 y => y.2.1.1) (fun H2 y => ?_)
        obtain ⟨m2, w2, h92, fv2⟩ := y
        have c2 := m2.1
        have hn2 := c2.1
        have cr2 : CR H2 8 z.2.2 := cr.row (fun a h1 h3 => fv2 a (by omega) (by omega))
        refine a_aload_n (pc := 59) (i := 0) dX4_load_59 rfl rfl ?_
        refine a_getR (pc := 60) (ci := 4) (k := 3) (b := 2) dX4_load_60 (lf_RX4_23 rfl) (by decide) rfl rfl (lt90 hn2 (shK_lt (show shK 0 = _ from rfl))) c2.2.1.2.1 ?_
        refine a_aload_n (pc := 63) (i := 0) dX4_load_63 rfl rfl ?_
        refine a_getR (pc := 64) (ci := 4) (k := 6) (b := 7) dX4_load_64 (lf_RX4_37 rfl) (by decide) rfl rfl (lt90 hn2 (shK_lt (show shK 0 = _ from rfl))) c2.2.1.2.2.2.1 ?_
        refine a_getR (pc := 67) (ci := 2) (k := 0) (b := 8) dX4_load_67 (lf_RX4_76 rfl) (by decide) rfl rfl (lt90 hn2 (shK_lt (show shK 7 = _ from rfl))) c2.2.2.2.1.1 ?_
        refine a_wVN0 (pc := 70) (as := [.ref 8]) (b := 2) (ci := 3) dX4_load_70 (lc_RX4_79 rfl) ceX3_copyFrom rfl (lt90 hn2 (shK_lt (show shK 2 = _ from rfl))) (sp_copyFrom c2 (hG hz0) (Or.inl rfl) (Or.inr (Or.inl rfl)) (by omega) cr2) rfl rfl (Nat.le_of_ble_eq_true rfl) (fun H3 f3 r3 => ?_)
        have f3 : Fr [2, 3, 4, 5] H2 H3 := f3
        have c3 := c2.fr f3
        have hn3 := c3.1
        refine a_aload_n (pc := 73) (i := 0) dX4_load_73 rfl rfl ?_
        refine a_getR (pc := 74) (ci := 4) (k := 3) (b := 2) dX4_load_74 (lf_RX4_23 rfl) (by decide) rfl rfl (lt90 hn3 (shK_lt (show shK 0 = _ from rfl))) c3.2.1.2.1 ?_
        refine a_vVN1 (pc := 77) (as := []) (b := 2) (ci := 3) (v := .int (nI (sCells z.2.2))) (h' := H3) dX4_load_77 (lc_RX4_83 rfl) ceX3_countCells rfl (lt90 hn3 (shK_lt (show shK 2 = _ from rfl))) (sp_countCells c3 (hG hz0) r3) rfl rfl (Nat.le_of_ble_eq_true rfl) rfl ?_
        exact a_ireturn (pc := 80) dX4_load_80 rfl rfl (⟨by rw [e9]; rfl, by rw [e9]; exact IM.z (m2.cur f3 r3 (hG hz0)) ((congrFun (f3.2.2 0 (by simp)).1 9).trans h92), (w1.trans w2).trans (f3.w (by simp))⟩)
      · have hz0 : z.1.2.1 ≠ 0 := fun q => by rw [q] at c50; exact c50 (by decide)
        have e9 := e.trans (cif_f hz0)
        refine a_iload_n (pc := 53) (i := 2) dX4_load_53 rfl rfl ?_
        exact a_ireturn (pc := 54) dX4_load_54 rfl rfl (⟨by rw [e9]; rfl, by rw [e9]; exact m1, w1⟩)
    · have e : oLoad t (nI n) = _ := cif_f (fun ⟨k, h1, h2⟩ => by have := (nI_eq hn31 (by omega)).mp h2; omega)
      exact a_throw (kc := 0) (ks := 0) th_X4_load_12 (by omega) (Nat.le_of_ble_eq_true rfl) (⟨by rw [e], by rw [e]; exact m, Fw.refl⟩)
