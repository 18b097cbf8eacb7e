/-! the class SetupReader: lines -/
theorem pF_ne {q : PS} {code : Int32} {off : Nat} (hc : code ≠ 0) : (pF q code off).2.1 ≠ 0 := by
  unfold pF
  rcases Classical.em (q.2.1 = 0) with h | h
  · rw [cif_t h]; exact hc
  · rw [cif_f h]; exact h
theorem pF_keep {q : PS} {code : Int32} {off : Nat} (h : q.2.1 ≠ 0) : (pF q code off).2 = q.2 := by unfold pF; rw [cif_f h]
theorem pF_1 {q : PS} {code : Int32} {off : Nat} : (pF q code off).1 = q.1 := by
  unfold pF
  rcases Classical.em (q.2.1 = 0) with h | h
  · rw [cif_t h]
  · rw [cif_f h]
theorem pSp_le {n : Nat} {Y : Nat → Int32} {q : PS} (h : q.1 ≤ n) : q.1 ≤ (pSp n Y q).1 ∧ (pSp n Y q).1 ≤ n := by
  have := skp_le (P := fun z => z = nI 32) (Y := Y) (n - q.1) q.1
  show q.1 ≤ skp _ _ _ _ ∧ skp _ _ _ _ ≤ n
  omega
theorem pW_le {n : Nat} {Y : Nat → Int32} {q : PS} (h : q.1 ≤ n) : q.1 ≤ (pW n Y q).1 ∧ (pW n Y q).1 ≤ n := by
  have := skp_le (P := isLt) (Y := Y) (n - q.1) q.1
  show q.1 ≤ skp _ _ _ _ ∧ skp _ _ _ _ ≤ n
  omega
theorem pSc_le {n : Nat} {Y : Nat → Int32} {q : PS} (h : q.1 ≤ n) : (pSc n Y q).1 ≤ n := by
  have := pSp_le (Y := Y) h
  unfold pSc
  rcases Classical.em ((pSp n Y q).1 < n ∧ Y (pSp n Y q).1 = nI 59) with e | e
  · rw [cif_t e]; exact e.1
  · rw [cif_f e, pF_1]; exact this.2
theorem pN_le {n most : Nat} {Y : Nat → Int32} {q : PS} (h : q.1 ≤ n) : (pN n Y most q).1 ≤ n := by
  have h1 := pSp_le (Y := Y) h
  have h2 := numF_le (Y := Y) (n - (pSp n Y q).1) (pSp n Y q).1 0 (by omega)
  have h3 : (pNn n Y q).1 ≤ n := by show (numF Y _ _ _).1 ≤ n; omega
  unfold pN
  rcases Classical.em ((pNn n Y q).1 = (pSp n Y q).1) with e | e
  · rw [cif_t e, pF_1]; exact h3
  · rw [cif_f e]
    rcases Classical.em ((pNn n Y q).2 < 1 ∨ most < (pNn n Y q).2) with e2 | e2
    · rw [cif_t e2, pF_1]; exact h3
    · rw [cif_f e2]; exact h3
theorem pSc_0 {n : Nat} {Y : Nat → Int32} {q : PS} (h : (pSc n Y q).2.1 = 0) : q.2.1 = 0 ∧ pSc n Y q = ((pSp n Y q).1 + 1, q.2) ∧ (pSp n Y q).1 < n ∧ Y (pSp n Y q).1 = nI 59 := by
  unfold pSc at h ⊢
  rcases Classical.em ((pSp n Y q).1 < n ∧ Y (pSp n Y q).1 = nI 59) with e | e
  · rw [cif_t e] at h ⊢; exact ⟨h, rfl, e⟩
  · rw [cif_f e] at h; exact absurd h (pF_ne (by decide))
theorem pN_0 {n most : Nat} {Y : Nat → Int32} {q : PS} (h : (pN n Y most q).2.1 = 0) : q.2.1 = 0 ∧ pN n Y most q = ((pNn n Y q).1, q.2) ∧ (pNn n Y q).1 ≠ (pSp n Y q).1 ∧ 1 ≤ (pNn n Y q).2 ∧ (pNn n Y q).2 ≤ most := by
  unfold pN at h ⊢
  rcases Classical.em ((pNn n Y q).1 = (pSp n Y q).1) with e | e
  · rw [cif_t e] at h; exact absurd h (pF_ne (by decide))
  · rw [cif_f e] at h ⊢
    rcases Classical.em ((pNn n Y q).2 < 1 ∨ most < (pNn n Y q).2) with e2 | e2
    · rw [cif_t e2] at h; exact absurd h (pF_ne (by decide))
    · rw [cif_f e2] at h ⊢; exact ⟨h, rfl, e, by omega, by omega⟩
theorem pSc_keep {n : Nat} {Y : Nat → Int32} {q : PS} (h : q.2.1 ≠ 0) : (pSc n Y q).2 = q.2 := by
  unfold pSc
  rcases Classical.em ((pSp n Y q).1 < n ∧ Y (pSp n Y q).1 = nI 59) with e | e
  · rw [cif_t e]
  · rw [cif_f e, pF_keep (q := pSp n Y q) h]; rfl
theorem pN_keep {n most : Nat} {Y : Nat → Int32} {q : PS} (h : q.2.1 ≠ 0) : (pN n Y most q).2 = q.2 := by
  unfold pN
  rcases Classical.em ((pNn n Y q).1 = (pSp n Y q).1) with e | e
  · rw [cif_t e, pF_keep (q := ((pNn n Y q).1, q.2)) h]
  · rw [cif_f e]
    rcases Classical.em ((pNn n Y q).2 < 1 ∨ most < (pNn n Y q).2) with e2 | e2
    · rw [cif_t e2, pF_keep (q := ((pNn n Y q).1, q.2)) h]
    · rw [cif_f e2]
/-- signs of a line; the letter that one tells -/
def isLn (x : Int32) : Prop := isLt x ∨ x = nI 45
noncomputable def ltv (x : Int32) : Int32 := cif (isLt x) (x - nI 97) (-1)
theorem ltv_r (x : Int32) : ltv x = -1 ∨ ∃ n, n < 26 ∧ ltv x = nI n := by
  unfold ltv
  rcases Classical.em (isLt x) with h | h
  · rw [cif_t h]; obtain ⟨n, h1, h2, -⟩ := isLt_n h; exact Or.inr ⟨n, h1, h2⟩
  · rw [cif_f h]; exact Or.inl rfl
/-- a line's end -/
noncomputable def pLb (n : Nat) (Y : Nat → Int32) (q : PS) : Nat := skp isLn Y (n - (pSp n Y q).1) (pSp n Y q).1
noncomputable def pL (n : Nat) (Y : Nat → Int32) (w : Nat) (q : PS) : PS := cif (pLb n Y q = (pSp n Y q).1) (pF (pLb n Y q, q.2) (-2) (pSp n Y q).1) (cif (pLb n Y q - (pSp n Y q).1 = w) (pLb n Y q, q.2) (pF (pLb n Y q, q.2) (-4) (pSp n Y q).1))
theorem pLb_le {n : Nat} {Y : Nat → Int32} {q : PS} (h : q.1 ≤ n) : (pSp n Y q).1 ≤ pLb n Y q ∧ pLb n Y q ≤ n := by
  have h1 := pSp_le (Y := Y) h
  have h2 := skp_le (P := isLn) (Y := Y) (n - (pSp n Y q).1) (pSp n Y q).1
  show (pSp n Y q).1 ≤ skp _ _ _ _ ∧ skp _ _ _ _ ≤ n
  omega
theorem pL_1 {n w : Nat} {Y : Nat → Int32} {q : PS} : (pL n Y w q).1 = pLb n Y q := by
  unfold pL
  rcases Classical.em (pLb n Y q = (pSp n Y q).1) with e | e
  · rw [cif_t e, pF_1]
  · rw [cif_f e]
    rcases Classical.em (pLb n Y q - (pSp n Y q).1 = w) with e2 | e2
    · rw [cif_t e2]
    · rw [cif_f e2, pF_1]
theorem pL_0 {n w : Nat} {Y : Nat → Int32} {q : PS} (h : (pL n Y w q).2.1 = 0) : q.2.1 = 0 ∧ pL n Y w q = (pLb n Y q, q.2) ∧ pLb n Y q ≠ (pSp n Y q).1 ∧ pLb n Y q - (pSp n Y q).1 = w := by
  unfold pL at h ⊢
  rcases Classical.em (pLb n Y q = (pSp n Y q).1) with e | e
  · rw [cif_t e] at h; exact absurd h (pF_ne (by decide))
  · rw [cif_f e] at h ⊢
    rcases Classical.em (pLb n Y q - (pSp n Y q).1 = w) with e2 | e2
    · rw [cif_t e2] at h ⊢; exact ⟨h, rfl, e, e2⟩
    · rw [cif_f e2] at h; exact absurd h (pF_ne (by decide))
theorem pL_keep {n w : Nat} {Y : Nat → Int32} {q : PS} (h : q.2.1 ≠ 0) : (pL n Y w q).2 = q.2 := by
  unfold pL
  rcases Classical.em (pLb n Y q = (pSp n Y q).1) with e | e
  · rw [cif_t e, pF_keep (q := (pLb n Y q, q.2)) h]
  · rw [cif_f e]
    rcases Classical.em (pLb n Y q - (pSp n Y q).1 = w) with e2 | e2
    · rw [cif_t e2]
    · rw [cif_f e2, pF_keep (q := (pLb n Y q, q.2)) h]
/-- only place, error and offset changed, and the cells S -/
def KS (S : List Nat) (h h2 : AH) : Prop := Fr S h h2 ∧ ∀ j, j < 3 ∨ 5 < j → hI h2 7 j = hI h 7 j
theorem KS.trans {S : List Nat} {h h2 h3 : AH} (a : KS S h h2) (b : KS S h2 h3) : KS S h h3 := ⟨a.1.trans b.1, fun j hj => (b.2 j hj).trans (a.2 j hj)⟩
theorem KS.refl {S : List Nat} {h : AH} : KS S h h := ⟨Fr.refl, fun _ _ => rfl⟩
theorem KS.mono {S S2 : List Nat} {h h2 : AH} (a : KS S h h2) (hs : ∀ a, a ∈ S → a ∈ S2) : KS S2 h h2 := ⟨a.1.mono hs, a.2⟩
theorem K7.s {S : List Nat} {h h2 : AH} (a : K7 h h2) (hs : 7 ∈ S) : KS S h h2 := ⟨a.1.mono (fun b hb => by simp at hb; subst hb; exact hs), a.2⟩
theorem TX.ks {S : List Nat} {h h2 : AH} {n : Nat} {Y : Nat → Int32} (x : TX h n Y) (a : KS S h h2) (hs : 12 ∉ S) : TX h2 n Y := ⟨x.1.fr a.1, x.2.1, (a.2 2 (by omega)).trans x.2.2.1, fun j hj => by rw [(a.1.2.2 12 hs).1]; exact x.2.2.2 j hj⟩
set_option maxHeartbeats 1500000 in
set_option maxRecDepth 100000 in
theorem sp_readLine {d : Nat} {h : AH} {n w sp : Nat} {Y : Nat → Int32} {q : PS} (x : TX h n Y) (r : R7 h q) (ha : q.1 ≤ n) (hw8 : hI h 8 0 = nI w) (hw : 1 ≤ w ∧ w ≤ 8) (hsp : sp + w ≤ 96) : AC mX2_readLine (d + 3) 0 0 [.ref 7, .int (nI sp)] h (Qu (fun h2 => KS [7, 9] h h2 ∧ R7 h2 (pL n Y w q) ∧ ((pL n Y w q).2.1 = 0 → ∀ j, hI h2 9 j = if sp ≤ j ∧ j < sp + w then ltv (Y ((pSp n Y q).1 + (j - sp))) else hI h 9 j))) := by
  refine AC.of (by decide) rfl (Nat.le_of_ble_eq_true rfl) (fun X => ?_)
  show AW X mX2_readLine (d + 3) 0 0 0 [(0, .ref 7), (1, .int (nI sp))] [] h (Qu (fun h2 => KS [7, 9] h h2 ∧ R7 h2 (pL n Y w q) ∧ ((pL n Y w q).2.1 = 0 → ∀ j, hI h2 9 j = if sp ≤ j ∧ j < sp + w then ltv (Y ((pSp n Y q).1 + (j - sp))) else hI h 9 j)))
  have hn := x.1.1
  have hn4 := x.2.1
  refine a_aload_n (pc := 0) (i := 0) dX2_readLine_0 rfl rfl ?_
  refine a_uV (pc := 1) (as := []) (b := 7) (ci := 2) dX2_readLine_1 (lc_RX2_73 rfl) ceX2_skipSpaces rfl (lt90 hn (shK_lt (show shK 7 = _ from rfl))) (sp_skipSpaces (d := d) x r.1 ha) rfl rfl (Nat.le_of_ble_eq_true rfl) (fun h2 y => y.1.1) (fun H y => ?_)
  have x1 := x.at y
  have hn1 := x1.1.1
  have r1 : R7 H (pSp n Y q) := y.r r
  have hle := (pSp_le (Y := Y) ha).2
  have hbl := pLb_le (Y := Y) ha
  obtain ⟨a, hae⟩ : ∃ a, a = (pSp n Y q).1 := ⟨_, rfl⟩
  have hB : pLb n Y q = skp isLn Y (n - a) a := by rw [hae]; rfl
  have e0 : pL n Y w q = cif (pLb n Y q = a) (pF (pLb n Y q, q.2) (-2) a) (cif (pLb n Y q - a = w) (pLb n Y q, q.2) (pF (pLb n Y q, q.2) (-4) a)) := by rw [hae]; rfl
  rw [← hae] at hle hbl
  have r10 : hI H 7 3 = nI a := by rw [hae]; exact r1.1
  have LP : ∀ (fu : Nat) (b : Nat) (H2 : AH), a ≤ b ∧ b ≤ n → At7 H H2 b → skp isLn Y (n - b) b = pLb n Y q → n - b < fu → AW X mX2_readLine (d + 3) 0 0 9 [(0, .ref 7), (1, .int (nI sp)), (2, .int (nI a))] [] H2 (Qu (fun h2 => KS [7, 9] h h2 ∧ R7 h2 (pL n Y w q) ∧ ((pL n Y w q).2.1 = 0 → ∀ j, hI h2 9 j = if sp ≤ j ∧ j < sp + w then ltv (Y ((pSp n Y q).1 + (j - sp))) else hI h 9 j))) := by
    intro fu
    induction fu with
    | zero => intro b H2 hb hz2 hs hz; exact absurd hz (Nat.not_lt_zero _)
    | succ fu ih =>
      intro b H2 hb hz2 hs hz
      have xx := x1.at hz2
      have hn2 := xx.1.1
      have rr : R7 H2 (b, q.2) := hz2.r (q := pSp n Y q) r1
      refine a_aload_n (pc := 9) (i := 0) dX2_readLine_9 rfl rfl ?_
      refine a_getI (pc := 10) (ci := 2) (k := 3) dX2_readLine_10 (lf_RX2_44 rfl) (by decide) rfl rfl (lt90 hn2 (shK_lt (show shK 7 = _ from rfl))) ?_
      refine a_top (show (.int (hI H2 7 3) : Value) = .int (nI b) from congrArg Value.int hz2.2.1) ?_
      refine a_aload_n (pc := 13) (i := 0) dX2_readLine_13 rfl rfl ?_
      refine a_getI (pc := 14) (ci := 2) (k := 2) dX2_readLine_14 (lf_RX2_35 rfl) (by decide) rfl rfl (lt90 hn2 (shK_lt (show shK 7 = _ from rfl))) ?_
      refine a_top (show (.int (hI H2 7 2) : Value) = .int (nI n) from congrArg Value.int xx.2.2.1) ?_
      refine n_icmp_ge (pc := 17) (tgt := 62) dX2_readLine_17 (by decide) (by omega) (by omega) (fun c17 => ?_) (fun c17 => ?_)
      · skip
        have ef : pLb n Y q = b := by rw [← hs, show n - b = 0 by omega]; rfl
        rw [ef] at e0
        refine a_aload_n (pc := 62) (i := 0) dX2_readLine_62 rfl rfl ?_
        refine a_getI (pc := 63) (ci := 2) (k := 3) dX2_readLine_63 (lf_RX2_44 rfl) (by decide) rfl rfl (lt90 hn2 (shK_lt (show shK 7 = _ from rfl))) ?_
        refine a_top (show (.int (hI H2 7 3) : Value) = .int (nI b) from congrArg Value.int hz2.2.1) ?_
        refine a_iload_n (pc := 66) (i := 2) dX2_readLine_66 rfl rfl ?_
        refine n_icmp_ne (pc := 67) (tgt := 80) dX2_readLine_67 (by decide) (by omega) (by omega) (fun c67 => ?_) (fun c67 => ?_)
        · have e : pL n Y w q = _ := e0.trans (cif_f c67)
          refine a_aload_n (pc := 80) (i := 0) dX2_readLine_80 rfl rfl ?_
          refine a_getI (pc := 81) (ci := 2) (k := 3) dX2_readLine_81 (lf_RX2_44 rfl) (by decide) rfl rfl (lt90 hn2 (shK_lt (show shK 7 = _ from rfl))) ?_
          refine a_top (show (.int (hI H2 7 3) : Value) = .int (nI b) from congrArg Value.int hz2.2.1) ?_
          refine a_iload_n (pc := 84) (i := 2) dX2_readLine_84 rfl rfl ?_
          refine n_isub (pc := 85) dX2_readLine_85 (by omega) ?_
          refine a_aload_n (pc := 86) (i := 0) dX2_readLine_86 rfl rfl ?_
          refine a_getR (pc := 87) (ci := 2) (k := 0) (b := 8) dX2_readLine_87 (lf_RX2_12 rfl) (by decide) rfl rfl (lt90 hn2 (shK_lt (show shK 7 = _ from rfl))) xx.1.2.2.2.1.1 ?_
          refine a_getI (pc := 90) (ci := 3) (k := 0) dX2_readLine_90 (lf_RX2_127 rfl) (by decide) rfl rfl (lt90 hn2 (shK_lt (show shK 8 = _ from rfl))) ?_
          refine a_top (show (.int (hI H2 8 0) : Value) = .int (nI w) from congrArg Value.int (by rw [(hz2.1.2.2 8 (by simp)).1, (y.1.2.2 8 (by simp)).1]; exact hw8 : hI H2 8 0 = nI w)) ?_
          refine n_icmp_eq (pc := 93) (tgt := 103) dX2_readLine_93 (by decide) (by omega) (by omega) (fun c93 => ?_) (fun c93 => ?_)
          · have e9 : pL n Y w q = (b, q.2) := e.trans (cif_t c93)
            refine a_aload_n (pc := 103) (i := 0) dX2_readLine_103 rfl rfl ?_
            refine a_getI (pc := 104) (ci := 2) (k := 4) dX2_readLine_104 (lf_RX2_47 rfl) (by decide) rfl rfl (lt90 hn2 (shK_lt (show shK 7 = _ from rfl))) ?_
            refine a_top (show (.int (hI H2 7 4) : Value) = .int q.2.1 from congrArg Value.int rr.2.1) ?_
            refine a_if_eq (pc := 107) (tgt := 111) dX2_readLine_107 (by decide) (fun c107 => ?_) (fun c107 => ?_)
            · skip
              have LQ : ∀ (fu : Nat) (i : Nat) (H3 : AH), i ≤ w → Fr [9] H2 H3 → (∀ j, hI H3 9 j = if sp ≤ j ∧ j < sp + i then ltv (Y (a + (j - sp))) else hI H2 9 j) → w - i < fu → AW X mX2_readLine (d + 3) 0 0 113 [(0, .ref 7), (1, .int (nI sp)), (2, .int (nI a)), (3, .int (nI i))] [] H3 (Qu (fun h2 => KS [7, 9] h h2 ∧ R7 h2 (pL n Y w q) ∧ ((pL n Y w q).2.1 = 0 → ∀ j, hI h2 9 j = if sp ≤ j ∧ j < sp + w then ltv (Y ((pSp n Y q).1 + (j - sp))) else hI h 9 j))) := by
                intro fu
                induction fu with
                | zero => intro i H3 hi hf hc hz; exact absurd hz (Nat.not_lt_zero _)
                | succ fu ih =>
                  intro i H3 hi hf hc hz
                  have c3 := xx.1.fr hf
                  have hn3 := c3.1
                  have x3 : TX H3 n Y := ⟨c3, xx.2.1, by rw [(hf.2.2 7 (by simp)).1]; exact xx.2.2.1, fun j hj => by rw [(hf.2.2 12 (by simp)).1]; exact xx.2.2.2 j hj⟩
                  have w3 : hI H3 8 0 = nI w := by rw [(hf.2.2 8 (by simp)).1, (hz2.1.2.2 8 (by simp)).1, (y.1.2.2 8 (by simp)).1]; exact hw8
                  refine a_iload_n (pc := 113) (i := 3) dX2_readLine_113 rfl rfl ?_
                  refine a_aload_n (pc := 114) (i := 0) dX2_readLine_114 rfl rfl ?_
                  refine a_getR (pc := 115) (ci := 2) (k := 0) (b := 8) dX2_readLine_115 (lf_RX2_12 rfl) (by decide) rfl rfl (lt90 hn3 (shK_lt (show shK 7 = _ from rfl))) x3.1.2.2.2.1.1 ?_
                  refine a_getI (pc := 118) (ci := 3) (k := 0) dX2_readLine_118 (lf_RX2_127 rfl) (by decide) rfl rfl (lt90 hn3 (shK_lt (show shK 8 = _ from rfl))) ?_
                  refine a_top (show (.int (hI H3 8 0) : Value) = .int (nI w) from congrArg Value.int w3) ?_
                  refine n_icmp_ge (pc := 121) (tgt := 188) dX2_readLine_121 (by decide) (by omega) (by omega) (fun c121 => ?_) (fun c121 => ?_)
                  · have ei : i = w := by omega
                    subst ei
                    exact a_return (pc := 188) dX2_readLine_188 rfl (⟨rfl, ((y.k.trans hz2.k).s (by simp)).trans ⟨hf.mono (by intro b hb; simp at hb ⊢; omega), fun j hj => by rw [(hf.2.2 7 (by simp)).1]⟩, by rw [e9]; exact ⟨by rw [(hf.2.2 7 (by simp)).1]; exact rr.1, by rw [(hf.2.2 7 (by simp)).1]; exact rr.2.1, by rw [(hf.2.2 7 (by simp)).1]; exact rr.2.2⟩, fun _ j => by rw [hc j, hae, (hz2.1.2.2 9 (by simp)).1, (y.1.2.2 9 (by simp)).1]⟩)
                  · skip
                    refine a_iload_n (pc := 124) (i := 1) dX2_readLine_124 rfl rfl ?_
                    refine a_iload_n (pc := 125) (i := 3) dX2_readLine_125 rfl rfl ?_
                    refine n_iadd (pc := 126) dX2_readLine_126 ?_
                    refine a_bipush (pc := 127) (v := nI 96) dX2_readLine_127 (by decide) ?_
                    refine n_icmp_ge (pc := 129) (tgt := 182) dX2_readLine_129 (by decide) (by omega) (by omega) (fun c129 => ?_) (fun c129 => ?_)
                    · exact absurd c129 (by omega)
                    · skip
                      refine a_iload_n (pc := 132) (i := 2) dX2_readLine_132 rfl rfl ?_
                      refine a_iload_n (pc := 133) (i := 3) dX2_readLine_133 rfl rfl ?_
                      refine n_iadd (pc := 134) dX2_readLine_134 ?_
                      refine a_aload_n (pc := 135) (i := 0) dX2_readLine_135 rfl rfl ?_
                      refine a_getI (pc := 136) (ci := 2) (k := 2) dX2_readLine_136 (lf_RX2_35 rfl) (by decide) rfl rfl (lt90 hn3 (shK_lt (show shK 7 = _ from rfl))) ?_
                      refine a_top (show (.int (hI H3 7 2) : Value) = .int (nI n) from congrArg Value.int x3.2.2.1) ?_
                      refine n_icmp_ge (pc := 139) (tgt := 182) dX2_readLine_139 (by decide) (by omega) (by omega) (fun c139 => ?_) (fun c139 => ?_)
                      · exact absurd c139 (by omega)
                      · skip
                        refine a_aload_n (pc := 142) (i := 0) dX2_readLine_142 rfl rfl ?_
                        refine a_getR (pc := 143) (ci := 2) (k := 0) (b := 8) dX2_readLine_143 (lf_RX2_12 rfl) (by decide) rfl rfl (lt90 hn3 (shK_lt (show shK 7 = _ from rfl))) x3.1.2.2.2.1.1 ?_
                        refine a_getR (pc := 146) (ci := 3) (k := 3) (b := 9) dX2_readLine_146 (lf_RX2_130 rfl) (by decide) rfl rfl (lt90 hn3 (shK_lt (show shK 8 = _ from rfl))) (x3.1.2.2.1 8 (Or.inr (Or.inl rfl))).1 ?_
                        refine a_iload_n (pc := 149) (i := 1) dX2_readLine_149 rfl rfl ?_
                        refine a_iload_n (pc := 150) (i := 3) dX2_readLine_150 rfl rfl ?_
                        refine n_iadd (pc := 151) dX2_readLine_151 ?_
                        refine a_aload_n (pc := 152) (i := 0) dX2_readLine_152 rfl rfl ?_
                        refine a_getR (pc := 153) (ci := 2) (k := 1) (b := 12) dX2_readLine_153 (lf_RX2_18 rfl) (by decide) rfl rfl (lt90 hn3 (shK_lt (show shK 7 = _ from rfl))) x3.1.2.2.2.1.2 ?_
                        refine a_iload_n (pc := 156) (i := 2) dX2_readLine_156 rfl rfl ?_
                        refine a_iload_n (pc := 157) (i := 3) dX2_readLine_157 rfl rfl ?_
                        refine n_iadd (pc := 158) dX2_readLine_158 ?_
                        refine a_bald (pc := 159) (j := (a + i)) dX2_readLine_159 rfl (lt90 hn3 (shK_lt (show shK 12 = _ from rfl))) rfl (by omega) ?_
                        refine a_top (show (.int (hI H3 12 (a + i)) : Value) = .int (Y (a + i)) from congrArg Value.int (x3.2.2.2 (a + i) (by omega))) ?_
                        refine a_vSN1 (pc := 160) (as := [.int (Y (a + i))]) (v := .int (bi (isLt (Y (a + i))))) (h' := H3) dX2_readLine_160 (lc_RX2_123 rfl) ceX4_isLetter sp_isLetter rfl rfl (Nat.le_of_ble_eq_true rfl) rfl ?_
                        refine b_if_eq (pc := 163) (tgt := 180) dX2_readLine_163 (by decide) (fun c163 => ?_) (fun c163 => ?_)
                        · skip
                          refine a_iconst (pc := 180) (v := (-1)) dX2_readLine_180 (by decide) ?_
                          refine a_iast (pc := 181) (j := (sp + i)) dX2_readLine_181 rfl (lt90 hn3 (shK_lt (show shK 9 = _ from rfl))) rfl (by omega) ?_
                          refine n_iinc (pc := 182) (k := 1) (ls' := [(0, .ref 7), (1, .int (nI sp)), (2, .int (nI a)), (3, .int (nI (i + 1)))]) dX2_readLine_182 rfl (by decide) (by decide) rfl ?_
                          refine a_goto (pc := 185) (tgt := 113) dX2_readLine_185 (by decide) ?_
                          exact ih (i + 1) _ (by omega) (hf.sI (by simp)) (fun j => by
                              by_cases ej : j = sp + i
                              · rw [rd2 ⟨rfl, ej⟩, if_pos (by omega), show a + (j - sp) = a + i by omega]; exact (cif_f c163).symm
                              · rw [rd1 (Or.inr ej), hc j]
                                by_cases e1 : sp ≤ j ∧ j < sp + i
                                · rw [if_pos e1, if_pos (by omega)]
                                · rw [if_neg e1, if_neg (by omega)]) (by omega)
                        · skip
                          refine a_aload_n (pc := 166) (i := 0) dX2_readLine_166 rfl rfl ?_
                          refine a_getR (pc := 167) (ci := 2) (k := 1) (b := 12) dX2_readLine_167 (lf_RX2_18 rfl) (by decide) rfl rfl (lt90 hn3 (shK_lt (show shK 7 = _ from rfl))) x3.1.2.2.2.1.2 ?_
                          refine a_iload_n (pc := 170) (i := 2) dX2_readLine_170 rfl rfl ?_
                          refine a_iload_n (pc := 171) (i := 3) dX2_readLine_171 rfl rfl ?_
                          refine n_iadd (pc := 172) dX2_readLine_172 ?_
                          refine a_bald (pc := 173) (j := (a + i)) dX2_readLine_173 rfl (lt90 hn3 (shK_lt (show shK 12 = _ from rfl))) rfl (by omega) ?_
                          refine a_top (show (.int (hI H3 12 (a + i)) : Value) = .int (Y (a + i)) from congrArg Value.int (x3.2.2.2 (a + i) (by omega))) ?_
                          refine a_bipush (pc := 174) (v := nI 97) dX2_readLine_174 (by decide) ?_
                          refine a_isub (pc := 176) dX2_readLine_176 ?_
                          refine a_goto (pc := 177) (tgt := 181) dX2_readLine_177 (by decide) ?_
                          refine a_iast (pc := 181) (j := (sp + i)) dX2_readLine_181 rfl (lt90 hn3 (shK_lt (show shK 9 = _ from rfl))) rfl (by omega) ?_
                          refine n_iinc (pc := 182) (k := 1) (ls' := [(0, .ref 7), (1, .int (nI sp)), (2, .int (nI a)), (3, .int (nI (i + 1)))]) dX2_readLine_182 rfl (by decide) (by decide) rfl ?_
                          refine a_goto (pc := 185) (tgt := 113) dX2_readLine_185 (by decide) ?_
                          exact ih (i + 1) _ (by omega) (hf.sI (by simp)) (fun j => by
                              by_cases ej : j = sp + i
                              · rw [rd2 ⟨rfl, ej⟩, if_pos (by omega), show a + (j - sp) = a + i by omega]; exact (cif_t c163).symm
                              · rw [rd1 (Or.inr ej), hc j]
                                by_cases e1 : sp ≤ j ∧ j < sp + i
                                · rw [if_pos e1, if_pos (by omega)]
                                · rw [if_neg e1, if_neg (by omega)]) (by omega)
              refine a_iconst (pc := 111) (v := nI 0) dX2_readLine_111 (by decide) ?_
              refine a_istore_n (pc := 112) (i := 3) (ls' := [(0, .ref 7), (1, .int (nI sp)), (2, .int (nI a)), (3, .int (nI 0))]) dX2_readLine_112 rfl (by decide) rfl ?_
              exact LQ (w + 1) 0 H2 (Nat.zero_le _) Fr.refl (fun j => (if_neg (by omega)).symm) (by omega)
            · skip
              exact a_return (pc := 110) dX2_readLine_110 rfl (⟨rfl, (y.k.trans hz2.k).s (by simp), by rw [e9]; exact rr, fun z0 => absurd (by rw [e9] at z0; exact z0) c107⟩)
          · skip
            have e9 : pL n Y w q = pF (b, q.2) (-4) a := e.trans (cif_f c93)
            refine a_aload_n (pc := 96) (i := 0) dX2_readLine_96 rfl rfl ?_
            refine a_bipush (pc := 97) (v := (-4)) dX2_readLine_97 (by decide) ?_
            refine a_iload_n (pc := 99) (i := 2) dX2_readLine_99 rfl rfl ?_
            refine a_uV (pc := 100) (as := [.int ((-4)), .int (nI a)]) (b := 7) (ci := 2) dX2_readLine_100 (lc_RX2_85 rfl) ceX2_fail rfl (lt90 hn2 (shK_lt (show shK 7 = _ from rfl))) (sp_fail (d := d + 1) xx.1 rr) rfl rfl (Nat.le_of_ble_eq_true rfl) (fun h2 z => z.1.1.1) (fun H3 z => ?_)
            have hpf : (pF (b, q.2) (-4) a).2.1 ≠ 0 := pF_ne (by decide)
            have hn3 : 68 ≤ hN H3 := (xx.1.fr z.1.1).1
            refine a_aload_n (pc := 103) (i := 0) dX2_readLine_103 rfl rfl ?_
            refine a_getI (pc := 104) (ci := 2) (k := 4) dX2_readLine_104 (lf_RX2_47 rfl) (by decide) rfl rfl (lt90 hn3 (shK_lt (show shK 7 = _ from rfl))) ?_
            refine a_top (show (.int (hI H3 7 4) : Value) = .int ((pF (b, q.2) (-4) a).2.1) from congrArg Value.int z.2.2.1) ?_
            refine a_if_eq (pc := 107) (tgt := 111) dX2_readLine_107 (by decide) (fun c107 => ?_) (fun c107 => ?_)
            · exact absurd c107 hpf
            · skip
              exact a_return (pc := 110) dX2_readLine_110 rfl (⟨rfl, ((y.k.trans hz2.k).trans z.1).s (by simp), by rw [e9]; exact z.2, fun z0 => absurd (e9 ▸ z0) hpf⟩)
        · skip
          have e9 : pL n Y w q = pF (b, q.2) (-2) a := e0.trans (cif_t c67)
          refine a_aload_n (pc := 70) (i := 0) dX2_readLine_70 rfl rfl ?_
          refine a_bipush (pc := 71) (v := (-2)) dX2_readLine_71 (by decide) ?_
          refine a_iload_n (pc := 73) (i := 2) dX2_readLine_73 rfl rfl ?_
          refine a_uV (pc := 74) (as := [.int ((-2)), .int (nI a)]) (b := 7) (ci := 2) dX2_readLine_74 (lc_RX2_85 rfl) ceX2_fail rfl (lt90 hn2 (shK_lt (show shK 7 = _ from rfl))) (sp_fail (d := d + 1) xx.1 rr) rfl rfl (Nat.le_of_ble_eq_true rfl) (fun h2 z => z.1.1.1) (fun H3 z => ?_)
          have hpf : (pF (b, q.2) (-2) a).2.1 ≠ 0 := pF_ne (by decide)
          have hn3 : 68 ≤ hN H3 := (xx.1.fr z.1.1).1
          refine a_goto (pc := 77) (tgt := 103) dX2_readLine_77 (by decide) ?_
          refine a_aload_n (pc := 103) (i := 0) dX2_readLine_103 rfl rfl ?_
          refine a_getI (pc := 104) (ci := 2) (k := 4) dX2_readLine_104 (lf_RX2_47 rfl) (by decide) rfl rfl (lt90 hn3 (shK_lt (show shK 7 = _ from rfl))) ?_
          refine a_top (show (.int (hI H3 7 4) : Value) = .int ((pF (b, q.2) (-2) a).2.1) from congrArg Value.int z.2.2.1) ?_
          refine a_if_eq (pc := 107) (tgt := 111) dX2_readLine_107 (by decide) (fun c107 => ?_) (fun c107 => ?_)
          · exact absurd c107 hpf
          · skip
            exact a_return (pc := 110) dX2_readLine_110 rfl (⟨rfl, ((y.k.trans hz2.k).trans z.1).s (by simp), by rw [e9]; exact z.2, fun z0 => absurd (e9 ▸ z0) hpf⟩)
      · obtain ⟨m, hm⟩ : ∃ m, n - b = m + 1 := ⟨n - b - 1, by omega⟩
        rw [hm] at hs
        refine a_aload_n (pc := 20) (i := 0) dX2_readLine_20 rfl rfl ?_
        refine a_getR (pc := 21) (ci := 2) (k := 1) (b := 12) dX2_readLine_21 (lf_RX2_18 rfl) (by decide) rfl rfl (lt90 hn2 (shK_lt (show shK 7 = _ from rfl))) xx.1.2.2.2.1.2 ?_
        refine a_aload_n (pc := 24) (i := 0) dX2_readLine_24 rfl rfl ?_
        refine a_getI (pc := 25) (ci := 2) (k := 3) dX2_readLine_25 (lf_RX2_44 rfl) (by decide) rfl rfl (lt90 hn2 (shK_lt (show shK 7 = _ from rfl))) ?_
        refine a_top (show (.int (hI H2 7 3) : Value) = .int (nI b) from congrArg Value.int hz2.2.1) ?_
        refine a_bald (pc := 28) (j := b) dX2_readLine_28 rfl (lt90 hn2 (shK_lt (show shK 12 = _ from rfl))) rfl (by omega) ?_
        refine a_top (show (.int (hI H2 12 b) : Value) = .int (Y b) from congrArg Value.int (xx.2.2.2 b c17)) ?_
        refine a_vSN1 (pc := 29) (as := [.int (Y b)]) (v := .int (bi (isLt (Y b)))) (h' := H2) dX2_readLine_29 (lc_RX2_123 rfl) ceX4_isLetter sp_isLetter rfl rfl (Nat.le_of_ble_eq_true rfl) rfl ?_
        refine b_if_ne (pc := 32) (tgt := 49) dX2_readLine_32 (by decide) (fun c32 => ?_) (fun c32 => ?_)
        · skip
          have hs2 : skp isLn Y m (b + 1) = pLb n Y q := by rw [← hs]; exact (cif_t (a := skp isLn Y m (b + 1)) (b := b) (P := isLn (Y b)) (Or.inl c32)).symm
          refine a_aload_n (pc := 49) (i := 0) dX2_readLine_49 rfl rfl ?_
          refine a_dup (pc := 50) dX2_readLine_50 rfl ?_
          refine a_getI (pc := 51) (ci := 2) (k := 3) dX2_readLine_51 (lf_RX2_44 rfl) (by decide) rfl rfl (lt90 hn2 (shK_lt (show shK 7 = _ from rfl))) ?_
          refine a_top (show (.int (hI H2 7 3) : Value) = .int (nI b) from congrArg Value.int hz2.2.1) ?_
          refine a_iconst (pc := 54) (v := nI 1) dX2_readLine_54 (by decide) ?_
          refine n_iadd (pc := 55) dX2_readLine_55 ?_
          refine a_putI (pc := 56) (ci := 2) (k := 3) dX2_readLine_56 (lf_RX2_44 rfl) (by decide) (Or.inl rfl) rfl (lt90 hn2 (shK_lt (show shK 7 = _ from rfl))) rfl ?_
          refine a_goto (pc := 59) (tgt := 9) dX2_readLine_59 (by decide) ?_
          exact ih (b + 1) _ (by omega) (hz2.trans ⟨Fr.refl.sI (by simp), rd2 ⟨rfl, rfl⟩, fun j hj => rd1 (by omega)⟩) (by rw [show n - (b + 1) = m by omega]; exact hs2) (by omega)
        · skip
          refine a_aload_n (pc := 35) (i := 0) dX2_readLine_35 rfl rfl ?_
          refine a_getR (pc := 36) (ci := 2) (k := 1) (b := 12) dX2_readLine_36 (lf_RX2_18 rfl) (by decide) rfl rfl (lt90 hn2 (shK_lt (show shK 7 = _ from rfl))) xx.1.2.2.2.1.2 ?_
          refine a_aload_n (pc := 39) (i := 0) dX2_readLine_39 rfl rfl ?_
          refine a_getI (pc := 40) (ci := 2) (k := 3) dX2_readLine_40 (lf_RX2_44 rfl) (by decide) rfl rfl (lt90 hn2 (shK_lt (show shK 7 = _ from rfl))) ?_
          refine a_top (show (.int (hI H2 7 3) : Value) = .int (nI b) from congrArg Value.int hz2.2.1) ?_
          refine a_bald (pc := 43) (j := b) dX2_readLine_43 rfl (lt90 hn2 (shK_lt (show shK 12 = _ from rfl))) rfl (by omega) ?_
          refine a_top (show (.int (hI H2 12 b) : Value) = .int (Y b) from congrArg Value.int (xx.2.2.2 b c17)) ?_
          refine a_bipush (pc := 44) (v := nI 45) dX2_readLine_44 (by decide) ?_
          refine a_icmp_ne (pc := 46) (tgt := 62) dX2_readLine_46 (by decide) (fun c46 => ?_) (fun c46 => ?_)
          · skip
            have ef : pLb n Y q = b := by rw [← hs]; exact cif_f (fun z => z.elim c32 c46)
            rw [ef] at e0
            refine a_aload_n (pc := 62) (i := 0) dX2_readLine_62 rfl rfl ?_
            refine a_getI (pc := 63) (ci := 2) (k := 3) dX2_readLine_63 (lf_RX2_44 rfl) (by decide) rfl rfl (lt90 hn2 (shK_lt (show shK 7 = _ from rfl))) ?_
            refine a_top (show (.int (hI H2 7 3) : Value) = .int (nI b) from congrArg Value.int hz2.2.1) ?_
            refine a_iload_n (pc := 66) (i := 2) dX2_readLine_66 rfl rfl ?_
            refine n_icmp_ne (pc := 67) (tgt := 80) dX2_readLine_67 (by decide) (by omega) (by omega) (fun c67 => ?_) (fun c67 => ?_)
            · have e : pL n Y w q = _ := e0.trans (cif_f c67)
              refine a_aload_n (pc := 80) (i := 0) dX2_readLine_80 rfl rfl ?_
              refine a_getI (pc := 81) (ci := 2) (k := 3) dX2_readLine_81 (lf_RX2_44 rfl) (by decide) rfl rfl (lt90 hn2 (shK_lt (show shK 7 = _ from rfl))) ?_
              refine a_top (show (.int (hI H2 7 3) : Value) = .int (nI b) from congrArg Value.int hz2.2.1) ?_
              refine a_iload_n (pc := 84) (i := 2) dX2_readLine_84 rfl rfl ?_
              refine n_isub (pc := 85) dX2_readLine_85 (by omega) ?_
              refine a_aload_n (pc := 86) (i := 0) dX2_readLine_86 rfl rfl ?_
              refine a_getR (pc := 87) (ci := 2) (k := 0) (b := 8) dX2_readLine_87 (lf_RX2_12 rfl) (by decide) rfl rfl (lt90 hn2 (shK_lt (show shK 7 = _ from rfl))) xx.1.2.2.2.1.1 ?_
              refine a_getI (pc := 90) (ci := 3) (k := 0) dX2_readLine_90 (lf_RX2_127 rfl) (by decide) rfl rfl (lt90 hn2 (shK_lt (show shK 8 = _ from rfl))) ?_
              refine a_top (show (.int (hI H2 8 0) : Value) = .int (nI w) from congrArg Value.int (by rw [(hz2.1.2.2 8 (by simp)).1, (y.1.2.2 8 (by simp)).1]; exact hw8 : hI H2 8 0 = nI w)) ?_
              refine n_icmp_eq (pc := 93) (tgt := 103) dX2_readLine_93 (by decide) (by omega) (by omega) (fun c93 => ?_) (fun c93 => ?_)
              · have e9 : pL n Y w q = (b, q.2) := e.trans (cif_t c93)
                refine a_aload_n (pc := 103) (i := 0) dX2_readLine_103 rfl rfl ?_
                refine a_getI (pc := 104) (ci := 2) (k := 4) dX2_readLine_104 (lf_RX2_47 rfl) (by decide) rfl rfl (lt90 hn2 (shK_lt (show shK 7 = _ from rfl))) ?_
                refine a_top (show (.int (hI H2 7 4) : Value) = .int q.2.1 from congrArg Value.int rr.2.1) ?_
                refine a_if_eq (pc := 107) (tgt := 111) dX2_readLine_107 (by decide) (fun c107 => ?_) (fun c107 => ?_)
                · skip
                  have LQ : ∀ (fu : Nat) (i : Nat) (H3 : AH), i ≤ w → Fr [9] H2 H3 → (∀ j, hI H3 9 j = if sp ≤ j ∧ j < sp + i then ltv (Y (a + (j - sp))) else hI H2 9 j) → w - i < fu → AW X mX2_readLine (d + 3) 0 0 113 [(0, .ref 7), (1, .int (nI sp)), (2, .int (nI a)), (3, .int (nI i))] [] H3 (Qu (fun h2 => KS [7, 9] h h2 ∧ R7 h2 (pL n Y w q) ∧ ((pL n Y w q).2.1 = 0 → ∀ j, hI h2 9 j = if sp ≤ j ∧ j < sp + w then ltv (Y ((pSp n Y q).1 + (j - sp))) else hI h 9 j))) := by
                    intro fu
                    induction fu with
                    | zero => intro i H3 hi hf hc hz; exact absurd hz (Nat.not_lt_zero _)
                    | succ fu ih =>
                      intro i H3 hi hf hc hz
                      have c3 := xx.1.fr hf
                      have hn3 := c3.1
                      have x3 : TX H3 n Y := ⟨c3, xx.2.1, by rw [(hf.2.2 7 (by simp)).1]; exact xx.2.2.1, fun j hj => by rw [(hf.2.2 12 (by simp)).1]; exact xx.2.2.2 j hj⟩
                      have w3 : hI H3 8 0 = nI w := by rw [(hf.2.2 8 (by simp)).1, (hz2.1.2.2 8 (by simp)).1, (y.1.2.2 8 (by simp)).1]; exact hw8
                      refine a_iload_n (pc := 113) (i := 3) dX2_readLine_113 rfl rfl ?_
                      refine a_aload_n (pc := 114) (i := 0) dX2_readLine_114 rfl rfl ?_
                      refine a_getR (pc := 115) (ci := 2) (k := 0) (b := 8) dX2_readLine_115 (lf_RX2_12 rfl) (by decide) rfl rfl (lt90 hn3 (shK_lt (show shK 7 = _ from rfl))) x3.1.2.2.2.1.1 ?_
                      refine a_getI (pc := 118) (ci := 3) (k := 0) dX2_readLine_118 (lf_RX2_127 rfl) (by decide) rfl rfl (lt90 hn3 (shK_lt (show shK 8 = _ from rfl))) ?_
                      refine a_top (show (.int (hI H3 8 0) : Value) = .int (nI w) from congrArg Value.int w3) ?_
                      refine n_icmp_ge (pc := 121) (tgt := 188) dX2_readLine_121 (by decide) (by omega) (by omega) (fun c121 => ?_) (fun c121 => ?_)
                      · have ei : i = w := by omega
                        subst ei
                        exact a_return (pc := 188) dX2_readLine_188 rfl (⟨rfl, ((y.k.trans hz2.k).s (by simp)).trans ⟨hf.mono (by intro b hb; simp at hb ⊢; omega), fun j hj => by rw [(hf.2.2 7 (by simp)).1]⟩, by rw [e9]; exact ⟨by rw [(hf.2.2 7 (by simp)).1]; exact rr.1, by rw [(hf.2.2 7 (by simp)).1]; exact rr.2.1, by rw [(hf.2.2 7 (by simp)).1]; exact rr.2.2⟩, fun _ j => by rw [hc j, hae, (hz2.1.2.2 9 (by simp)).1, (y.1.2.2 9 (by simp)).1]⟩)
                      · skip
                        refine a_iload_n (pc := 124) (i := 1) dX2_readLine_124 rfl rfl ?_
                        refine a_iload_n (pc := 125) (i := 3) dX2_readLine_125 rfl rfl ?_
                        refine n_iadd (pc := 126) dX2_readLine_126 ?_
                        refine a_bipush (pc := 127) (v := nI 96) dX2_readLine_127 (by decide) ?_
                        refine n_icmp_ge (pc := 129) (tgt := 182) dX2_readLine_129 (by decide) (by omega) (by omega) (fun c129 => ?_) (fun c129 => ?_)
                        · exact absurd c129 (by omega)
                        · skip
                          refine a_iload_n (pc := 132) (i := 2) dX2_readLine_132 rfl rfl ?_
                          refine a_iload_n (pc := 133) (i := 3) dX2_readLine_133 rfl rfl ?_
                          refine n_iadd (pc := 134) dX2_readLine_134 ?_
                          refine a_aload_n (pc := 135) (i := 0) dX2_readLine_135 rfl rfl ?_
                          refine a_getI (pc := 136) (ci := 2) (k := 2) dX2_readLine_136 (lf_RX2_35 rfl) (by decide) rfl rfl (lt90 hn3 (shK_lt (show shK 7 = _ from rfl))) ?_
                          refine a_top (show (.int (hI H3 7 2) : Value) = .int (nI n) from congrArg Value.int x3.2.2.1) ?_
                          refine n_icmp_ge (pc := 139) (tgt := 182) dX2_readLine_139 (by decide) (by omega) (by omega) (fun c139 => ?_) (fun c139 => ?_)
                          · exact absurd c139 (by omega)
                          · skip
                            refine a_aload_n (pc := 142) (i := 0) dX2_readLine_142 rfl rfl ?_
                            refine a_getR (pc := 143) (ci := 2) (k := 0) (b := 8) dX2_readLine_143 (lf_RX2_12 rfl) (by decide) rfl rfl (lt90 hn3 (shK_lt (show shK 7 = _ from rfl))) x3.1.2.2.2.1.1 ?_
                            refine a_getR (pc := 146) (ci := 3) (k := 3) (b := 9) dX2_readLine_146 (lf_RX2_130 rfl) (by decide) rfl rfl (lt90 hn3 (shK_lt (show shK 8 = _ from rfl))) (x3.1.2.2.1 8 (Or.inr (Or.inl rfl))).1 ?_
                            refine a_iload_n (pc := 149) (i := 1) dX2_readLine_149 rfl rfl ?_
                            refine a_iload_n (pc := 150) (i := 3) dX2_readLine_150 rfl rfl ?_
                            refine n_iadd (pc := 151) dX2_readLine_151 ?_
                            refine a_aload_n (pc := 152) (i := 0) dX2_readLine_152 rfl rfl ?_
                            refine a_getR (pc := 153) (ci := 2) (k := 1) (b := 12) dX2_readLine_153 (lf_RX2_18 rfl) (by decide) rfl rfl (lt90 hn3 (shK_lt (show shK 7 = _ from rfl))) x3.1.2.2.2.1.2 ?_
                            refine a_iload_n (pc := 156) (i := 2) dX2_readLine_156 rfl rfl ?_
                            refine a_iload_n (pc := 157) (i := 3) dX2_readLine_157 rfl rfl ?_
                            refine n_iadd (pc := 158) dX2_readLine_158 ?_
                            refine a_bald (pc := 159) (j := (a + i)) dX2_readLine_159 rfl (lt90 hn3 (shK_lt (show shK 12 = _ from rfl))) rfl (by omega) ?_
                            refine a_top (show (.int (hI H3 12 (a + i)) : Value) = .int (Y (a + i)) from congrArg Value.int (x3.2.2.2 (a + i) (by omega))) ?_
                            refine a_vSN1 (pc := 160) (as := [.int (Y (a + i))]) (v := .int (bi (isLt (Y (a + i))))) (h' := H3) dX2_readLine_160 (lc_RX2_123 rfl) ceX4_isLetter sp_isLetter rfl rfl (Nat.le_of_ble_eq_true rfl) rfl ?_
                            refine b_if_eq (pc := 163) (tgt := 180) dX2_readLine_163 (by decide) (fun c163 => ?_) (fun c163 => ?_)
                            · skip
                              refine a_iconst (pc := 180) (v := (-1)) dX2_readLine_180 (by decide) ?_
                              refine a_iast (pc := 181) (j := (sp + i)) dX2_readLine_181 rfl (lt90 hn3 (shK_lt (show shK 9 = _ from rfl))) rfl (by omega) ?_
                              refine n_iinc (pc := 182) (k := 1) (ls' := [(0, .ref 7), (1, .int (nI sp)), (2, .int (nI a)), (3, .int (nI (i + 1)))]) dX2_readLine_182 rfl (by decide) (by decide) rfl ?_
                              refine a_goto (pc := 185) (tgt := 113) dX2_readLine_185 (by decide) ?_
                              exact ih (i + 1) _ (by omega) (hf.sI (by simp)) (fun j => by
                                  by_cases ej : j = sp + i
                                  · rw [rd2 ⟨rfl, ej⟩, if_pos (by omega), show a + (j - sp) = a + i by omega]; exact (cif_f c163).symm
                                  · rw [rd1 (Or.inr ej), hc j]
                                    by_cases e1 : sp ≤ j ∧ j < sp + i
                                    · rw [if_pos e1, if_pos (by omega)]
                                    · rw [if_neg e1, if_neg (by omega)]) (by omega)
                            · skip
                              refine a_aload_n (pc := 166) (i := 0) dX2_readLine_166 rfl rfl ?_
                              refine a_getR (pc := 167) (ci := 2) (k := 1) (b := 12) dX2_readLine_167 (lf_RX2_18 rfl) (by decide) rfl rfl (lt90 hn3 (shK_lt (show shK 7 = _ from rfl))) x3.1.2.2.2.1.2 ?_
                              refine a_iload_n (pc := 170) (i := 2) dX2_readLine_170 rfl rfl ?_
                              refine a_iload_n (pc := 171) (i := 3) dX2_readLine_171 rfl rfl ?_
                              refine n_iadd (pc := 172) dX2_readLine_172 ?_
                              refine a_bald (pc := 173) (j := (a + i)) dX2_readLine_173 rfl (lt90 hn3 (shK_lt (show shK 12 = _ from rfl))) rfl (by omega) ?_
                              refine a_top (show (.int (hI H3 12 (a + i)) : Value) = .int (Y (a + i)) from congrArg Value.int (x3.2.2.2 (a + i) (by omega))) ?_
                              refine a_bipush (pc := 174) (v := nI 97) dX2_readLine_174 (by decide) ?_
                              refine a_isub (pc := 176) dX2_readLine_176 ?_
                              refine a_goto (pc := 177) (tgt := 181) dX2_readLine_177 (by decide) ?_
                              refine a_iast (pc := 181) (j := (sp + i)) dX2_readLine_181 rfl (lt90 hn3 (shK_lt (show shK 9 = _ from rfl))) rfl (by omega) ?_
                              refine n_iinc (pc := 182) (k := 1) (ls' := [(0, .ref 7), (1, .int (nI sp)), (2, .int (nI a)), (3, .int (nI (i + 1)))]) dX2_readLine_182 rfl (by decide) (by decide) rfl ?_
                              refine a_goto (pc := 185) (tgt := 113) dX2_readLine_185 (by decide) ?_
                              exact ih (i + 1) _ (by omega) (hf.sI (by simp)) (fun j => by
                                  by_cases ej : j = sp + i
                                  · rw [rd2 ⟨rfl, ej⟩, if_pos (by omega), show a + (j - sp) = a + i by omega]; exact (cif_t c163).symm
                                  · rw [rd1 (Or.inr ej), hc j]
                                    by_cases e1 : sp ≤ j ∧ j < sp + i
                                    · rw [if_pos e1, if_pos (by omega)]
                                    · rw [if_neg e1, if_neg (by omega)]) (by omega)
                  refine a_iconst (pc := 111) (v := nI 0) dX2_readLine_111 (by decide) ?_
                  refine a_istore_n (pc := 112) (i := 3) (ls' := [(0, .ref 7), (1, .int (nI sp)), (2, .int (nI a)), (3, .int (nI 0))]) dX2_readLine_112 rfl (by decide) rfl ?_
                  exact LQ (w + 1) 0 H2 (Nat.zero_le _) Fr.refl (fun j => (if_neg (by omega)).symm) (by omega)
                · skip
                  exact a_return (pc := 110) dX2_readLine_110 rfl (⟨rfl, (y.k.trans hz2.k).s (by simp), by rw [e9]; exact rr, fun z0 => absurd (by rw [e9] at z0; exact z0) c107⟩)
              · skip
                have e9 : pL n Y w q = pF (b, q.2) (-4) a := e.trans (cif_f c93)
                refine a_aload_n (pc := 96) (i := 0) dX2_readLine_96 rfl rfl ?_
                refine a_bipush (pc := 97) (v := (-4)) dX2_readLine_97 (by decide) ?_
                refine a_iload_n (pc := 99) (i := 2) dX2_readLine_99 rfl rfl ?_
                refine a_uV (pc := 100) (as := [.int ((-4)), .int (nI a)]) (b := 7) (ci := 2) dX2_readLine_100 (lc_RX2_85 rfl) ceX2_fail rfl (lt90 hn2 (shK_lt (show shK 7 = _ from rfl))) (sp_fail (d := d + 1) xx.1 rr) rfl rfl (Nat.le_of_ble_eq_true rfl) (fun h2 z => z.1.1.1) (fun H3 z => ?_)
                have hpf : (pF (b, q.2) (-4) a).2.1 ≠ 0 := pF_ne (by decide)
                have hn3 : 68 ≤ hN H3 := (xx.1.fr z.1.1).1
                refine a_aload_n (pc := 103) (i := 0) dX2_readLine_103 rfl rfl ?_
                refine a_getI (pc := 104) (ci := 2) (k := 4) dX2_readLine_104 (lf_RX2_47 rfl) (by decide) rfl rfl (lt90 hn3 (shK_lt (show shK 7 = _ from rfl))) ?_
                refine a_top (show (.int (hI H3 7 4) : Value) = .int ((pF (b, q.2) (-4) a).2.1) from congrArg Value.int z.2.2.1) ?_
                refine a_if_eq (pc := 107) (tgt := 111) dX2_readLine_107 (by decide) (fun c107 => ?_) (fun c107 => ?_)
                · exact absurd c107 hpf
                · skip
                  exact a_return (pc := 110) dX2_readLine_110 rfl (⟨rfl, ((y.k.trans hz2.k).trans z.1).s (by simp), by rw [e9]; exact z.2, fun z0 => absurd (e9 ▸ z0) hpf⟩)
            · skip
              have e9 : pL n Y w q = pF (b, q.2) (-2) a := e0.trans (cif_t c67)
              refine a_aload_n (pc := 70) (i := 0) dX2_readLine_70 rfl rfl ?_
              refine a_bipush (pc := 71) (v := (-2)) dX2_readLine_71 (by decide) ?_
              refine a_iload_n (pc := 73) (i := 2) dX2_readLine_73 rfl rfl ?_
              refine a_uV (pc := 74) (as := [.int ((-2)), .int (nI a)]) (b := 7) (ci := 2) dX2_readLine_74 (lc_RX2_85 rfl) ceX2_fail rfl (lt90 hn2 (shK_lt (show shK 7 = _ from rfl))) (sp_fail (d := d + 1) xx.1 rr) rfl rfl (Nat.le_of_ble_eq_true rfl) (fun h2 z => z.1.1.1) (fun H3 z => ?_)
              have hpf : (pF (b, q.2) (-2) a).2.1 ≠ 0 := pF_ne (by decide)
              have hn3 : 68 ≤ hN H3 := (xx.1.fr z.1.1).1
              refine a_goto (pc := 77) (tgt := 103) dX2_readLine_77 (by decide) ?_
              refine a_aload_n (pc := 103) (i := 0) dX2_readLine_103 rfl rfl ?_
              refine a_getI (pc := 104) (ci := 2) (k := 4) dX2_readLine_104 (lf_RX2_47 rfl) (by decide) rfl rfl (lt90 hn3 (shK_lt (show shK 7 = _ from rfl))) ?_
              refine a_top (show (.int (hI H3 7 4) : Value) = .int ((pF (b, q.2) (-2) a).2.1) from congrArg Value.int z.2.2.1) ?_
              refine a_if_eq (pc := 107) (tgt := 111) dX2_readLine_107 (by decide) (fun c107 => ?_) (fun c107 => ?_)
              · exact absurd c107 hpf
              · skip
                exact a_return (pc := 110) dX2_readLine_110 rfl (⟨rfl, ((y.k.trans hz2.k).trans z.1).s (by simp), by rw [e9]; exact z.2, fun z0 => absurd (e9 ▸ z0) hpf⟩)
          · skip
            have hs2 : skp isLn Y m (b + 1) = pLb n Y q := by rw [← hs]; exact (cif_t (a := skp isLn Y m (b + 1)) (b := b) (P := isLn (Y b)) (Or.inr c46)).symm
            refine a_aload_n (pc := 49) (i := 0) dX2_readLine_49 rfl rfl ?_
            refine a_dup (pc := 50) dX2_readLine_50 rfl ?_
            refine a_getI (pc := 51) (ci := 2) (k := 3) dX2_readLine_51 (lf_RX2_44 rfl) (by decide) rfl rfl (lt90 hn2 (shK_lt (show shK 7 = _ from rfl))) ?_
            refine a_top (show (.int (hI H2 7 3) : Value) = .int (nI b) from congrArg Value.int hz2.2.1) ?_
            refine a_iconst (pc := 54) (v := nI 1) dX2_readLine_54 (by decide) ?_
            refine n_iadd (pc := 55) dX2_readLine_55 ?_
            refine a_putI (pc := 56) (ci := 2) (k := 3) dX2_readLine_56 (lf_RX2_44 rfl) (by decide) (Or.inl rfl) rfl (lt90 hn2 (shK_lt (show shK 7 = _ from rfl))) rfl ?_
            refine a_goto (pc := 59) (tgt := 9) dX2_readLine_59 (by decide) ?_
            exact ih (b + 1) _ (by omega) (hz2.trans ⟨Fr.refl.sI (by simp), rd2 ⟨rfl, rfl⟩, fun j hj => rd1 (by omega)⟩) (by rw [show n - (b + 1) = m by omega]; exact hs2) (by omega)
  refine a_aload_n (pc := 4) (i := 0) dX2_readLine_4 rfl rfl ?_
  refine a_getI (pc := 5) (ci := 2) (k := 3) dX2_readLine_5 (lf_RX2_44 rfl) (by decide) rfl rfl (lt90 hn1 (shK_lt (show shK 7 = _ from rfl))) ?_
  refine a_top (show (.int (hI H 7 3) : Value) = .int (nI a) from congrArg Value.int r10) ?_
  refine a_istore_n (pc := 8) (i := 2) (ls' := [(0, .ref 7), (1, .int (nI sp)), (2, .int (nI a))]) dX2_readLine_8 rfl (by decide) rfl ?_
  exact LP (n + 1) a H (by omega) ⟨Fr.refl, r10, fun _ _ => rfl⟩ hB.symm (by omega)
/-- the state behind so many lines -/
noncomputable def pLi (n : Nat) (Y : Nat → Int32) (w : Nat) : Nat → PS → PS
  | 0, q => q
  | k + 1, q => pL n Y w (pLi n Y w k q)
theorem pLi_le {n w : Nat} {Y : Nat → Int32} {q : PS} (h : q.1 ≤ n) : ∀ k, (pLi n Y w k q).1 ≤ n
  | 0 => h
  | k + 1 => by unfold pLi; rw [pL_1]; exact (pLb_le (pLi_le h k)).2
theorem pLi_0 {n w : Nat} {Y : Nat → Int32} {q : PS} : ∀ k, (pLi n Y w k q).2.1 = 0 → ∀ j, j ≤ k → (pLi n Y w j q).2.1 = 0
  | 0, h, j, hj => by have : j = 0 := by omega
                      subst this; exact h
  | k + 1, h, j, hj => by
    rcases (by omega : j = k + 1 ∨ j ≤ k) with rfl | hj
    · exact h
    · exact pLi_0 k (pL_0 h).1 j hj
/-- the letters that the lines tell -/
noncomputable def lnv (n : Nat) (Y : Nat → Int32) (w : Nat) (q : PS) (r c : Nat) : Int32 := ltv (Y ((pSp n Y (pLi n Y w r q)).1 + c))
noncomputable def dSide (s : SH) (x : Nat) (f : Nat → Nat → Int32) : SH := (s.1, (fun y p => if y = x then f (p / sW s) (p % sW s) else sLt s y p), s.2.2)
set_option maxHeartbeats 1500000 in
set_option maxRecDepth 100000 in
theorem sp_readLines {d : Nat} {h : AH} {n w hh sd : Nat} {Y : Nat → Int32} {q : PS} (x : TX h n Y) (r : R7 h q) (ha : q.1 ≤ n) (hw8 : hI h 8 0 = nI w) (hh8 : hI h 8 1 = nI hh) (hw : 1 ≤ w ∧ w ≤ 8) (hhb : hh ≤ 6) (hsd : sd < 2) : AC mX2_readLines (d + 4) 0 0 [.ref 7, .int (nI sd)] h (Qu (fun h2 => KS [7, 9] h h2 ∧ R7 h2 (pLi n Y w hh q) ∧ ((pLi n Y w hh q).2.1 = 0 → ∀ j, j < 96 → hI h2 9 j = if j / 48 = sd ∧ j % 48 / 8 < hh ∧ j % 8 < w then lnv n Y w q (j % 48 / 8) (j % 8) else hI h 9 j))) := by
  refine AC.of (by decide) rfl (Nat.le_of_ble_eq_true rfl) (fun X => ?_)
  show AW X mX2_readLines (d + 4) 0 0 0 [(0, .ref 7), (1, .int (nI sd))] [] h (Qu (fun h2 => KS [7, 9] h h2 ∧ R7 h2 (pLi n Y w hh q) ∧ ((pLi n Y w hh q).2.1 = 0 → ∀ j, j < 96 → hI h2 9 j = if j / 48 = sd ∧ j % 48 / 8 < hh ∧ j % 8 < w then lnv n Y w q (j % 48 / 8) (j % 8) else hI h 9 j)))
  have hn := x.1.1
  have hn4 := x.2.1
  have LP : ∀ (fu : Nat) (k : Nat) (H : AH), k ≤ hh → KS [7, 9] h H → R7 H (pLi n Y w k q) → ((pLi n Y w k q).2.1 = 0 → ∀ j, j < 96 → hI H 9 j = if j / 48 = sd ∧ j % 48 / 8 < k ∧ j % 8 < w then lnv n Y w q (j % 48 / 8) (j % 8) else hI h 9 j) → hh - k < fu → AW X mX2_readLines (d + 4) 0 0 2 [(0, .ref 7), (1, .int (nI sd)), (2, .int (nI k))] [] H (Qu (fun h2 => KS [7, 9] h h2 ∧ R7 h2 (pLi n Y w hh q) ∧ ((pLi n Y w hh q).2.1 = 0 → ∀ j, j < 96 → hI h2 9 j = if j / 48 = sd ∧ j % 48 / 8 < hh ∧ j % 8 < w then lnv n Y w q (j % 48 / 8) (j % 8) else hI h 9 j))) := by
    intro fu
    induction fu with
    | zero => intro k H hk y rr hc hz; exact absurd hz (Nat.not_lt_zero _)
    | succ fu ih =>
      intro k H hk y rr hc hz
      have xx := x.ks y (by simp)
      have hn1 := xx.1.1
      have e8 : hI H 8 = hI h 8 := (y.1.2.2 8 (by simp)).1
      refine a_iload_n (pc := 2) (i := 2) dX2_readLines_2 rfl rfl ?_
      refine a_aload_n (pc := 3) (i := 0) dX2_readLines_3 rfl rfl ?_
      refine a_getR (pc := 4) (ci := 2) (k := 0) (b := 8) dX2_readLines_4 (lf_RX2_12 rfl) (by decide) rfl rfl (lt90 hn1 (shK_lt (show shK 7 = _ from rfl))) xx.1.2.2.2.1.1 ?_
      refine a_getI (pc := 7) (ci := 3) (k := 1) dX2_readLines_7 (lf_RX2_117 rfl) (by decide) rfl rfl (lt90 hn1 (shK_lt (show shK 8 = _ from rfl))) ?_
      refine a_top (show (.int (hI H 8 1) : Value) = .int (nI hh) from congrArg Value.int (by rw [e8]; exact hh8 : hI H 8 1 = nI hh)) ?_
      refine n_icmp_ge (pc := 10) (tgt := 32) dX2_readLines_10 (by decide) (by omega) (by omega) (fun c10 => ?_) (fun c10 => ?_)
      · have ek : k = hh := by omega
        subst ek
        exact a_return (pc := 32) dX2_readLines_32 rfl (⟨rfl, y, rr, hc⟩)
      · skip
        refine a_aload_n (pc := 13) (i := 0) dX2_readLines_13 rfl rfl ?_
        refine a_iload_n (pc := 14) (i := 1) dX2_readLines_14 rfl rfl ?_
        refine a_bipush (pc := 15) (v := nI 48) dX2_readLines_15 (by decide) ?_
        refine n_imul (pc := 17) dX2_readLines_17 ?_
        refine a_iload_n (pc := 18) (i := 2) dX2_readLines_18 rfl rfl ?_
        refine a_bipush (pc := 19) (v := nI 8) dX2_readLines_19 (by decide) ?_
        refine n_imul (pc := 21) dX2_readLines_21 ?_
        refine n_iadd (pc := 22) dX2_readLines_22 ?_
        refine a_uV (pc := 23) (as := [.int (nI ((sd * 48) + (k * 8)))]) (b := 7) (ci := 2) dX2_readLines_23 (lc_RX2_120 rfl) ceX2_readLine rfl (lt90 hn1 (shK_lt (show shK 7 = _ from rfl))) (sp_readLine (d := d) xx rr (pLi_le ha k) (by rw [e8]; exact hw8) hw (by omega)) rfl rfl (Nat.le_of_ble_eq_true rfl) (fun h2 z => z.1.1.1) (fun H2 z => ?_)
        have hn2 := (xx.ks z.1 (by simp)).1.1
        refine n_iinc (pc := 26) (k := 1) (ls' := [(0, .ref 7), (1, .int (nI sd)), (2, .int (nI (k + 1)))]) dX2_readLines_26 rfl (by decide) (by decide) rfl ?_
        refine a_goto (pc := 29) (tgt := 2) dX2_readLines_29 (by decide) ?_
        exact ih (k + 1) H2 (by omega) (y.trans z.1) z.2.1 (fun z0 j hj => by
            rw [z.2.2 z0 j]
            have z1 := (pL_0 z0).1
            by_cases e1 : sd * 48 + k * 8 ≤ j ∧ j < sd * 48 + k * 8 + w
            · rw [if_pos e1, if_pos (by omega)]
              show ltv (Y ((pSp n Y (pLi n Y w k q)).1 + _)) = ltv (Y ((pSp n Y (pLi n Y w (j % 48 / 8) q)).1 + _))
              rw [show j % 48 / 8 = k by omega, show j - (sd * 48 + k * 8) = j % 8 by omega]
            · rw [if_neg e1, hc z1 j hj]
              by_cases e2 : j / 48 = sd ∧ j % 48 / 8 < k ∧ j % 8 < w
              · rw [if_pos e2, if_pos (by omega)]
              · rw [if_neg e2, if_neg (by omega)]) (by omega)
  refine a_iconst (pc := 0) (v := nI 0) dX2_readLines_0 (by decide) ?_
  refine a_istore_n (pc := 1) (i := 2) (ls' := [(0, .ref 7), (1, .int (nI sd)), (2, .int (nI 0))]) dX2_readLines_1 rfl (by decide) rfl ?_
  exact LP (hh + 1) 0 h (Nat.zero_le _) KS.refl r (fun _ j _ => (if_neg (by omega)).symm) (by omega)
