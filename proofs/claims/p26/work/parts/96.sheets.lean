/-! the law's Sheet: its making, its copy -/
theorem nm_new2 {N k q : Nat} (h : dOK (dyn N)) (hk : dl N ≤ k) (hq : q < 1024) : ¬ prN N (nm k q) := by
  rw [prN_iff]
  rintro (z | z)
  · unfold nm at z; omega
  · obtain ⟨i, r, hi, hr, e⟩ := dOK_mem h z
    have := (nm_inj hq hr e).1
    unfold dl at hk
    omega
theorem nm_eq {a b q r : Nat} (hq : q < 1024) (hr : r < 1024) : nm a q = nm b r ↔ a = b ∧ q = r := by unfold nm; omega
theorem hI_nwD {h : AH} {c a : Nat} : hI (nwD h c) a = if a = c then (fun _ => 0) else hI h a := rfl
theorem hR_nwD {h : AH} {c a : Nat} : hR (nwD h c) a = if a = c then (fun _ => none) else hR h a := rfl
theorem newC_0 {h : AH} {k q : Nat} (h68 : 68 ≤ hN h) (hk : dl (hN h) = k) (hq : q < 1024) : newC (hN h) (nm k q) k q := ⟨h68, rfl, hk.symm, hq⟩
theorem GS_new1 : GS (newS 1 1) := GS_newS ⟨Nat.le_refl 1, by decide⟩ ⟨Nat.le_refl 1, by decide⟩
theorem lineT_new {i : Nat} : lineT (newS 1 1) i = [45] := by
  have e : chN (sLt (newS 1 1) (i / 1) (i % 1 * 1 + 0)) = 45 := (chN_45 GS_new1).2.mpr rfl
  show [chN (sLt (newS 1 1) (i / 1) (i % 1 * 1 + 0))] = [45]
  rw [e]
theorem STR_c {h : AH} {i : Nat} (hi : i < 14) : STR h (1001 + i) (zT i) := ⟨(zT_ok hi).2.2.1, Or.inl ⟨i, hi, rfl, rfl⟩⟩

set_option maxRecDepth 100000 in
set_option maxHeartbeats 1200000 in
theorem INI_LW {k : Nat} {h : AH} (h68 : 68 ≤ hN h) (hk : dl (hN h) = k + 1) (pa : prN (hN h) (aN k)) (z7 : hI h (aN k) 7 = 0) (z8 : hI h (aN k) 8 = 0) (hw : wfh h) : LW (sR (nwD (sR (nwD (sR (sR (nwD (sI (sR (sI (sI (nwD (sR (sR (sR (nwD (sI (sI h (aN k) 0 (nI 1)) (aN k) 1 (nI 1)) (nm (k + 1) (qA 6 2))) (nm (k + 1) (qA 6 2)) 0 (some (1001 + 5))) (nm (k + 1) (qA 6 2)) 1 (some (1001 + 5))) (aN k) 2 (some (nm (k + 1) (qA 6 2)))) (nm (k + 2) (qA 0 2))) (nm (k + 2) (qA 0 2)) 0 (nI 1)) (nm (k + 2) (qA 0 2)) 1 (nI 1)) (aN k) 3 (some (nm (k + 2) (qA 0 2)))) (aN k) 4 (nI 1)) (nm (k + 3) (qA 2 1))) (aN k) 5 (some (nm (k + 3) (qA 2 1)))) (aN k) 6 (some (1001 + 6))) (nm (k + 4) (qA 0 24))) (aN k) 9 (some (nm (k + 4) (qA 0 24)))) (nm (k + 5) (qA 0 24))) (aN k) 10 (some (nm (k + 5) (qA 0 24)))) k 3 (newS 1 1) ∧ Dq (fun a => a = aN k) 5 h (sR (nwD (sR (nwD (sR (sR (nwD (sI (sR (sI (sI (nwD (sR (sR (sR (nwD (sI (sI h (aN k) 0 (nI 1)) (aN k) 1 (nI 1)) (nm (k + 1) (qA 6 2))) (nm (k + 1) (qA 6 2)) 0 (some (1001 + 5))) (nm (k + 1) (qA 6 2)) 1 (some (1001 + 5))) (aN k) 2 (some (nm (k + 1) (qA 6 2)))) (nm (k + 2) (qA 0 2))) (nm (k + 2) (qA 0 2)) 0 (nI 1)) (nm (k + 2) (qA 0 2)) 1 (nI 1)) (aN k) 3 (some (nm (k + 2) (qA 0 2)))) (aN k) 4 (nI 1)) (nm (k + 3) (qA 2 1))) (aN k) 5 (some (nm (k + 3) (qA 2 1)))) (aN k) 6 (some (1001 + 6))) (nm (k + 4) (qA 0 24))) (aN k) 9 (some (nm (k + 4) (qA 0 24)))) (nm (k + 5) (qA 0 24))) (aN k) 10 (some (nm (k + 5) (qA 0 24)))) := by
  have no : ∀ i q, 1 ≤ i → q < 1024 → ¬ prN (hN h) (nm (k + i) q) := fun i q hi hq => nm_new2 hw.1 (by omega) hq
  have ex : ∀ a, prN (hN (sR (nwD (sR (nwD (sR (sR (nwD (sI (sR (sI (sI (nwD (sR (sR (sR (nwD (sI (sI h (aN k) 0 (nI 1)) (aN k) 1 (nI 1)) (nm (k + 1) (qA 6 2))) (nm (k + 1) (qA 6 2)) 0 (some (1001 + 5))) (nm (k + 1) (qA 6 2)) 1 (some (1001 + 5))) (aN k) 2 (some (nm (k + 1) (qA 6 2)))) (nm (k + 2) (qA 0 2))) (nm (k + 2) (qA 0 2)) 0 (nI 1)) (nm (k + 2) (qA 0 2)) 1 (nI 1)) (aN k) 3 (some (nm (k + 2) (qA 0 2)))) (aN k) 4 (nI 1)) (nm (k + 3) (qA 2 1))) (aN k) 5 (some (nm (k + 3) (qA 2 1)))) (aN k) 6 (some (1001 + 6))) (nm (k + 4) (qA 0 24))) (aN k) 9 (some (nm (k + 4) (qA 0 24)))) (nm (k + 5) (qA 0 24))) (aN k) 10 (some (nm (k + 5) (qA 0 24))))) a ↔ ((((prN (hN h) a ∨ a = nm (k + 1) (qA 6 2)) ∨ a = nm (k + 2) (qA 0 2)) ∨ a = nm (k + 3) (qA 2 1)) ∨ a = nm (k + 4) (qA 0 24)) ∨ a = nm (k + 5) (qA 0 24) := fun a => by
    show prN (adn (adn (adn (adn (adn (hN h) (nm (k + 1) (qA 6 2))) (nm (k + 2) (qA 0 2))) (nm (k + 3) (qA 2 1))) (nm (k + 4) (qA 0 24))) (nm (k + 5) (qA 0 24))) a ↔ _
    rw [prN_adn adn_ge, prN_adn adn_ge, prN_adn adn_ge, prN_adn adn_ge, prN_adn h68]
  have pL := (ex (nm (k + 1) (qA 6 2))).mpr (Or.inl (Or.inl (Or.inl (Or.inl (Or.inr rfl)))))
  have pZ := (ex (nm (k + 2) (qA 0 2))).mpr (Or.inl (Or.inl (Or.inl (Or.inr rfl))))
  have pG := (ex (nm (k + 3) (qA 2 1))).mpr (Or.inl (Or.inl (Or.inr rfl)))
  have pN := (ex (nm (k + 4) (qA 0 24))).mpr (Or.inl (Or.inr rfl))
  have pB := (ex (nm (k + 5) (qA 0 24))).mpr (Or.inr rfl)
  have pA := (ex (aN k)).mpr (Or.inl (Or.inl (Or.inl (Or.inl (Or.inl pa)))))
  have e0 : ∀ {a b q r : Nat}, q < 1024 → r < 1024 → (a ≠ b ∨ q ≠ r) → ¬ nm a q = nm b r := fun hq hr hx e => by
    have := nm_inj hq hr e
    omega
  have q01 : ¬ aN k = nm (k + 1) (qA 6 2) := e0 (by decide) (by decide) (Or.inl (by omega))
  have q02 : ¬ aN k = nm (k + 2) (qA 0 2) := e0 (by decide) (by decide) (Or.inl (by omega))
  have q03 : ¬ aN k = nm (k + 3) (qA 2 1) := e0 (by decide) (by decide) (Or.inl (by omega))
  have q04 : ¬ aN k = nm (k + 4) (qA 0 24) := e0 (by decide) (by decide) (Or.inl (by omega))
  have q05 : ¬ aN k = nm (k + 5) (qA 0 24) := e0 (by decide) (by decide) (Or.inl (by omega))
  have q10 : ¬ nm (k + 1) (qA 6 2) = aN k := e0 (by decide) (by decide) (Or.inl (by omega))
  have q12 : ¬ nm (k + 1) (qA 6 2) = nm (k + 2) (qA 0 2) := e0 (by decide) (by decide) (Or.inl (by omega))
  have q13 : ¬ nm (k + 1) (qA 6 2) = nm (k + 3) (qA 2 1) := e0 (by decide) (by decide) (Or.inl (by omega))
  have q14 : ¬ nm (k + 1) (qA 6 2) = nm (k + 4) (qA 0 24) := e0 (by decide) (by decide) (Or.inl (by omega))
  have q15 : ¬ nm (k + 1) (qA 6 2) = nm (k + 5) (qA 0 24) := e0 (by decide) (by decide) (Or.inl (by omega))
  have q20 : ¬ nm (k + 2) (qA 0 2) = aN k := e0 (by decide) (by decide) (Or.inl (by omega))
  have q21 : ¬ nm (k + 2) (qA 0 2) = nm (k + 1) (qA 6 2) := e0 (by decide) (by decide) (Or.inl (by omega))
  have q23 : ¬ nm (k + 2) (qA 0 2) = nm (k + 3) (qA 2 1) := e0 (by decide) (by decide) (Or.inl (by omega))
  have q24 : ¬ nm (k + 2) (qA 0 2) = nm (k + 4) (qA 0 24) := e0 (by decide) (by decide) (Or.inl (by omega))
  have q25 : ¬ nm (k + 2) (qA 0 2) = nm (k + 5) (qA 0 24) := e0 (by decide) (by decide) (Or.inl (by omega))
  have q30 : ¬ nm (k + 3) (qA 2 1) = aN k := e0 (by decide) (by decide) (Or.inl (by omega))
  have q31 : ¬ nm (k + 3) (qA 2 1) = nm (k + 1) (qA 6 2) := e0 (by decide) (by decide) (Or.inl (by omega))
  have q32 : ¬ nm (k + 3) (qA 2 1) = nm (k + 2) (qA 0 2) := e0 (by decide) (by decide) (Or.inl (by omega))
  have q34 : ¬ nm (k + 3) (qA 2 1) = nm (k + 4) (qA 0 24) := e0 (by decide) (by decide) (Or.inl (by omega))
  have q35 : ¬ nm (k + 3) (qA 2 1) = nm (k + 5) (qA 0 24) := e0 (by decide) (by decide) (Or.inl (by omega))
  have q40 : ¬ nm (k + 4) (qA 0 24) = aN k := e0 (by decide) (by decide) (Or.inl (by omega))
  have q41 : ¬ nm (k + 4) (qA 0 24) = nm (k + 1) (qA 6 2) := e0 (by decide) (by decide) (Or.inl (by omega))
  have q42 : ¬ nm (k + 4) (qA 0 24) = nm (k + 2) (qA 0 2) := e0 (by decide) (by decide) (Or.inl (by omega))
  have q43 : ¬ nm (k + 4) (qA 0 24) = nm (k + 3) (qA 2 1) := e0 (by decide) (by decide) (Or.inl (by omega))
  have q45 : ¬ nm (k + 4) (qA 0 24) = nm (k + 5) (qA 0 24) := e0 (by decide) (by decide) (Or.inl (by omega))
  have q50 : ¬ nm (k + 5) (qA 0 24) = aN k := e0 (by decide) (by decide) (Or.inl (by omega))
  have q51 : ¬ nm (k + 5) (qA 0 24) = nm (k + 1) (qA 6 2) := e0 (by decide) (by decide) (Or.inl (by omega))
  have q52 : ¬ nm (k + 5) (qA 0 24) = nm (k + 2) (qA 0 2) := e0 (by decide) (by decide) (Or.inl (by omega))
  have q53 : ¬ nm (k + 5) (qA 0 24) = nm (k + 3) (qA 2 1) := e0 (by decide) (by decide) (Or.inl (by omega))
  have q54 : ¬ nm (k + 5) (qA 0 24) = nm (k + 4) (qA 0 24) := e0 (by decide) (by decide) (Or.inl (by omega))
  refine ⟨⟨⟨⟨GS_new1, by decide, by decide, by decide⟩, pA, pN, pB, pG⟩, ⟨?_, ?_, ?_, ?_, ?_⟩, ⟨?_, ?_, ?_⟩, ⟨nm (k + 1) (qA 6 2), nm (k + 2) (qA 0 2), ?_, ?_, ⟨kdA_a (by decide) (by decide), pL⟩, ⟨kdA_a (by decide) (by decide), pZ⟩, fun i hi => ⟨1001 + 5, ?_, ?_⟩, fun i hi => ?_⟩, ⟨1001 + 6, ?_, ?_⟩, fun c hc => ?_⟩, ?_⟩
  · rw [hI_sR, (nwD_old q05).1, hI_sR, (nwD_old q04).1, hI_sR, hI_sR, (nwD_old q03).1, hI_sI, if_neg (show ¬ (aN k = aN k ∧ 0 = 4) from fun z => absurd z.2 (by omega)), hI_sR, hI_sI, if_neg (show ¬ (aN k = nm (k + 2) (qA 0 2) ∧ 0 = 1) from fun z => q02 z.1), hI_sI, if_neg (show ¬ (aN k = nm (k + 2) (qA 0 2) ∧ 0 = 0) from fun z => q02 z.1), (nwD_old q02).1, hI_sR, hI_sR, hI_sR, (nwD_old q01).1, hI_sI, if_neg (show ¬ (aN k = aN k ∧ 0 = 1) from fun z => absurd z.2 (by omega)), hI_sI, if_pos ⟨rfl, rfl⟩]; rfl
  · rw [hI_sR, (nwD_old q05).1, hI_sR, (nwD_old q04).1, hI_sR, hI_sR, (nwD_old q03).1, hI_sI, if_neg (show ¬ (aN k = aN k ∧ 1 = 4) from fun z => absurd z.2 (by omega)), hI_sR, hI_sI, if_neg (show ¬ (aN k = nm (k + 2) (qA 0 2) ∧ 1 = 1) from fun z => q02 z.1), hI_sI, if_neg (show ¬ (aN k = nm (k + 2) (qA 0 2) ∧ 1 = 0) from fun z => q02 z.1), (nwD_old q02).1, hI_sR, hI_sR, hI_sR, (nwD_old q01).1, hI_sI, if_pos ⟨rfl, rfl⟩]; rfl
  · rw [hI_sR, (nwD_old q05).1, hI_sR, (nwD_old q04).1, hI_sR, hI_sR, (nwD_old q03).1, hI_sI, if_pos ⟨rfl, rfl⟩]; rfl
  · rw [hI_sR, (nwD_old q05).1, hI_sR, (nwD_old q04).1, hI_sR, hI_sR, (nwD_old q03).1, hI_sI, if_neg (show ¬ (aN k = aN k ∧ 7 = 4) from fun z => absurd z.2 (by omega)), hI_sR, hI_sI, if_neg (show ¬ (aN k = nm (k + 2) (qA 0 2) ∧ 7 = 1) from fun z => q02 z.1), hI_sI, if_neg (show ¬ (aN k = nm (k + 2) (qA 0 2) ∧ 7 = 0) from fun z => q02 z.1), (nwD_old q02).1, hI_sR, hI_sR, hI_sR, (nwD_old q01).1, hI_sI, if_neg (show ¬ (aN k = aN k ∧ 7 = 1) from fun z => absurd z.2 (by omega)), hI_sI, if_neg (show ¬ (aN k = aN k ∧ 7 = 0) from fun z => absurd z.2 (by omega))]; exact z7
  · rw [hI_sR, (nwD_old q05).1, hI_sR, (nwD_old q04).1, hI_sR, hI_sR, (nwD_old q03).1, hI_sI, if_neg (show ¬ (aN k = aN k ∧ 8 = 4) from fun z => absurd z.2 (by omega)), hI_sR, hI_sI, if_neg (show ¬ (aN k = nm (k + 2) (qA 0 2) ∧ 8 = 1) from fun z => q02 z.1), hI_sI, if_neg (show ¬ (aN k = nm (k + 2) (qA 0 2) ∧ 8 = 0) from fun z => q02 z.1), (nwD_old q02).1, hI_sR, hI_sR, hI_sR, (nwD_old q01).1, hI_sI, if_neg (show ¬ (aN k = aN k ∧ 8 = 1) from fun z => absurd z.2 (by omega)), hI_sI, if_neg (show ¬ (aN k = aN k ∧ 8 = 0) from fun z => absurd z.2 (by omega))]; exact z8
  · rw [hR_sR, if_neg (show ¬ (aN k = aN k ∧ 9 = 10) from fun z => absurd z.2 (by omega)), (nwD_old q05).2.2, hR_sR, if_pos ⟨rfl, rfl⟩]; rfl
  · rw [hR_sR, if_pos ⟨rfl, rfl⟩]; rfl
  · rw [hR_sR, if_neg (show ¬ (aN k = aN k ∧ 5 = 10) from fun z => absurd z.2 (by omega)), (nwD_old q05).2.2, hR_sR, if_neg (show ¬ (aN k = aN k ∧ 5 = 9) from fun z => absurd z.2 (by omega)), (nwD_old q04).2.2, hR_sR, if_neg (show ¬ (aN k = aN k ∧ 5 = 6) from fun z => absurd z.2 (by omega)), hR_sR, if_pos ⟨rfl, rfl⟩]; rfl
  · rw [hR_sR, if_neg (show ¬ (aN k = aN k ∧ 2 = 10) from fun z => absurd z.2 (by omega)), (nwD_old q05).2.2, hR_sR, if_neg (show ¬ (aN k = aN k ∧ 2 = 9) from fun z => absurd z.2 (by omega)), (nwD_old q04).2.2, hR_sR, if_neg (show ¬ (aN k = aN k ∧ 2 = 6) from fun z => absurd z.2 (by omega)), hR_sR, if_neg (show ¬ (aN k = aN k ∧ 2 = 5) from fun z => absurd z.2 (by omega)), (nwD_old q03).2.2, hR_sI, hR_sR, if_neg (show ¬ (aN k = aN k ∧ 2 = 3) from fun z => absurd z.2 (by omega)), hR_sI, hR_sI, (nwD_old q02).2.2, hR_sR, if_pos ⟨rfl, rfl⟩]
  · rw [hR_sR, if_neg (show ¬ (aN k = aN k ∧ 3 = 10) from fun z => absurd z.2 (by omega)), (nwD_old q05).2.2, hR_sR, if_neg (show ¬ (aN k = aN k ∧ 3 = 9) from fun z => absurd z.2 (by omega)), (nwD_old q04).2.2, hR_sR, if_neg (show ¬ (aN k = aN k ∧ 3 = 6) from fun z => absurd z.2 (by omega)), hR_sR, if_neg (show ¬ (aN k = aN k ∧ 3 = 5) from fun z => absurd z.2 (by omega)), (nwD_old q03).2.2, hR_sI, hR_sR, if_pos ⟨rfl, rfl⟩]
  · have hi : i < 2 := hi
    rcases (by omega : i = 0 ∨ i = 1) with rfl | rfl
    · rw [hR_sR, if_neg (show ¬ (nm (k + 1) (qA 6 2) = aN k ∧ 0 = 10) from fun z => q10 z.1), (nwD_old q15).2.2, hR_sR, if_neg (show ¬ (nm (k + 1) (qA 6 2) = aN k ∧ 0 = 9) from fun z => q10 z.1), (nwD_old q14).2.2, hR_sR, if_neg (show ¬ (nm (k + 1) (qA 6 2) = aN k ∧ 0 = 6) from fun z => q10 z.1), hR_sR, if_neg (show ¬ (nm (k + 1) (qA 6 2) = aN k ∧ 0 = 5) from fun z => q10 z.1), (nwD_old q13).2.2, hR_sI, hR_sR, if_neg (show ¬ (nm (k + 1) (qA 6 2) = aN k ∧ 0 = 3) from fun z => q10 z.1), hR_sI, hR_sI, (nwD_old q12).2.2, hR_sR, if_neg (show ¬ (nm (k + 1) (qA 6 2) = aN k ∧ 0 = 2) from fun z => q10 z.1), hR_sR, if_neg (show ¬ (nm (k + 1) (qA 6 2) = nm (k + 1) (qA 6 2) ∧ 0 = 1) from fun z => absurd z.2 (by omega)), hR_sR, if_pos ⟨rfl, rfl⟩]
    · rw [hR_sR, if_neg (show ¬ (nm (k + 1) (qA 6 2) = aN k ∧ 1 = 10) from fun z => q10 z.1), (nwD_old q15).2.2, hR_sR, if_neg (show ¬ (nm (k + 1) (qA 6 2) = aN k ∧ 1 = 9) from fun z => q10 z.1), (nwD_old q14).2.2, hR_sR, if_neg (show ¬ (nm (k + 1) (qA 6 2) = aN k ∧ 1 = 6) from fun z => q10 z.1), hR_sR, if_neg (show ¬ (nm (k + 1) (qA 6 2) = aN k ∧ 1 = 5) from fun z => q10 z.1), (nwD_old q13).2.2, hR_sI, hR_sR, if_neg (show ¬ (nm (k + 1) (qA 6 2) = aN k ∧ 1 = 3) from fun z => q10 z.1), hR_sI, hR_sI, (nwD_old q12).2.2, hR_sR, if_neg (show ¬ (nm (k + 1) (qA 6 2) = aN k ∧ 1 = 2) from fun z => q10 z.1), hR_sR, if_pos ⟨rfl, rfl⟩]
  · rw [lineT_new]; exact STR_c (by decide)
  · have hi : i < 2 := hi
    rcases (by omega : i = 0 ∨ i = 1) with rfl | rfl
    · rw [hI_sR, (nwD_old q25).1, hI_sR, (nwD_old q24).1, hI_sR, hI_sR, (nwD_old q23).1, hI_sI, if_neg (show ¬ (nm (k + 2) (qA 0 2) = aN k ∧ 0 = 4) from fun z => q20 z.1), hI_sR, hI_sI, if_neg (show ¬ (nm (k + 2) (qA 0 2) = nm (k + 2) (qA 0 2) ∧ 0 = 1) from fun z => absurd z.2 (by omega)), hI_sI, if_pos ⟨rfl, rfl⟩]; rfl
    · rw [hI_sR, (nwD_old q25).1, hI_sR, (nwD_old q24).1, hI_sR, hI_sR, (nwD_old q23).1, hI_sI, if_neg (show ¬ (nm (k + 2) (qA 0 2) = aN k ∧ 1 = 4) from fun z => q20 z.1), hI_sR, hI_sI, if_pos ⟨rfl, rfl⟩]; rfl
  · rw [hR_sR, if_neg (show ¬ (aN k = aN k ∧ 6 = 10) from fun z => absurd z.2 (by omega)), (nwD_old q05).2.2, hR_sR, if_neg (show ¬ (aN k = aN k ∧ 6 = 9) from fun z => absurd z.2 (by omega)), (nwD_old q04).2.2, hR_sR, if_pos ⟨rfl, rfl⟩]
  · exact STR_c (i := 6) (by decide)
  · have hc : c < 1 := hc
    have hc : c = 0 := by omega
    subst hc
    show hI _ (nm (k + 3) (qA 2 1)) 0 = _
    rw [hI_sR, (nwD_old q35).1, hI_sR, (nwD_old q34).1, hI_sR, hI_sR, nwD_row.1, bi_f (show ¬ sGn (newS 1 1) 0 from id)]
  · have nn := no
    refine ⟨⟨adn_ge, ?_⟩, fun a ha => (ex a).mpr (Or.inl (Or.inl (Or.inl (Or.inl (Or.inl ha))))), fun a ha hs => ?_⟩
    · show dl (adn (adn (adn (adn (adn (hN h) _) _) _) _) _) = _
      rw [dl_adn, dl_adn, dl_adn, dl_adn, dl_adn]
    · have hs : a ≠ aN k := hs
      have g1 : a ≠ nm (k + 1) (qA 6 2) := fun e => no 1 _ (by decide) (by decide) (e ▸ ha)
      have g2 : a ≠ nm (k + 2) (qA 0 2) := fun e => no 2 _ (by decide) (by decide) (e ▸ ha)
      have g3 : a ≠ nm (k + 3) (qA 2 1) := fun e => no 3 _ (by decide) (by decide) (e ▸ ha)
      have g4 : a ≠ nm (k + 4) (qA 0 24) := fun e => no 4 _ (by decide) (by decide) (e ▸ ha)
      have g5 : a ≠ nm (k + 5) (qA 0 24) := fun e => no 5 _ (by decide) (by decide) (e ▸ ha)
      have rhI : hI (sR (nwD (sR (nwD (sR (sR (nwD (sI (sR (sI (sI (nwD (sR (sR (sR (nwD (sI (sI h (aN k) 0 (nI 1)) (aN k) 1 (nI 1)) (nm (k + 1) (qA 6 2))) (nm (k + 1) (qA 6 2)) 0 (some (1001 + 5))) (nm (k + 1) (qA 6 2)) 1 (some (1001 + 5))) (aN k) 2 (some (nm (k + 1) (qA 6 2)))) (nm (k + 2) (qA 0 2))) (nm (k + 2) (qA 0 2)) 0 (nI 1)) (nm (k + 2) (qA 0 2)) 1 (nI 1)) (aN k) 3 (some (nm (k + 2) (qA 0 2)))) (aN k) 4 (nI 1)) (nm (k + 3) (qA 2 1))) (aN k) 5 (some (nm (k + 3) (qA 2 1)))) (aN k) 6 (some (1001 + 6))) (nm (k + 4) (qA 0 24))) (aN k) 9 (some (nm (k + 4) (qA 0 24)))) (nm (k + 5) (qA 0 24))) (aN k) 10 (some (nm (k + 5) (qA 0 24)))) a = hI h a := ((nwD_old g5).1).trans (((nwD_old g4).1).trans (((nwD_old g3).1).trans ((up2_row hs).trans ((up2_row g2).trans ((up2_row g2).trans (((nwD_old g2).1).trans (((nwD_old g1).1).trans ((up2_row hs).trans (up2_row hs)))))))))
      have rhL : hL (sR (nwD (sR (nwD (sR (sR (nwD (sI (sR (sI (sI (nwD (sR (sR (sR (nwD (sI (sI h (aN k) 0 (nI 1)) (aN k) 1 (nI 1)) (nm (k + 1) (qA 6 2))) (nm (k + 1) (qA 6 2)) 0 (some (1001 + 5))) (nm (k + 1) (qA 6 2)) 1 (some (1001 + 5))) (aN k) 2 (some (nm (k + 1) (qA 6 2)))) (nm (k + 2) (qA 0 2))) (nm (k + 2) (qA 0 2)) 0 (nI 1)) (nm (k + 2) (qA 0 2)) 1 (nI 1)) (aN k) 3 (some (nm (k + 2) (qA 0 2)))) (aN k) 4 (nI 1)) (nm (k + 3) (qA 2 1))) (aN k) 5 (some (nm (k + 3) (qA 2 1)))) (aN k) 6 (some (1001 + 6))) (nm (k + 4) (qA 0 24))) (aN k) 9 (some (nm (k + 4) (qA 0 24)))) (nm (k + 5) (qA 0 24))) (aN k) 10 (some (nm (k + 5) (qA 0 24)))) a = hL h a := ((nwD_old g5).2.1).trans (((nwD_old g4).2.1).trans (((nwD_old g3).2.1).trans (((nwD_old g2).2.1).trans (((nwD_old g1).2.1).trans (rfl)))))
      have rhR : hR (sR (nwD (sR (nwD (sR (sR (nwD (sI (sR (sI (sI (nwD (sR (sR (sR (nwD (sI (sI h (aN k) 0 (nI 1)) (aN k) 1 (nI 1)) (nm (k + 1) (qA 6 2))) (nm (k + 1) (qA 6 2)) 0 (some (1001 + 5))) (nm (k + 1) (qA 6 2)) 1 (some (1001 + 5))) (aN k) 2 (some (nm (k + 1) (qA 6 2)))) (nm (k + 2) (qA 0 2))) (nm (k + 2) (qA 0 2)) 0 (nI 1)) (nm (k + 2) (qA 0 2)) 1 (nI 1)) (aN k) 3 (some (nm (k + 2) (qA 0 2)))) (aN k) 4 (nI 1)) (nm (k + 3) (qA 2 1))) (aN k) 5 (some (nm (k + 3) (qA 2 1)))) (aN k) 6 (some (1001 + 6))) (nm (k + 4) (qA 0 24))) (aN k) 9 (some (nm (k + 4) (qA 0 24)))) (nm (k + 5) (qA 0 24))) (aN k) 10 (some (nm (k + 5) (qA 0 24)))) a = hR h a := (up2_row hs).trans (((nwD_old g5).2.2).trans ((up2_row hs).trans (((nwD_old g4).2.2).trans ((up2_row hs).trans ((up2_row hs).trans (((nwD_old g3).2.2).trans ((up2_row hs).trans (((nwD_old g2).2.2).trans ((up2_row hs).trans ((up2_row g1).trans ((up2_row g1).trans (((nwD_old g1).2.2).trans (rfl)))))))))))))
      exact ⟨rhI, rhL, rhR⟩
set_option maxHeartbeats 1500000 in
set_option maxRecDepth 100000 in
theorem x_init {d k : Nat} {h : AH} (h68 : 68 ≤ hN h) (hk : dl (hN h) = k + 1) (pa : prN (hN h) (aN k)) (z7 : hI h (aN k) 7 = 0) (z8 : hI h (aN k) 8 = 0) : AC mX6_init (d + 1) 5 53 [.ref (aN k)] h (Qu (fun h2 => LW h2 k 3 (newS 1 1) ∧ Dq (fun a => a = aN k) 5 h h2)) := by
  refine AC.of (by decide) rfl (Nat.le_of_ble_eq_true rfl) (fun X => ?_)
  show AW X mX6_init (d + 1) 5 53 0 [(0, .ref (aN k))] [] h (Qu (fun h2 => LW h2 k 3 (newS 1 1) ∧ Dq (fun a => a = aN k) 5 h h2))
  refine a_wf (fun hw => ?_)
  refine a_aload_n (pc := 0) (i := 0) dX6_init_0 rfl rfl ?_
  refine a_objInit (pc := 1) dX6_init_1 (tbi 267 (by decide +kernel)) (Nat.le_of_ble_eq_true rfl) ?_
  refine a_aload_n (pc := 4) (i := 0) dX6_init_4 rfl rfl ?_
  refine a_iconst (pc := 5) (v := nI 1) dX6_init_5 (by decide) ?_
  refine g_putI (pc := 6) (ci := 6) (k := 0) dX6_init_6 (lf_RX6_7 rfl) (by decide) (Or.inl rfl) kd_a pa rfl ?_
  refine a_aload_n (pc := 9) (i := 0) dX6_init_9 rfl rfl ?_
  refine a_iconst (pc := 10) (v := nI 1) dX6_init_10 (by decide) ?_
  refine g_putI (pc := 11) (ci := 6) (k := 1) dX6_init_11 (lf_RX6_13 rfl) (by decide) (Or.inl rfl) kd_a pa rfl ?_
  refine a_aload_n (pc := 14) (i := 0) dX6_init_14 rfl rfl ?_
  refine a_iconst (pc := 15) (v := nI 2) dX6_init_15 (by decide) ?_
  have n1 : newC (hN (sI (sI h (aN k) 0 (nI 1)) (aN k) 1 (nI 1))) (nm (k + 1) (qA 6 2)) (k + 1) (qA 6 2) := newC_0 h68 hk (by decide)
  refine d_newref (pc := 16) (t := 6) (n := 2) (kc := 4) (ks := 51) dX6_init_16 (by omega) n1 (Or.inl ⟨rfl, rfl⟩) (tbi 268 (by decide +kernel)) rfl (okc (okd_r pa) okz) (okc (okd_r pa) okz) ?_
  skip
  refine a_dup (pc := 19) dX6_init_19 rfl ?_
  refine a_iconst (pc := 20) (v := nI 0) dX6_init_20 (by decide) ?_
  refine a_ldcS (pc := 21) (i := 5) (tx := "-") dX6_init_21 (by decide) (by decide) ?_
  refine g_aastx (pc := 23) (n := 2) (j := 0) (i0 := 5) dX6_init_23 (kdA_a (by decide) (by decide)) ((prN_adn n1.1).mpr (Or.inr rfl)) rfl (by decide) (by decide) ?_
  refine a_dup (pc := 24) dX6_init_24 rfl ?_
  refine a_iconst (pc := 25) (v := nI 1) dX6_init_25 (by decide) ?_
  refine a_ldcS (pc := 26) (i := 5) (tx := "-") dX6_init_26 (by decide) (by decide) ?_
  refine g_aastx (pc := 28) (n := 2) (j := 1) (i0 := 5) dX6_init_28 (kdA_a (by decide) (by decide)) ((prN_adn n1.1).mpr (Or.inr rfl)) rfl (by decide) (by decide) ?_
  refine g_putR (pc := 29) (ci := 6) (k := 2) (b := nm (k + 1) (qA 6 2)) dX6_init_29 (lf_RX6_20 rfl) (by decide) rfl kd_a ((prN_adn n1.1).mpr (Or.inl pa)) (Or.inl ((prN_adn n1.1).mpr (Or.inr rfl))) (Or.inl rfl) ?_
  refine a_aload_n (pc := 32) (i := 0) dX6_init_32 rfl rfl ?_
  refine a_iconst (pc := 33) (v := nI 2) dX6_init_33 (by decide) ?_
  have n2 : newC (hN (sR (sR (sR (nwD (sI (sI h (aN k) 0 (nI 1)) (aN k) 1 (nI 1)) (nm (k + 1) (qA 6 2))) (nm (k + 1) (qA 6 2)) 0 (some (1001 + 5))) (nm (k + 1) (qA 6 2)) 1 (some (1001 + 5))) (aN k) 2 (some (nm (k + 1) (qA 6 2))))) (nm (k + 2) (qA 0 2)) (k + 2) (qA 0 2) := newC_0 adn_ge (by show dl (adn _ _) = _; rw [dl_adn, ← n1.2.2.1]) (by decide)
  refine d_newarr (pc := 34) (t := 0) (n := 2) (kc := 3) (ks := 49) dX6_init_34 (by omega) n2 rfl (by decide) aC_in.1 rfl (okc (okd_r ((prN_adn n1.1).mpr (Or.inl pa))) okz) (okc (okd_r ((prN_adn n1.1).mpr (Or.inl pa))) okz) ?_
  skip
  refine a_dup (pc := 36) dX6_init_36 rfl ?_
  refine a_iconst (pc := 37) (v := nI 0) dX6_init_37 (by decide) ?_
  refine a_iconst (pc := 38) (v := nI 1) dX6_init_38 (by decide) ?_
  refine g_iast (pc := 39) (j := 0) dX6_init_39 (kdA_a (by decide) (by decide)) ((prN_adn n2.1).mpr (Or.inr rfl)) rfl (by omega) ?_
  refine a_dup (pc := 40) dX6_init_40 rfl ?_
  refine a_iconst (pc := 41) (v := nI 1) dX6_init_41 (by decide) ?_
  refine a_iconst (pc := 42) (v := nI 1) dX6_init_42 (by decide) ?_
  refine g_iast (pc := 43) (j := 1) dX6_init_43 (kdA_a (by decide) (by decide)) ((prN_adn n2.1).mpr (Or.inr rfl)) rfl (by omega) ?_
  refine g_putR (pc := 44) (ci := 6) (k := 3) (b := nm (k + 2) (qA 0 2)) dX6_init_44 (lf_RX6_24 rfl) (by decide) rfl kd_a ((prN_adn n2.1).mpr (Or.inl ((prN_adn n1.1).mpr (Or.inl pa)))) (Or.inl ((prN_adn n2.1).mpr (Or.inr rfl))) (Or.inl rfl) ?_
  refine a_aload_n (pc := 47) (i := 0) dX6_init_47 rfl rfl ?_
  refine a_iconst (pc := 48) (v := nI 1) dX6_init_48 (by decide) ?_
  refine g_putI (pc := 49) (ci := 6) (k := 4) dX6_init_49 (lf_RX6_28 rfl) (by decide) (Or.inl rfl) kd_a ((prN_adn n2.1).mpr (Or.inl ((prN_adn n1.1).mpr (Or.inl pa)))) rfl ?_
  refine a_aload_n (pc := 52) (i := 0) dX6_init_52 rfl rfl ?_
  refine a_iconst (pc := 53) (v := nI 1) dX6_init_53 (by decide) ?_
  have n3 : newC (hN (sI (sR (sI (sI (nwD (sR (sR (sR (nwD (sI (sI h (aN k) 0 (nI 1)) (aN k) 1 (nI 1)) (nm (k + 1) (qA 6 2))) (nm (k + 1) (qA 6 2)) 0 (some (1001 + 5))) (nm (k + 1) (qA 6 2)) 1 (some (1001 + 5))) (aN k) 2 (some (nm (k + 1) (qA 6 2)))) (nm (k + 2) (qA 0 2))) (nm (k + 2) (qA 0 2)) 0 (nI 1)) (nm (k + 2) (qA 0 2)) 1 (nI 1)) (aN k) 3 (some (nm (k + 2) (qA 0 2)))) (aN k) 4 (nI 1))) (nm (k + 3) (qA 2 1)) (k + 3) (qA 2 1) := newC_0 adn_ge (by show dl (adn _ _) = _; rw [dl_adn, ← n2.2.2.1]) (by decide)
  refine d_newarr (pc := 54) (t := 2) (n := 1) (kc := 2) (ks := 48) dX6_init_54 (by omega) n3 rfl (by decide) aC_in.2.2.1 rfl (okc (okd_r ((prN_adn n2.1).mpr (Or.inl ((prN_adn n1.1).mpr (Or.inl pa))))) okz) (okc (okd_r ((prN_adn n2.1).mpr (Or.inl ((prN_adn n1.1).mpr (Or.inl pa))))) okz) ?_
  skip
  refine g_putR (pc := 56) (ci := 6) (k := 5) (b := nm (k + 3) (qA 2 1)) dX6_init_56 (lf_RX6_31 rfl) (by decide) rfl kd_a ((prN_adn n3.1).mpr (Or.inl ((prN_adn n2.1).mpr (Or.inl ((prN_adn n1.1).mpr (Or.inl pa)))))) (Or.inl ((prN_adn n3.1).mpr (Or.inr rfl))) (Or.inl rfl) ?_
  refine a_aload_n (pc := 59) (i := 0) dX6_init_59 rfl rfl ?_
  refine a_ldcS (pc := 60) (i := 6) (tx := "") dX6_init_60 (by decide) (by decide) ?_
  refine g_putR (pc := 62) (ci := 6) (k := 6) (b := 1001 + 6) dX6_init_62 (lf_RX6_37 rfl) (by decide) rfl kd_a ((prN_adn n3.1).mpr (Or.inl ((prN_adn n2.1).mpr (Or.inl ((prN_adn n1.1).mpr (Or.inl pa)))))) (Or.inr (by unfold ext; omega)) (Or.inl rfl) ?_
  refine a_aload_n (pc := 65) (i := 0) dX6_init_65 rfl rfl ?_
  refine a_bipush (pc := 66) (v := nI 24) dX6_init_66 (by decide) ?_
  have n4 : newC (hN (sR (sR (nwD (sI (sR (sI (sI (nwD (sR (sR (sR (nwD (sI (sI h (aN k) 0 (nI 1)) (aN k) 1 (nI 1)) (nm (k + 1) (qA 6 2))) (nm (k + 1) (qA 6 2)) 0 (some (1001 + 5))) (nm (k + 1) (qA 6 2)) 1 (some (1001 + 5))) (aN k) 2 (some (nm (k + 1) (qA 6 2)))) (nm (k + 2) (qA 0 2))) (nm (k + 2) (qA 0 2)) 0 (nI 1)) (nm (k + 2) (qA 0 2)) 1 (nI 1)) (aN k) 3 (some (nm (k + 2) (qA 0 2)))) (aN k) 4 (nI 1)) (nm (k + 3) (qA 2 1))) (aN k) 5 (some (nm (k + 3) (qA 2 1)))) (aN k) 6 (some (1001 + 6)))) (nm (k + 4) (qA 0 24)) (k + 4) (qA 0 24) := newC_0 adn_ge (by show dl (adn _ _) = _; rw [dl_adn, ← n3.2.2.1]) (by decide)
  refine d_newarr (pc := 68) (t := 0) (n := 24) (kc := 1) (ks := 24) dX6_init_68 (by omega) n4 rfl (by decide) aC_in.1 rfl (okc (okd_r ((prN_adn n3.1).mpr (Or.inl ((prN_adn n2.1).mpr (Or.inl ((prN_adn n1.1).mpr (Or.inl pa))))))) okz) (okc (okd_r ((prN_adn n3.1).mpr (Or.inl ((prN_adn n2.1).mpr (Or.inl ((prN_adn n1.1).mpr (Or.inl pa))))))) okz) ?_
  skip
  refine g_putR (pc := 70) (ci := 6) (k := 9) (b := nm (k + 4) (qA 0 24)) dX6_init_70 (lf_RX6_41 rfl) (by decide) rfl kd_a ((prN_adn n4.1).mpr (Or.inl ((prN_adn n3.1).mpr (Or.inl ((prN_adn n2.1).mpr (Or.inl ((prN_adn n1.1).mpr (Or.inl pa)))))))) (Or.inl ((prN_adn n4.1).mpr (Or.inr rfl))) (Or.inr ⟨rfl, rfl, rfl, lfm_RX6_41 rfl⟩) ?_
  refine a_aload_n (pc := 73) (i := 0) dX6_init_73 rfl rfl ?_
  refine a_bipush (pc := 74) (v := nI 24) dX6_init_74 (by decide) ?_
  have n5 : newC (hN (sR (nwD (sR (sR (nwD (sI (sR (sI (sI (nwD (sR (sR (sR (nwD (sI (sI h (aN k) 0 (nI 1)) (aN k) 1 (nI 1)) (nm (k + 1) (qA 6 2))) (nm (k + 1) (qA 6 2)) 0 (some (1001 + 5))) (nm (k + 1) (qA 6 2)) 1 (some (1001 + 5))) (aN k) 2 (some (nm (k + 1) (qA 6 2)))) (nm (k + 2) (qA 0 2))) (nm (k + 2) (qA 0 2)) 0 (nI 1)) (nm (k + 2) (qA 0 2)) 1 (nI 1)) (aN k) 3 (some (nm (k + 2) (qA 0 2)))) (aN k) 4 (nI 1)) (nm (k + 3) (qA 2 1))) (aN k) 5 (some (nm (k + 3) (qA 2 1)))) (aN k) 6 (some (1001 + 6))) (nm (k + 4) (qA 0 24))) (aN k) 9 (some (nm (k + 4) (qA 0 24))))) (nm (k + 5) (qA 0 24)) (k + 5) (qA 0 24) := newC_0 adn_ge (by show dl (adn _ _) = _; rw [dl_adn, ← n4.2.2.1]) (by decide)
  refine d_newarr (pc := 76) (t := 0) (n := 24) (kc := 0) (ks := 0) dX6_init_76 (by omega) n5 rfl (by decide) aC_in.1 rfl (okc (okd_r ((prN_adn n4.1).mpr (Or.inl ((prN_adn n3.1).mpr (Or.inl ((prN_adn n2.1).mpr (Or.inl ((prN_adn n1.1).mpr (Or.inl pa))))))))) okz) (okc (okd_r ((prN_adn n4.1).mpr (Or.inl ((prN_adn n3.1).mpr (Or.inl ((prN_adn n2.1).mpr (Or.inl ((prN_adn n1.1).mpr (Or.inl pa))))))))) okz) ?_
  skip
  refine g_putR (pc := 78) (ci := 6) (k := 10) (b := nm (k + 5) (qA 0 24)) dX6_init_78 (lf_RX6_44 rfl) (by decide) rfl kd_a ((prN_adn n5.1).mpr (Or.inl ((prN_adn n4.1).mpr (Or.inl ((prN_adn n3.1).mpr (Or.inl ((prN_adn n2.1).mpr (Or.inl ((prN_adn n1.1).mpr (Or.inl pa)))))))))) (Or.inl ((prN_adn n5.1).mpr (Or.inr rfl))) (Or.inr ⟨rfl, rfl, rfl, lfm_RX6_44 rfl⟩) ?_
  exact a_return (pc := 81) dX6_init_81 rfl (⟨rfl, INI_LW h68 hk pa z7 z8 hw⟩)
