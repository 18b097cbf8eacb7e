/-! the parser on a text: statements -/
/-- the word i stands at a, a space behind it -/
def WDa (Y : Nat → Int32) (i a : Nat) : Prop := (∀ j, j < zLen.getD i 0 → Y (a + j) = zC i j) ∧ Y (a + zLen.getD i 0) = nI 32
theorem wd_at {n a i : Nat} {Y : Nat → Int32} {e : Int32 × Int32} (hi : i < 5) (hn : a + zLen.getD i 0 < n) (h : WDa Y i a) : pW n Y (a, e) = (a + zLen.getD i 0, e) ∧ wd i Y a (a + zLen.getD i 0) := by
  have key : ∀ (i : Fin 5) (j : Fin 6), j.1 < zLen.getD i.1 0 → ¬ zC i.1 j.1 < nI 97 ∧ ¬ nI 122 < zC i.1 j.1 := by decide +kernel
  have k6 : ∀ (i : Fin 5), zLen.getD i.1 0 < 6 := by decide +kernel
  have h6 : zLen.getD i 0 < 6 := k6 ⟨i, hi⟩
  refine ⟨pW_run (by omega) (fun j hj => ?_) (Or.inr ?_), rfl, h.1⟩
  · rw [h.1 j hj]
    exact key ⟨i, hi⟩ ⟨j, by omega⟩ hj
  · rw [h.2]
    exact isLt_no (Or.inl (by omega)) (by omega)
/-- another word doesn't stand there -/
theorem wd_not {a i i2 : Nat} {Y : Nat → Int32} (hi : i < 5) (h2 : i2 < 5) (hne : i2 ≠ i) (h : WDa Y i a) : ¬ wd i2 Y a (a + zLen.getD i 0) := by
  have key : ∀ (i i2 : Fin 5), i2 ≠ i → zLen.getD i2.1 0 = zLen.getD i.1 0 → zC i2.1 0 ≠ zC i.1 0 := by decide +kernel
  have pos : ∀ (i : Fin 5), 0 < zLen.getD i.1 0 := by decide +kernel
  rintro ⟨e, hc⟩
  have e : zLen.getD i2 0 = zLen.getD i 0 := by omega
  exact key ⟨i, hi⟩ ⟨i2, h2⟩ (fun z => hne (congrArg Fin.val z)) e (by rw [← hc 0 (pos ⟨i2, h2⟩), ← h.1 0 (pos ⟨i, hi⟩)])
theorem st_1 {n a : Nat} {Y : Nat → Int32} {e : Int32 × Int32} {fl : Nat → Nat} {s : SH} (hn : a + 5 < n) (h : WDa Y 1 a) (hf : fl 0 = 0) : pStA n Y ((a, e), fl, s) = (pLi n Y (sW s) (sH s) (a + 5, e), flS fl 0, dSide s 0 (lnv n Y (sW s) (a + 5, e))) := by
  obtain ⟨w1, w2⟩ := wd_at (e := e) (by omega) hn h
  unfold pStA
  rw [w1, cif_t ⟨w2, hf⟩]
  rfl
theorem st_2 {n a : Nat} {Y : Nat → Int32} {e : Int32 × Int32} {fl : Nat → Nat} {s : SH} (hn : a + 4 < n) (h : WDa Y 2 a) (hf : fl 1 = 0) : pStA n Y ((a, e), fl, s) = (pLi n Y (sW s) (sH s) (a + 4, e), flS fl 1, dSide s 1 (lnv n Y (sW s) (a + 4, e))) := by
  obtain ⟨w1, w2⟩ := wd_at (e := e) (by omega) hn h
  have n1 := wd_not (i2 := 1) (by omega) (by omega) (by omega) h
  unfold pStA
  rw [w1, cif_f (fun z => n1 z.1), cif_t ⟨w2, hf⟩]
  rfl
theorem st_3 {n a : Nat} {Y : Nat → Int32} {e : Int32 × Int32} {fl : Nat → Nat} {s : SH} (hn : a + 5 < n) (h : WDa Y 3 a) (hf : fl 2 = 0) : pStA n Y ((a, e), fl, s) = (pNi n Y (sH s + sH s) (a + 5, e), flS fl 2, dSizes s (nbv n Y (a + 5, e))) := by
  obtain ⟨w1, w2⟩ := wd_at (e := e) (by omega) hn h
  have n1 := wd_not (i2 := 1) (by omega) (by omega) (by omega) h
  have n2 := wd_not (i2 := 2) (by omega) (by omega) (by omega) h
  unfold pStA
  rw [w1, cif_f (fun z => n1 z.1), cif_f (fun z => n2 z.1), cif_t ⟨w2, hf⟩]
  rfl
theorem st_4 {n a : Nat} {Y : Nat → Int32} {e : Int32 × Int32} {fl : Nat → Nat} {s : SH} (hn : a + 5 < n) (h : WDa Y 4 a) (hf : fl 3 = 0) : pStA n Y ((a, e), fl, s) = (pN n Y 9 (a + 5, e), flS fl 3, dLeast s (pNn n Y (a + 5, e)).2) := by
  obtain ⟨w1, w2⟩ := wd_at (e := e) (by omega) hn h
  have n1 := wd_not (i2 := 1) (by omega) (by omega) (by omega) h
  have n2 := wd_not (i2 := 2) (by omega) (by omega) (by omega) h
  have n3 := wd_not (i2 := 3) (by omega) (by omega) (by omega) h
  unfold pStA
  rw [w1, cif_f (fun z => n1 z.1), cif_f (fun z => n2 z.1), cif_f (fun z => n3 z.1), cif_t ⟨w2, hf⟩]
  rfl
