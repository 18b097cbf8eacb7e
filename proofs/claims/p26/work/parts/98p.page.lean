/-! the parser on a text: page -/
theorem nI_ne32 {c : Nat} (h : c ≠ 32) (hc : c < 128) : nI c ≠ nI 32 := fun z => h ((nI_eq (a := c) (b := 32) (by omega) (by omega)).mp z)
theorem page_run {n W H : Nat} {Y : Nat → Int32} {e : Int32 × Int32} (hn : 9 ≤ n) (hW : 1 ≤ W ∧ W ≤ 8) (hH : 1 ≤ H ∧ H ≤ 6) (hp : ∀ j, j < 4 → Y j = zC 0 j) (h4 : Y 4 = nI 32) (h5 : Y 5 = nI (48 + W)) (h6 : Y 6 = nI 32) (h7 : Y 7 = nI (48 + H)) (h8 : Y 8 = nI 59) : pPage n Y (0, e) = (9, e) ∧ pPw n Y (0, e) = W ∧ pPh n Y (0, e) = H := by
  have hz : ∀ j : Fin 4, isLt (zC 0 j.1) ∧ zC 0 j.1 ≠ nI 32 := by
    have k1 : ∀ j : Fin 4, (¬ zC 0 j.1 < nI 97 ∧ ¬ nI 122 < zC 0 j.1) ∧ zC 0 j.1 ≠ nI 32 := by decide +kernel
    exact k1
  have s0 : pSp n Y (0, e) = (0, e) := pSp_run (c := 0) (by omega) (fun j hj => absurd hj (Nat.not_lt_zero j)) (Or.inr (by show Y 0 ≠ _; rw [hp 0 (by omega)]; exact (hz 0).2))
  have w0 : pW n Y (0, e) = (4, e) := pW_run (c := 4) (by omega) (fun j hj => by rw [Nat.zero_add, hp j hj]; exact (hz ⟨j, hj⟩).1) (Or.inr (by show ¬ isLt (Y 4); rw [h4]; exact isLt_no (Or.inl (by omega)) (by omega)))
  have g3 : pPg3 n Y (0, e) = (4, e) := by
    unfold pPg3
    rw [s0, w0, cif_t ⟨rfl, fun j hj => by rw [Nat.zero_add]; exact hp j hj⟩]
  obtain ⟨a1, a2⟩ := pN_one (n := n) (a := 4) (d := W) (most := 8) (Y := Y) (e := e) (by omega) h4 ⟨hW.1, hW.2, by omega⟩ h5 (Or.inr ⟨32, by omega, by omega, h6⟩)
  obtain ⟨b1, b2⟩ := pN_one (n := n) (a := 6) (d := H) (most := 6) (Y := Y) (e := e) (by omega) h6 ⟨hH.1, hH.2, by omega⟩ h7 (Or.inr ⟨59, by omega, by omega, h8⟩)
  refine ⟨?_, ?_, ?_⟩
  · unfold pPage
    rw [g3, a1, b1]
    exact pSc_one (c := 0) (by omega) (fun j hj => absurd hj (Nat.not_lt_zero j)) h8
  · unfold pPw
    rw [g3, a2]
  · unfold pPh
    rw [g3, a1, b2]
