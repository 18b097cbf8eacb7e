/-! the parser on a text: a line, a word, a semicolon -/
theorem isLt_no {c : Nat} (h : c < 97 ∨ 122 < c) (hc : c < 128) : ¬ isLt (nI c) := by
  rintro ⟨h1, h2⟩
  rcases h with z | z
  · exact h1 ((nI_ltI (by omega) (by omega)).mpr z)
  · exact h2 ((nI_ltI (by omega) (by omega)).mpr z)
theorem isLn_yes {c : Nat} (h : c = 45 ∨ (97 ≤ c ∧ c ≤ 122)) : isLn (nI c) := by
  rcases h with rfl | z
  · exact Or.inr rfl
  · exact Or.inl (isLt_nc z)
theorem isLn_no {c : Nat} (h : (c < 97 ∨ 122 < c) ∧ c ≠ 45) (hc : c < 128) : ¬ isLn (nI c) := by
  rintro (z | z)
  · exact isLt_no h.1 hc z
  · have := (nI_eq (a := c) (b := 45) (by omega) (by omega)).mp z
    exact h.2 this
/-- a space and a line of w signs -/
theorem pL_one {n a w : Nat} {Y : Nat → Int32} {e : Int32 × Int32} (hw : 1 ≤ w) (ha : a + 1 + w ≤ n) (h0 : Y a = nI 32) (h1 : ∀ j, j < w → ∃ c, (c = 45 ∨ (97 ≤ c ∧ c ≤ 122)) ∧ Y (a + 1 + j) = nI c) (h2 : a + 1 + w = n ∨ ∃ c, c < 128 ∧ ((c < 97 ∨ 122 < c) ∧ c ≠ 45) ∧ Y (a + 1 + w) = nI c) : pL n Y w (a, e) = (a + 1 + w, e) ∧ pSp n Y (a, e) = (a + 1, e) := by
  have hs : pSp n Y (a, e) = (a + 1, e) := pSp_run (c := 1) (by omega) (fun j hj => by rw [show a + j = a by omega]; exact h0) (Or.inr (by
    obtain ⟨c, hc, e2⟩ := h1 0 (by omega)
    rw [show a + 1 = a + 1 + 0 by omega, e2]
    intro z
    have := (nI_eq (a := c) (b := 32) (by omega) (by omega)).mp z
    omega))
  have hb : pLb n Y (a, e) = a + 1 + w := by
    unfold pLb
    rw [hs]
    refine skp_run (fun j hj => ?_) ?_
    · obtain ⟨c, hc, e2⟩ := h1 j hj
      show isLn (Y (a + 1 + j))
      rw [e2]
      exact isLn_yes hc
    · show w = n - (a + 1) ∨ _
      rcases h2 with z | ⟨c, c1, c2, c3⟩
      · exact Or.inl (by omega)
      · rcases Nat.lt_or_ge w (n - (a + 1)) with y | y
        · refine Or.inr ⟨y, ?_⟩
          show ¬ isLn (Y (a + 1 + w))
          rw [c3]
          exact isLn_no c2 c1
        · exact Or.inl (by omega)
  refine ⟨?_, hs⟩
  unfold pL
  rw [hb, hs, cif_f (show ¬ a + 1 + w = a + 1 by omega), cif_t (show a + 1 + w - (a + 1) = w by omega)]
/-- c letters -/
theorem pW_run {n a c : Nat} {Y : Nat → Int32} {e : Int32 × Int32} (ha : a + c ≤ n) (h1 : ∀ j, j < c → isLt (Y (a + j))) (h2 : a + c = n ∨ ¬ isLt (Y (a + c))) : pW n Y (a, e) = (a + c, e) := by
  show (skp isLt Y (n - a) a, e) = _
  rw [skp_run (c := c) h1 (by
    rcases h2 with z | z
    · exact Or.inl (by omega)
    · rcases Nat.lt_or_ge c (n - a) with y | y
      · exact Or.inr ⟨y, z⟩
      · exact Or.inl (by omega))]
/-- c spaces and a semicolon -/
theorem pSc_one {n a c : Nat} {Y : Nat → Int32} {e : Int32 × Int32} (ha : a + c < n) (h1 : ∀ j, j < c → Y (a + j) = nI 32) (h2 : Y (a + c) = nI 59) : pSc n Y (a, e) = (a + c + 1, e) := by
  have hs : pSp n Y (a, e) = (a + c, e) := pSp_run (by omega) h1 (Or.inr (by rw [h2]; decide))
  unfold pSc
  rw [hs, cif_t ⟨ha, h2⟩]
