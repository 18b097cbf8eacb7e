/-! the parser on a text: one number, one line, a semicolon -/
theorem pSp_run {n a c : Nat} {Y : Nat → Int32} {e : Int32 × Int32} (ha : a + c ≤ n) (h1 : ∀ j, j < c → Y (a + j) = nI 32) (h2 : a + c = n ∨ Y (a + c) ≠ nI 32) : pSp n Y (a, e) = (a + c, e) := by
  show (skp (fun z => z = nI 32) Y (n - a) a, e) = _
  rw [skp_run (c := c) h1 (by
    rcases h2 with z | z
    · exact Or.inl (by omega)
    · rcases Nat.lt_or_ge c (n - a) with y | y
      · exact Or.inr ⟨y, z⟩
      · exact Or.inl (by omega))]
theorem numF_one {Y : Nat → Int32} {m a d : Nat} (hd : d ≤ 9) (hY : Y a = nI (48 + d)) (h : m = 0 ∨ Y (a + 1) < nI 48 ∨ nI 57 < Y (a + 1)) : numF Y (m + 1) a 0 = (a + 1, d) := by
  show cif (¬ Y a < nI 48 ∧ ¬ nI 57 < Y a) (numF Y m (a + 1) (min 1000 (0 * 10 + i2n (Y a) - 48))) (a, 0) = _
  rw [hY, cif_t ⟨fun z => by have := (nI_ltI (by omega) (by omega)).mp z; omega, fun z => by have := (nI_ltI (by omega) (by omega)).mp z; omega⟩, i2n_nI (by omega), show min 1000 (0 * 10 + (48 + d) - 48) = d by omega]
  cases m with
  | zero => rfl
  | succ m =>
    show cif (¬ Y (a + 1) < nI 48 ∧ ¬ nI 57 < Y (a + 1)) _ (a + 1, d) = _
    rw [cif_f (fun z => (h.resolve_left (by omega)).elim z.1 z.2)]
theorem dig_no {c : Nat} (h : c < 48 ∨ 57 < c) (hc : c < 128) : nI c < nI 48 ∨ nI 57 < nI c := by
  rcases h with z | z
  · exact Or.inl ((nI_ltI (by omega) (by omega)).mpr z)
  · exact Or.inr ((nI_ltI (by omega) (by omega)).mpr z)
/-- a space and a digit -/
theorem pN_one {n a d most : Nat} {Y : Nat → Int32} {e : Int32 × Int32} (ha : a + 2 ≤ n) (h0 : Y a = nI 32) (hd : 1 ≤ d ∧ d ≤ most ∧ most ≤ 9) (h1 : Y (a + 1) = nI (48 + d)) (h2 : a + 2 = n ∨ ∃ c, c < 128 ∧ (c < 48 ∨ 57 < c) ∧ Y (a + 2) = nI c) : pN n Y most (a, e) = (a + 2, e) ∧ (pNn n Y (a, e)).2 = d := by
  have hs : pSp n Y (a, e) = (a + 1, e) := pSp_run (c := 1) (by omega) (fun j hj => by rw [show a + j = a by omega]; exact h0) (Or.inr (by
    rw [h1]
    intro z
    have := (nI_eq (a := 48 + d) (b := 32) (by omega) (by omega)).mp z
    omega))
  have hn : pNn n Y (a, e) = (a + 2, d) := by
    unfold pNn
    rw [hs]
    show numF Y (n - (a + 1)) (a + 1) 0 = _
    rw [show n - (a + 1) = (n - (a + 2)) + 1 by omega]
    exact numF_one (by omega) h1 (by
      rcases h2 with z | ⟨c, c1, c2, c3⟩
      · exact Or.inl (by omega)
      · refine Or.inr ?_
        rw [show a + 1 + 1 = a + 2 by omega, c3]
        exact dig_no c2 c1)
  refine ⟨?_, by rw [hn]⟩
  unfold pN
  rw [hn, hs, cif_f (show ¬ a + 2 = a + 1 by omega), cif_f (show ¬ (d < 1 ∨ most < d) by omega)]
