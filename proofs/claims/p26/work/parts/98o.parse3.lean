/-! the parser on a text: several lines, several numbers -/
/-- h lines of w signs, a space before each -/
theorem pLi_run {n a w : Nat} {Y : Nat → Int32} {e : Int32 × Int32} (hw : 1 ≤ w) : ∀ (k : Nat), a + k * (w + 1) ≤ n → (∀ r, r < k → Y (a + r * (w + 1)) = nI 32) → (∀ r j, r < k → j < w → ∃ c, (c = 45 ∨ (97 ≤ c ∧ c ≤ 122)) ∧ Y (a + r * (w + 1) + 1 + j) = nI c) → (a + k * (w + 1) = n ∨ ∃ c, c < 128 ∧ ((c < 97 ∨ 122 < c) ∧ c ≠ 45) ∧ Y (a + k * (w + 1)) = nI c) → pLi n Y w k (a, e) = (a + k * (w + 1), e) ∧ ∀ r, r < k → pSp n Y (pLi n Y w r (a, e)) = (a + r * (w + 1) + 1, e)
  | 0, _, _, _, _ => ⟨by rw [Nat.zero_mul]; rfl, fun r hr => absurd hr (Nat.not_lt_zero r)⟩
  | k + 1, h1, h2, h3, h4 => by
    have e1 : (k + 1) * (w + 1) = k * (w + 1) + (w + 1) := Nat.succ_mul k (w + 1)
    rw [e1] at h1 h4
    obtain ⟨i1, i2⟩ := pLi_run (n := n) (a := a) (e := e) hw k (by omega) (fun r hr => h2 r (by omega)) (fun r j hr hj => h3 r j (by omega) hj) (Or.inr ⟨32, by omega, by omega, h2 k (by omega)⟩)
    obtain ⟨o1, o2⟩ := pL_one (n := n) (a := a + k * (w + 1)) (w := w) (Y := Y) (e := e) hw (by omega) (h2 k (by omega)) (fun j hj => h3 k j (by omega) hj) (by rw [show a + k * (w + 1) + 1 + w = a + (k * (w + 1) + (w + 1)) by omega]; exact h4)
    refine ⟨?_, fun r hr => ?_⟩
    · show pL n Y w (pLi n Y w k (a, e)) = _
      rw [i1, o1, e1]
      show (a + k * (w + 1) + 1 + w, e) = (a + (k * (w + 1) + (w + 1)), e)
      rw [show a + k * (w + 1) + 1 + w = a + (k * (w + 1) + (w + 1)) by omega]
    · rcases (by omega : r < k ∨ r = k) with z | z
      · exact i2 r z
      · rw [z, i1, o2]
/-- k numbers of one digit, a space before each -/
theorem pNi_run {n a : Nat} {Y : Nat → Int32} {e : Int32 × Int32} {f : Nat → Nat} : ∀ (k : Nat), a + 2 * k ≤ n → (∀ r, r < k → (1 ≤ f r ∧ f r ≤ 9) ∧ Y (a + 2 * r) = nI 32 ∧ Y (a + 2 * r + 1) = nI (48 + f r)) → (a + 2 * k = n ∨ ∃ c, c < 128 ∧ (c < 48 ∨ 57 < c) ∧ Y (a + 2 * k) = nI c) → pNi n Y k (a, e) = (a + 2 * k, e) ∧ ∀ r, r < k → nbv n Y (a, e) r = f r
  | 0, _, _, _ => ⟨rfl, fun r hr => absurd hr (Nat.not_lt_zero r)⟩
  | k + 1, h1, h2, h3 => by
    have hk := h2 k (by omega)
    obtain ⟨i1, i2⟩ := pNi_run (n := n) (a := a) (e := e) (f := f) k (by omega) (fun r hr => h2 r (by omega)) (Or.inr ⟨32, by omega, by omega, hk.2.1⟩)
    obtain ⟨o1, o2⟩ := pN_one (n := n) (a := a + 2 * k) (d := f k) (most := 9) (Y := Y) (e := e) (by omega) hk.2.1 ⟨hk.1.1, hk.1.2, by omega⟩ hk.2.2 (by rw [show a + 2 * k + 2 = a + 2 * (k + 1) by omega]; exact h3)
    refine ⟨?_, fun r hr => ?_⟩
    · show pN n Y 9 (pNi n Y k (a, e)) = _
      rw [i1, o1]
      show (a + 2 * k + 2, e) = (a + 2 * (k + 1), e)
      rw [show a + 2 * k + 2 = a + 2 * (k + 1) by omega]
    · rcases (by omega : r < k ∨ r = k) with z | z
      · exact i2 r z
      · rw [z]
        show (pNn n Y (pNi n Y k (a, e))).2 = _
        rw [i1, o2]
