/-! the parser on the law's text: front and back -/
/-- a block of lines: k lines of w signs from b on, a space before each; the signs are g -/
def LNa (Y : Nat → Int32) (b w k : Nat) (g : Nat → Nat → Nat) : Prop := (∀ r, r < k → Y (b + r * (w + 1)) = nI 32) ∧ ∀ r j, r < k → j < w → (g r j = 45 ∨ (97 ≤ g r j ∧ g r j ≤ 122)) ∧ Y (b + r * (w + 1) + 1 + j) = nI (g r j)
theorem lines_at {n b w k : Nat} {Y : Nat → Int32} {e : Int32 × Int32} {g : Nat → Nat → Nat} (hw : 1 ≤ w) (h : LNa Y b w k g) (hn : b + k * (w + 1) ≤ n) (h2 : b + k * (w + 1) = n ∨ ∃ c, c < 128 ∧ ((c < 97 ∨ 122 < c) ∧ c ≠ 45) ∧ Y (b + k * (w + 1)) = nI c) : pLi n Y w k (b, e) = (b + k * (w + 1), e) ∧ ∀ r c, r < k → c < w → lnv n Y w (b, e) r c = ltv (nI (g r c)) := by
  obtain ⟨i1, i2⟩ := pLi_run (n := n) (a := b) (e := e) hw k hn h.1 (fun r j hr hj => ⟨g r j, h.2 r j hr hj⟩) h2
  refine ⟨i1, fun r c hr hc => ?_⟩
  unfold lnv
  rw [i2 r hr]
  show ltv (Y (b + r * (w + 1) + 1 + c)) = _
  rw [(h.2 r c hr hc).2]
/-- a letter's number; -1 for the dash -/
theorem ltv_n {c : Nat} (h : c = 45 ∨ (97 ≤ c ∧ c ≤ 122)) : ltv (nI c) = if c = 45 then -1 else nI (c - 97) := by
  have key : ∀ c : Fin 128, 97 ≤ c.1 → nI c.1 - nI 97 = nI (c.1 - 97) := by decide +kernel
  unfold ltv
  rcases h with rfl | z
  · rw [cif_f (isLt_no (Or.inl (by omega)) (by omega)), if_pos rfl]
  · rw [cif_t (isLt_nc z), if_neg (by omega)]
    exact key ⟨c, by omega⟩ z.1
