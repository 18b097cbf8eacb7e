/-! the parser on a text: single steps -/
theorem skp_run {P : Int32 → Prop} {Y : Nat → Int32} : ∀ {c m a : Nat}, (∀ j, j < c → P (Y (a + j))) → (c = m ∨ (c < m ∧ ¬ P (Y (a + c)))) → skp P Y m a = a + c
  | 0, 0, a, _, _ => rfl
  | 0, m + 1, a, _, h => by
    have h2 : ¬ P (Y a) := (h.resolve_left (by omega)).2
    show cif (P (Y a)) _ a = a
    rw [cif_f h2]
  | c + 1, 0, a, _, h => absurd h (by omega)
  | c + 1, m + 1, a, h1, h => by
    have h2 : P (Y a) := h1 0 (by omega)
    show cif (P (Y a)) (skp P Y m (a + 1)) a = a + (c + 1)
    rw [cif_t h2, skp_run (c := c) (fun j hj => by have := h1 (j + 1) (by omega); rw [show a + 1 + j = a + (j + 1) by omega]; exact this) (h.imp (fun z => by omega) (fun z => ⟨by omega, by rw [show a + 1 + c = a + (c + 1) by omega]; exact z.2⟩))]
    omega
