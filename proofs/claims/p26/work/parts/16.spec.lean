/-! the state that both sides hold, as numbers; how the class holds it -/
noncomputable def cif {α : Sort _} (P : Prop) (a b : α) : α := @ite α P (Classical.propDecidable P) a b
theorem cif_t {α : Sort _} {P : Prop} {a b : α} (h : P) : cif P a b = a := if_pos h
theorem cif_f {α : Sort _} {P : Prop} {a b : α} (h : ¬ P) : cif P a b = b := if_neg h
abbrev SH : Type := (Nat × Nat × Nat) × (Nat → Nat → Int32) × (Nat → Nat → Nat) × (Nat → Prop) × (Nat × (Nat → Nat)) × (Nat × Nat)
def sW (d : SH) : Nat := d.1.1
def sH (d : SH) : Nat := d.1.2.1
def sS (d : SH) : Nat := d.1.2.2
def sLt (d : SH) : Nat → Nat → Int32 := d.2.1
def sSz (d : SH) : Nat → Nat → Nat := d.2.2.1
def sGn (d : SH) : Nat → Prop := d.2.2.2.1
def sLen (d : SH) : Nat := d.2.2.2.2.1.1
def sMs (d : SH) : Nat → Nat := d.2.2.2.2.1.2
def sCu (d : SH) : Nat := d.2.2.2.2.2.1
def sTk (d : SH) : Nat := d.2.2.2.2.2.2
def sCells (d : SH) : Nat := sW d * sH d
/-- what every state keeps -/
def GS (d : SH) : Prop := (1 ≤ sW d ∧ sW d ≤ 8) ∧ (1 ≤ sH d ∧ sH d ≤ 6) ∧ (1 ≤ sS d ∧ sS d ≤ 9) ∧ (∀ s p, sLt d s p = -1 ∨ ∃ n, n < 26 ∧ sLt d s p = nI n) ∧ (∀ s r, 1 ≤ sSz d s r ∧ sSz d s r ≤ 9) ∧ sLen d ≤ 24 ∧ ∀ k, sMs d k < 26
-- spots: 48 * side + 8 * row + column
def qhas (d : SH) (q : Nat) : Prop := q % 48 / 8 < sH d ∧ q % 8 < sW d
def qpl (d : SH) (q : Nat) : Nat := q % 48 / 8 * sW d + q % 8
noncomputable def qlt (d : SH) (q : Nat) : Int32 := cif (qhas d q) (sLt d (q / 48) (qpl d q)) (-1)
noncomputable def qsz (d : SH) (q : Nat) : Nat := cif (qhas d q) (sSz d (q / 48) (q % 48 / 8)) 1
def qbh (d : SH) (q : Nat) : Nat := (if q < 48 then 48 else 0) + 8 * (q % 48 / 8) + (sW d - 1 - q % 8)
def qcell (d : SH) (q : Nat) : Nat := if q < 48 then q else 8 * (q % 48 / 8) + (sW d - 1 - q % 8)
def gnB (d : SH) (b : Nat) : Prop := (b / 8 < sH d ∧ b % 8 < sW d) ∧ sGn d (b / 8 * sW d + b % 8)
def qcu (d : SH) (q : Nat) : Prop := qlt d q ≠ -1 ∧ ¬ gnB d (qcell d q) ∧ sS d ≤ qsz d q
noncomputable def msA (d : SH) (k : Nat) : Int32 := cif (k < sLen d) (nI (sMs d k)) (-1)
noncomputable def inMs (d : SH) (x : Int32) : Nat := cnt (fun k => nI (sMs d k) = x) (sLen d)
-- the class: refs that stay
def shKs (k : Nat) : Prop := k = 2 ∨ k = 8 ∨ ∃ i, i < 8 ∧ k = 34 + 4 * i
theorem shKs_sh {k : Nat} (h : shKs k) : shK k = some (.inl 3) ∧ shK (k + 1) = some (.inr (0, 96)) ∧ shK (k + 2) = some (.inr (0, 12)) ∧ shK (k + 3) = some (.inr (0, 24)) := by
  have h0 : ∀ i : Fin 8, shK (34 + 4 * i.val) = some (.inl 3) ∧ shK (34 + 4 * i.val + 1) = some (.inr (0, 96)) ∧ shK (34 + 4 * i.val + 2) = some (.inr (0, 12)) ∧ shK (34 + 4 * i.val + 3) = some (.inr (0, 24)) := by decide +kernel
  rcases h with rfl | rfl | ⟨i, hi, rfl⟩
  · exact ⟨rfl, rfl, rfl, rfl⟩
  · exact ⟨rfl, rfl, rfl, rfl⟩
  · exact h0 ⟨i, hi⟩
def CBr (R : Nat → Nat → Option Nat) : Prop :=
  (R 0 0 = some 1 ∧ R 0 3 = some 2 ∧ R 0 4 = some 6 ∧ R 0 6 = some 7 ∧ R 0 7 = some 13 ∧ R 0 8 = some 16) ∧ (∀ k, shKs k → R k 3 = some (k + 1) ∧ R k 4 = some (k + 2) ∧ R k 6 = some (k + 3)) ∧ (R 7 0 = some 8 ∧ R 7 1 = some 12) ∧ (R 13 0 = some 14 ∧ R 13 1 = some 15) ∧ (R 17 0 = some 18 ∧ R 17 1 = some 19) ∧
  (R 16 0 = some 17 ∧ R 16 1 = some 20 ∧ R 16 2 = some 21 ∧ R 16 3 = some 22 ∧ R 16 4 = some 31 ∧ R 16 6 = some 32 ∧ R 16 7 = some 33) ∧ (∀ i, i < 8 → R 22 i = some (23 + i)) ∧ True
def CB (h : AH) : Prop := 68 ≤ hN h ∧ CBr (hR h)
theorem CB_sI {h : AH} {a j : Nat} {x : Int32} (c : CB h) : CB (sI h a j x) := c
theorem CB_sL {h : AH} {a j : Nat} {x : Int64} (c : CB h) : CB (sL h a j x) := c
theorem CB_rI {h : AH} {a : Nat} {g : Nat → Int32} (c : CB h) : CB (rI h a g) := c
/-- the Sheet at k holds d -/
def CR (h : AH) (k : Nat) (d : SH) : Prop :=
  (hI h k 0 = nI (sW d) ∧ hI h k 1 = nI (sH d) ∧ hI h k 2 = nI (sS d) ∧ hL h k 5 = mkL (gnB d) ∧ hI h k 7 = nI (sLen d) ∧ hI h k 8 = nI (sCu d) ∧ hI h k 9 = nI (sTk d)) ∧
  (∀ q, q < 96 → qhas d q → hI h (k + 1) q = sLt d (q / 48) (qpl d q)) ∧ (∀ s r, s < 2 → r < sH d → hI h (k + 2) (6 * s + r) = nI (sSz d s r)) ∧ ∀ j, j < sLen d → hI h (k + 3) j = nI (sMs d j)
theorem qlt_r {d : SH} (g : GS d) (q : Nat) : qlt d q = -1 ∨ ∃ n, n < 26 ∧ qlt d q = nI n := by
  unfold qlt
  rcases Classical.em (qhas d q) with h | h
  · rw [cif_t h]; exact g.2.2.2.1 _ _
  · rw [cif_f h]; exact Or.inl rfl
theorem qcell_lt {d : SH} (g : GS d) {q : Nat} (hq : q < 96) : qcell d q < 64 := by
  have := g.1
  unfold qcell
  split <;> omega
theorem qhas_of_lt {d : SH} {q : Nat} (h : qlt d q ≠ -1) : qhas d q := Classical.byContradiction fun z => h (cif_f z)
theorem cnt_no {P : Nat → Prop} {n : Nat} (h : ¬ P n) : cnt P (n + 1) = cnt P n := by simp only [cnt, bN_f h, Nat.add_zero]
theorem cnt_yes {P : Nat → Prop} {n : Nat} (h : P n) : cnt P (n + 1) = cnt P n + 1 := by simp only [cnt, bN_t h]
theorem cnt_s {P : Nat → Prop} {n : Nat} : cnt P (n + 1) = cnt P n + bN (P n) := rfl
