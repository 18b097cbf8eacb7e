/-! the parser on a text: one statement after another -/
theorem go_step {n m a : Nat} {Y : Nat → Int32} {e : Int32 × Int32} {fl : Nat → Nat} {s : SH} (he : e.1 = 0) (ha : a < n) (h : Y a ≠ nI 32) : pGo n Y (m + 1) ((a, e), fl, s) = pGo n Y m (pSt n Y ((a, e), fl, s)) := by
  have s0 : pSp n Y (a, e) = (a, e) := pSp_run (c := 0) (by omega) (fun j hj => absurd hj (Nat.not_lt_zero j)) (Or.inr h)
  show cif (e.1 = 0 ∧ (pSp n Y (a, e)).1 < n) (pGo n Y m (pSt n Y (pSp n Y (a, e), fl, s))) _ = _
  rw [s0, cif_t ⟨he, ha⟩]
theorem go_end {n m : Nat} {Y : Nat → Int32} {e : Int32 × Int32} {fl : Nat → Nat} {s : SH} : pGo n Y m ((n, e), fl, s) = ((n, e), fl, s) := by
  cases m with
  | zero => rfl
  | succ m =>
    have s0 : pSp n Y (n, e) = (n, e) := pSp_run (c := 0) (by omega) (fun j hj => absurd hj (Nat.not_lt_zero j)) (Or.inl rfl)
    show cif (e.1 = 0 ∧ (pSp n Y (n, e)).1 < n) _ _ = _
    rw [s0, cif_f (fun z => absurd z.2 (Nat.lt_irrefl n))]
/-- a statement that ends at b, c spaces and a semicolon behind it -/
theorem st_of {n b c : Nat} {Y : Nat → Int32} {e : Int32 × Int32} {z : PQZ} {fl : Nat → Nat} {s : SH} (h : pStA n Y z = ((b, e), fl, s)) (hb : b + c < n) (h1 : ∀ j, j < c → Y (b + j) = nI 32) (h2 : Y (b + c) = nI 59) : pSt n Y z = ((b + c + 1, e), fl, s) := by
  unfold pSt
  rw [h]
  show (pSc n Y (b, e), fl, s) = _
  rw [pSc_one hb h1 h2]
