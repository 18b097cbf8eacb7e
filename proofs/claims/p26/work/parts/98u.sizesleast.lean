/-! the parser on the law's text: sizes and least read -/
theorem sz_run {n m a c K : Nat} {Y : Nat → Int32} {e : Int32 × Int32} {fl : Nat → Nat} {s : SH} {f : Nat → Nat} (he : e.1 = 0) (hc : c ≤ 1) (hK : K = sH s + sH s) (hf : fl 2 = 0) (w : WDa Y 3 a) (hn : a + 5 + 2 * K + c < n) (hd : ∀ r, r < K → (1 ≤ f r ∧ f r ≤ 9) ∧ Y (a + 5 + 2 * r) = nI 32 ∧ Y (a + 5 + 2 * r + 1) = nI (48 + f r)) (s2 : ∀ j, j < c → Y (a + 5 + 2 * K + j) = nI 32) (s3 : Y (a + 5 + 2 * K + c) = nI 59) : pGo n Y (m + 1) ((a, e), fl, s) = pGo n Y m ((a + 5 + 2 * K + c + 1, e), flS fl 2, dSizes s (nbv n Y (a + 5, e))) ∧ ∀ r, r < K → nbv n Y (a + 5, e) r = f r := by
  obtain ⟨a1, a2⟩ := pNi_run (n := n) (a := a + 5) (e := e) (f := f) K (by omega) hd (Or.inr (by
    rcases (by omega : c = 0 ∨ c = 1) with z | z
    · exact ⟨59, by omega, by omega, by rw [z] at s3; exact s3⟩
    · exact ⟨32, by omega, by omega, s2 0 (by omega)⟩))
  have f0 : Y a ≠ nI 32 := by rw [show Y a = zC 3 0 from w.1 0 (by decide)]; decide +kernel
  have t := st_3 (n := n) (e := e) (fl := fl) (s := s) (by omega) w hf
  rw [← hK, a1] at t
  refine ⟨?_, a2⟩
  rw [go_step he (by omega) f0]
  exact congrArg (pGo n Y m) (st_of (c := c) t hn s2 s3)
theorem ls_run {n m a v : Nat} {Y : Nat → Int32} {e : Int32 × Int32} {fl : Nat → Nat} {s : SH} (he : e.1 = 0) (hf : fl 3 = 0) (w : WDa Y 4 a) (hn : a + 5 + 2 + 1 < n) (hv : 1 ≤ v ∧ v ≤ 9) (h0 : Y (a + 5) = nI 32) (h1 : Y (a + 5 + 1) = nI (48 + v)) (s2 : Y (a + 5 + 2) = nI 32) (s3 : Y (a + 5 + 2 + 1) = nI 59) : pGo n Y (m + 1) ((a, e), fl, s) = pGo n Y m ((a + 5 + 2 + 1 + 1, e), flS fl 3, dLeast s v) := by
  obtain ⟨a1, a2⟩ := pN_one (n := n) (a := a + 5) (d := v) (most := 9) (Y := Y) (e := e) (by omega) h0 ⟨hv.1, hv.2, by omega⟩ h1 (Or.inr ⟨32, by omega, by omega, s2⟩)
  have f0 : Y a ≠ nI 32 := by rw [show Y a = zC 4 0 from w.1 0 (by decide)]; decide +kernel
  have t := st_4 (n := n) (e := e) (fl := fl) (s := s) (by omega) w hf
  rw [a1, a2] at t
  rw [go_step he (by omega) f0]
  exact congrArg (pGo n Y m) (st_of (c := 1) t hn (fun j hj => by rw [show j = 0 by omega]; exact s2) s3)
