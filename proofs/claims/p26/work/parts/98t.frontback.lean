/-! the parser on the law's text: front and back read -/
theorem fb_run {n W H q1 q2 c : Nat} {Y : Nat → Int32} {e : Int32 × Int32} {g0 g1 : Nat → Nat → Nat} (he : e.1 = 0) (hW : 1 ≤ W) (hc : c ≤ 1) (e1 : q1 = 14 + H * (W + 1) + 1) (e2 : q2 = q1 + 4 + H * (W + 1)) (hn : q2 + c < n) (w1 : WDa Y 1 9) (l1 : LNa Y 14 W H g0) (s1 : Y (14 + H * (W + 1)) = nI 59) (w2 : WDa Y 2 q1) (l2 : LNa Y (q1 + 4) W H g1) (s2 : ∀ j, j < c → Y (q2 + j) = nI 32) (s3 : Y (q2 + c) = nI 59) : pGo n Y 5 ((9, e), (fun _ => 0), newS W H) = pGo n Y 3 ((q2 + c + 1, e), flS (flS (fun _ => 0) 0) 1, dSide (dSide (newS W H) 0 (lnv n Y W (14, e))) 1 (lnv n Y W (q1 + 4, e))) := by
  have n59 : ∀ {x : Int32}, x = nI 59 → ∃ c, c < 128 ∧ ((c < 97 ∨ 122 < c) ∧ c ≠ 45) ∧ x = nI c := fun h => ⟨59, by omega, by omega, h⟩
  have a1 := (lines_at (n := n) (e := e) hW l1 (by omega) (Or.inr (n59 s1))).1
  have a2 := (lines_at (n := n) (e := e) hW l2 (by omega) (Or.inr (by
    rw [← e2]
    rcases (by omega : c = 0 ∨ c = 1) with z | z
    · exact n59 (by rw [z] at s3; exact s3)
    · exact ⟨32, by omega, by omega, s2 0 (by omega)⟩))).1
  have f0 : Y 9 ≠ nI 32 := by rw [show Y 9 = zC 1 0 from w1.1 0 (by decide)]; decide +kernel
  have f1 : Y q1 ≠ nI 32 := by rw [show Y q1 = zC 2 0 from w2.1 0 (by decide)]; decide +kernel
  have t1 := st_1 (n := n) (e := e) (fl := fun _ => 0) (s := newS W H) (by omega) w1 rfl
  rw [show pLi n Y (sW (newS W H)) (sH (newS W H)) (9 + 5, e) = _ from a1] at t1
  have t2 := st_2 (n := n) (e := e) (fl := flS (fun _ => 0) 0) (s := dSide (newS W H) 0 (lnv n Y W (14, e))) (by omega) w2 rfl
  rw [show pLi n Y (sW (dSide (newS W H) 0 (lnv n Y W (14, e)))) (sH (dSide (newS W H) 0 (lnv n Y W (14, e)))) (q1 + 4, e) = _ from a2, ← e2] at t2
  rw [go_step he (by omega) f0, st_of (c := 0) t1 (by omega) (fun j hj => absurd hj (Nat.not_lt_zero j)) s1]
  show pGo n Y 4 ((14 + H * (W + 1) + 1, e), _, _) = _
  rw [← e1, go_step he (by omega) f1]
  have t3 := st_of (c := c) t2 hn s2 s3
  exact congrArg (pGo n Y 3) t3
