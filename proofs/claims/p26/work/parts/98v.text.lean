/-! the law's text, as it grows -/
theorem gA1 {T U : List Nat} {j : Nat} (h : j < T.length) : (T ++ U).getD j 0 = T.getD j 0 := by
  rw [List.getD_eq_getElem?_getD, List.getD_eq_getElem?_getD, List.getElem?_append_left h]
theorem gA2 {T U : List Nat} {j i : Nat} (e : j = T.length + i) : (T ++ U).getD j 0 = U.getD i 0 := by
  rw [List.getD_eq_getElem?_getD, List.getD_eq_getElem?_getD, List.getElem?_append_right (by omega), show j - T.length = i by omega]
theorem zT8_0 : (zT 8).getD 0 0 = 32 := by decide +kernel
def okq (c : Nat) : Prop := c = 45 ∨ (97 ≤ c ∧ c ≤ 122)
/-- where the line r begins, with its space -/
def psn (W H r : Nat) : Nat := (if r < H then 14 else 19) + r * (W + 1)
def hdT (W H : Nat) : List Nat := ((zT 7 ++ [48 + W]) ++ zT 8) ++ [48 + H]
/-- page, front, back stand in T as far as the lines before m want it; the lines before m -/
def LNs (T : List Nat) (W H m : Nat) (Ln : Nat → List Nat) : Prop :=
  (∀ j, j < 8 → T.getD j 0 = (hdT W H).getD j 0) ∧ (0 < m → ∀ j, j < 6 → T.getD (8 + j) 0 = (zT 9).getD j 0) ∧ (H < m → ∀ j, j < 5 → T.getD (14 + H * (W + 1) + j) 0 = (zT 10).getD j 0) ∧
  ∀ r, r < m → T.getD (psn W H r) 0 = 32 ∧ ∀ j, j < W → T.getD (psn W H r + 1 + j) 0 = (Ln r).getD j 0
def LT (T : List Nat) (W H m : Nat) (Ln : Nat → List Nat) : Prop := T.length = (if m = 0 then 8 else if m ≤ H then 14 + m * (W + 1) else 19 + m * (W + 1)) ∧ LNs T W H m Ln
def mkT (H m : Nat) : List Nat := if m = 0 then zT 9 else if m = H then zT 10 else []
def LT2 (T : List Nat) (W H m : Nat) (Ln : Nat → List Nat) : Prop :=
  T.length = psn W H m ∧ (∀ j, j < 8 → T.getD j 0 = (hdT W H).getD j 0) ∧ (∀ j, j < 6 → T.getD (8 + j) 0 = (zT 9).getD j 0) ∧ (H ≤ m → ∀ j, j < 5 → T.getD (14 + H * (W + 1) + j) 0 = (zT 10).getD j 0) ∧
  ∀ r, r < m → T.getD (psn W H r) 0 = 32 ∧ ∀ j, j < W → T.getD (psn W H r + 1 + j) 0 = (Ln r).getD j 0
theorem mul_step {a b w : Nat} (h : a < b) : a * (w + 1) + (w + 1) ≤ b * (w + 1) := by
  have := Nat.mul_le_mul_right (w + 1) (show a + 1 ≤ b from h)
  rw [Nat.succ_mul] at this
  exact this
theorem LT_0 {W H : Nat} {Ln : Nat → List Nat} : LT (hdT W H) W H 0 Ln := ⟨by rfl, fun j _ => rfl, fun h => absurd h (Nat.lt_irrefl 0), fun h => absurd h (Nat.not_lt_zero _), fun r h => absurd h (Nat.not_lt_zero r)⟩
theorem psn_lt {W H r m : Nat} (h : r < m) : psn W H r + 1 + W ≤ psn W H m := by
  have := mul_step (w := W) h
  unfold psn
  by_cases e : r < H
  · rw [if_pos e]
    by_cases e2 : m < H
    · rw [if_pos e2]; omega
    · rw [if_neg e2]; omega
  · rw [if_neg e, if_neg (by omega)]; omega
theorem LT_mk {T : List Nat} {W H m : Nat} {Ln : Nat → List Nat} (hH : 1 ≤ H) (l : LT T W H m Ln) : LT2 (T ++ mkT H m) W H m Ln := by
  obtain ⟨h0, h1, h2, h3, h4⟩ := l
  unfold mkT
  by_cases e : m = 0
  · subst e
    rw [if_pos rfl] at h0 ⊢
    have z9 : (zT 9).length = 6 := rfl
    refine ⟨?_, fun j hj => ?_, fun j hj => ?_, fun z => absurd z (by omega), fun r hr => absurd hr (Nat.not_lt_zero r)⟩
    · rw [List.length_append, h0, z9]; unfold psn; rw [if_pos (show 0 < H from hH), Nat.zero_mul]
    · rw [gA1 (by omega)]; exact h1 j hj
    · exact gA2 (by omega)
  · rw [if_neg e] at h0 ⊢
    by_cases e2 : m = H
    · subst e2
      rw [if_pos (Nat.le_refl m)] at h0
      rw [if_pos rfl]
      have z10 : (zT 10).length = 5 := rfl
      have q : 1 * (W + 1) ≤ m * (W + 1) := Nat.mul_le_mul_right _ hH
      refine ⟨?_, fun j hj => ?_, fun j hj => ?_, fun _ j hj => ?_, fun r hr => ?_⟩
      · rw [List.length_append, h0, z10]; unfold psn; rw [if_neg (Nat.lt_irrefl m)]; omega
      · rw [gA1 (by omega)]; exact h1 j hj
      · rw [gA1 (by omega)]; exact h2 (by omega) j hj
      · exact gA2 (by omega)
      · have hs := mul_step (w := W) hr
        have hp : psn W m r = 14 + r * (W + 1) := by unfold psn; rw [if_pos hr]
        refine ⟨?_, fun j hj => ?_⟩
        · rw [gA1 (by omega)]; exact (h4 r hr).1
        · rw [gA1 (by omega)]; exact (h4 r hr).2 j hj
    · rw [if_neg e2, List.append_nil]
      refine ⟨?_, h1, h2 (by omega), fun z => h3 (by omega), h4⟩
      rw [h0]
      unfold psn
      by_cases e3 : m ≤ H
      · rw [if_pos e3, if_pos (by omega)]
      · rw [if_neg e3, if_neg (by omega)]
theorem LT_line {T U : List Nat} {W H m : Nat} {Ln : Nat → List Nat} (l : LT2 T W H m Ln) (hU : U.length = W) : LT ((T ++ zT 8) ++ U) W H (m + 1) (fun r => if r = m then U else Ln r) := by
  obtain ⟨h0, h1, h2, h3, h4⟩ := l
  have z8 : (zT 8).length = 1 := rfl
  have hl : (T ++ zT 8).length = psn W H m + 1 := by rw [List.length_append, h0, z8]
  have s1 : (m + 1) * (W + 1) = m * (W + 1) + (W + 1) := Nat.succ_mul m (W + 1)
  have p14 : 14 ≤ psn W H m := by unfold psn; split <;> omega
  have p19 : H ≤ m → 19 + H * (W + 1) ≤ psn W H m := fun h => by
    have := Nat.mul_le_mul_right (W + 1) h
    unfold psn
    rw [if_neg (by omega)]
    omega
  refine ⟨?_, fun j hj => ?_, fun _ j hj => ?_, fun z j hj => ?_, fun r hr => ?_⟩
  · rw [List.length_append, hl, hU, if_neg (by omega)]
    unfold psn
    by_cases e : m < H
    · rw [if_pos e, if_pos (by omega)]; omega
    · rw [if_neg e, if_neg (by omega)]; omega
  · rw [gA1 (by omega), gA1 (by omega)]; exact h1 j hj
  · rw [gA1 (by omega), gA1 (by omega)]; exact h2 j hj
  · have := p19 (by omega)
    rw [gA1 (by omega), gA1 (by omega)]; exact h3 (by omega) j hj
  · by_cases e : r = m
    · subst e
      refine ⟨?_, fun j hj => ?_⟩
      · rw [gA1 (by omega), gA2 (i := 0) (by omega)]; exact zT8_0
      · show _ = (if r = r then U else Ln r).getD j 0
        rw [gA2 (i := j) (by omega), if_pos rfl]
    · have hlt := psn_lt (W := W) (H := H) (show r < m by omega)
      refine ⟨?_, fun j hj => ?_⟩
      · rw [gA1 (by omega), gA1 (by omega)]; exact (h4 r (by omega)).1
      · show _ = (if r = m then U else Ln r).getD j 0
        rw [gA1 (by omega), gA1 (by omega), if_neg e]; exact (h4 r (by omega)).2 j hj
/-- everything before a stands in T2 as in T -/
def Pfx (a : Nat) (T T2 : List Nat) : Prop := a ≤ T.length ∧ ∃ U, T2 = T ++ U
theorem Pfx.get {a j : Nat} {T T2 : List Nat} (p : Pfx a T T2) (h : j < a) : T2.getD j 0 = T.getD j 0 := by
  obtain ⟨h1, U, rfl⟩ := p
  exact gA1 (by omega)
theorem Pfx.add {a : Nat} {T T2 U : List Nat} (p : Pfx a T T2) : Pfx a T (T2 ++ U) := by
  obtain ⟨h1, V, rfl⟩ := p
  exact ⟨h1, V ++ U, by rw [List.append_assoc]⟩
theorem Pfx.rf {T : List Nat} : Pfx T.length T T := ⟨Nat.le_refl _, [], by rw [List.append_nil]⟩
/-- sizes from a on, the first m of them -/
def SZs (T : List Nat) (a m : Nat) (f : Nat → Nat) : Prop := (∀ j, j < 6 → T.getD (a + j) 0 = (zT 11).getD j 0) ∧ ∀ r, r < m → T.getD (a + 6 + 2 * r) 0 = 32 ∧ T.getD (a + 6 + 2 * r + 1) 0 = 48 + f r
theorem SZ_0 {T : List Nat} {a : Nat} {f : Nat → Nat} (h : T.length = a) : SZs (T ++ zT 11) a 0 f ∧ (T ++ zT 11).length = a + 6 + 2 * 0 := by
  have z : (zT 11).length = 6 := rfl
  exact ⟨⟨fun j hj => gA2 (by omega), fun r hr => absurd hr (Nat.not_lt_zero r)⟩, by rw [List.length_append]; omega⟩
theorem SZ_step {T : List Nat} {a m x : Nat} {f : Nat → Nat} (s : SZs T a m f) (h : T.length = a + 6 + 2 * m) : SZs ((T ++ zT 8) ++ [48 + x]) a (m + 1) (fun r => if r = m then x else f r) ∧ ((T ++ zT 8) ++ [48 + x]).length = a + 6 + 2 * (m + 1) := by
  have z : (T ++ zT 8).length = a + 6 + 2 * m + 1 := by rw [List.length_append, h]; rfl
  refine ⟨⟨fun j hj => ?_, fun r hr => ?_⟩, by rw [List.length_append, z]; show _ + 1 = _; omega⟩
  · rw [gA1 (by omega), gA1 (by omega)]; exact s.1 j hj
  · by_cases e : r = m
    · subst e
      refine ⟨?_, ?_⟩
      · rw [gA1 (by omega), gA2 (i := 0) (by omega)]; exact zT8_0
      · show _ = 48 + (if r = r then x else f r)
        rw [gA2 (i := 0) (by omega), if_pos rfl]; rfl
    · refine ⟨?_, ?_⟩
      · rw [gA1 (by omega), gA1 (by omega)]; exact (s.2 r (by omega)).1
      · show _ = 48 + (if r = m then x else f r)
        rw [gA1 (by omega), gA1 (by omega), if_neg e]; exact (s.2 r (by omega)).2
theorem SZs.pfx {T T2 : List Nat} {a m : Nat} {f : Nat → Nat} (s : SZs T a m f) (p : Pfx (a + 6 + 2 * m) T T2) : SZs T2 a m f :=
  ⟨fun j hj => by rw [p.get (by omega)]; exact s.1 j hj, fun r hr => by rw [p.get (by omega), p.get (by omega)]; exact s.2 r hr⟩
theorem LNs.pfx {T T2 : List Nat} {W H m : Nat} {Ln : Nat → List Nat} (hH : 1 ≤ H) (hm : H < m) (s : LNs T W H m Ln) (p : Pfx (psn W H m) T T2) : LNs T2 W H m Ln := by
  have hq : 19 + H * (W + 1) ≤ psn W H m := by
    have := Nat.mul_le_mul_right (W + 1) (show H ≤ m by omega)
    unfold psn
    rw [if_neg (by omega)]
    omega
  refine ⟨fun j hj => by rw [p.get (by omega)]; exact s.1 j hj, fun z j hj => by rw [p.get (by omega)]; exact s.2.1 z j hj, fun z j hj => by rw [p.get (by omega)]; exact s.2.2.1 z j hj, fun r hr => ?_⟩
  have hlt := psn_lt (W := W) (H := H) hr
  exact ⟨by rw [p.get (by omega)]; exact (s.2.2.2 r hr).1, fun j hj => by rw [p.get (by omega)]; exact (s.2.2.2 r hr).2 j hj⟩
/-- least from a on -/
def LSs (T : List Nat) (a v : Nat) : Prop := (∀ j, j < 7 → T.getD (a + j) 0 = (zT 12).getD j 0) ∧ T.getD (a + 7) 0 = 48 + v
theorem LS_of {T : List Nat} {a v : Nat} (h : T.length = a) : LSs ((T ++ zT 12) ++ [48 + v]) a v ∧ ((T ++ zT 12) ++ [48 + v]).length = a + 8 := by
  have z : (zT 12).length = 7 := rfl
  have z2 : (T ++ zT 12).length = a + 7 := by rw [List.length_append]; omega
  exact ⟨⟨fun j hj => by rw [gA1 (by omega)]; exact gA2 (by omega), by rw [gA2 (i := 0) (by omega)]; rfl⟩, by rw [List.length_append, z2]; rfl⟩
theorem LSs.pfx {T T2 : List Nat} {a v : Nat} (s : LSs T a v) (p : Pfx (a + 8) T T2) : LSs T2 a v := ⟨fun j hj => by rw [p.get (by omega)]; exact s.1 j hj, by rw [p.get (by omega)]; exact s.2⟩
