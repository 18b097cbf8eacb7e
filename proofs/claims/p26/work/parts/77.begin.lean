/-! the state with which the law begins -/
def T0 : ST := (newS 1 1, (0, fun _ => 0), -1, (0, fun _ => newS 1 1))
theorem GT0 : GT T0 := ⟨GS_new (by omega) (by omega), Nat.zero_le _, fun _ => ⟨0, rfl⟩, Nat.zero_le _, fun _ => GS_new (by omega) (by omega)⟩
/-- what the maker leaves: the object as it begins, and all refs -/
theorem at0 {h h2 : AH} (y : Sb 66 h h2) (n2 : 68 ≤ hN h2) (b4 : BD 66 RS4 h) (i4 : BI IS4 h) (r4 : CR h 2 (newS 1 1)) (p4 : ∀ j, j < 8 → hR h 6 j = some (34 + 4 * j) ∧ hR h (34 + 4 * j) 3 = some (34 + 4 * j + 1) ∧ hR h (34 + 4 * j) 4 = some (34 + 4 * j + 2) ∧ hR h (34 + 4 * j) 6 = some (34 + 4 * j + 3)) : IM h2 T0 := by
  have g4 : ∀ q ∈ RS4, hR h2 q.1 q.2.1 = some q.2.2 := fun q hq => by rw [(y q.1 ((by decide +kernel : ∀ q ∈ RS4, q.1 < 66) q hq)).2.2]; exact b4.2 q hq
  have gp : ∀ j, j < 8 → hR h2 6 j = some (34 + 4 * j) ∧ hR h2 (34 + 4 * j) 3 = some (34 + 4 * j + 1) ∧ hR h2 (34 + 4 * j) 4 = some (34 + 4 * j + 2) ∧ hR h2 (34 + 4 * j) 6 = some (34 + 4 * j + 3) := fun j hj => by
    rw [(y 6 (by omega)).2.2, (y (34 + 4 * j) (by omega)).2.2]
    exact p4 j hj
  have c : CB h2 := by
    exact ⟨n2, ⟨g4 (0, 0, 1) (by decide +kernel), g4 (0, 3, 2) (by decide +kernel), g4 (0, 4, 6) (by decide +kernel), g4 (0, 6, 7) (by decide +kernel), g4 (0, 7, 13) (by decide +kernel), g4 (0, 8, 16) (by decide +kernel)⟩, (fun k hk => by
      rcases hk with rfl | rfl | ⟨i, hi, rfl⟩
      · exact ⟨g4 (2, 3, 3) (by decide +kernel), g4 (2, 4, 4) (by decide +kernel), g4 (2, 6, 5) (by decide +kernel)⟩
      · exact ⟨g4 (8, 3, 9) (by decide +kernel), g4 (8, 4, 10) (by decide +kernel), g4 (8, 6, 11) (by decide +kernel)⟩
      · exact (gp i hi).2), ⟨g4 (7, 0, 8) (by decide +kernel), g4 (7, 1, 12) (by decide +kernel)⟩, ⟨g4 (13, 0, 14) (by decide +kernel), g4 (13, 1, 15) (by decide +kernel)⟩, ⟨g4 (17, 0, 18) (by decide +kernel), g4 (17, 1, 19) (by decide +kernel)⟩, ⟨g4 (16, 0, 17) (by decide +kernel), g4 (16, 1, 20) (by decide +kernel), g4 (16, 2, 21) (by decide +kernel), g4 (16, 3, 22) (by decide +kernel), g4 (16, 4, 31) (by decide +kernel), g4 (16, 6, 32) (by decide +kernel), g4 (16, 7, 33) (by decide +kernel)⟩, (fun i hi => by
      match i, hi with
      | 0, _ => exact g4 (22, 0, 23) (by decide +kernel)
      | 1, _ => exact g4 (22, 1, 24) (by decide +kernel)
      | 2, _ => exact g4 (22, 2, 25) (by decide +kernel)
      | 3, _ => exact g4 (22, 3, 26) (by decide +kernel)
      | 4, _ => exact g4 (22, 4, 27) (by decide +kernel)
      | 5, _ => exact g4 (22, 5, 28) (by decide +kernel)
      | 6, _ => exact g4 (22, 6, 29) (by decide +kernel)
      | 7, _ => exact g4 (22, 7, 30) (by decide +kernel)), trivial⟩
  have hi0 : ∀ q ∈ IS4, hI h2 q.1 q.2.1 = q.2.2 := i4.keep y (by decide +kernel)
  exact ⟨⟨c, GT0, r4.sb y (by omega), ⟨hi0 (0, 1, nI 0) (by decide +kernel), fun j hj => absurd hj (Nat.not_lt_zero _)⟩, hi0 (0, 2, -1) (by decide +kernel), hi0 (0, 5, nI 0) (by decide +kernel), id, ⟨fun i hi => ⟨hi, (gp i hi).1⟩, fun i j _ _ e => e⟩, fun i hi => absurd hi (Nat.not_lt_zero _)⟩, Or.inl (hi0 (0, 9, nI 0) (by decide +kernel))⟩
