/-! what the object answers to a change -/
theorem ol_yes {t : ST} {n : Nat} (hn : 1 ≤ n ∧ n ≤ 9) : oLeast t (nI n) = (ri (nI (sS (tC t))), (withS (tC t) n, (tRem t).2)) := by
  have e : oLeast t (nI n) = _ := cif_t ⟨n, hn, rfl⟩
  rw [i2n_nI (by omega)] at e
  exact e
theorem ol_no {t : ST} {n : Nat} (hn : n = 0 ∨ (9 < n ∧ n < 100)) : oLeast t (nI n) = (.inr eIA, t) := cif_f (fun ⟨m, h, e⟩ => by
  have := (nI_eq (a := n) (b := m) (by omega) (by omega)).mp e
  omega)
theorem om_yes {t : ST} {c : Nat} (h : sCells (tC t) ≤ 48) (hc : c < sCells (tC t)) (hg : sGn (tC t) c) : oMend t (nI c) = (ri (nI (nThere (mdS (tC t) c))), (mdS (tC t) c, (tRem t).2)) := by
  have e : oMend t (nI c) = _ := cif_t ⟨c, hc, rfl⟩
  rw [i2n_nI (by omega), cif_t hg] at e
  exact e
theorem om_not {t : ST} {c : Nat} (h : sCells (tC t) ≤ 48) (hc : c < sCells (tC t)) (hg : ¬ sGn (tC t) c) : oMend t (nI c) = (.inr eIS, t) := by
  have e : oMend t (nI c) = _ := cif_t ⟨c, hc, rfl⟩
  rw [i2n_nI (by omega), cif_f hg] at e
  exact e
theorem om_off {t : ST} {c : Nat} (h : sCells (tC t) ≤ 48) (hc : sCells (tC t) ≤ c ∧ c < 1000) : oMend t (nI c) = (.inr eIO, t) := cif_f (fun ⟨m, h2, e⟩ => by
  have := (nI_eq (a := c) (b := m) (by omega) (by omega)).mp e
  omega)
theorem oc_yes {t : ST} (h8 : sLen (tC t) ≤ 8) {l : List (Nat × Nat)} (hb : BP (tC t) noA l) (hne : l ≠ []) : oCut t = (ri (nI l.length), (tkL (tC t) l, (tRem t).2)) := by
  have e : oCut t = _ := cif_f (fun z => z.elim (fun y => absurd y (by omega)) (fun y => y ⟨l, hb, hne⟩))
  rw [bestL_eq hb] at e
  exact e
theorem oc_no {t : ST} (h : 8 < sLen (tC t) ∨ ¬ ∃ l, BP (tC t) noA l ∧ l ≠ []) : oCut t = (.inr eIS, t) := cif_t h
theorem wn_i (x : Int32) : wn (ri x) = x := rfl
theorem wn_E : wn (.inr eIO) = -2000000097 ∧ wn (.inr eIA) = -2000000098 ∧ wn (.inr eIS) = -2000000099 ∧ wn (.inr eNS) = -2000000100 := by decide
theorem plOk_pq {s : SH} {sd p : Nat} (hsd : sd < 2) (h48 : sCells s ≤ 48) (hp : p < 1000) : plOk s (nI sd) (nI p) ↔ p < sCells s := by
  constructor
  · rintro ⟨-, n, h1, h2⟩
    have := (nI_eq (a := p) (b := n) (by omega) (by omega)).mp h2
    omega
  · intro h
    exact ⟨by rcases (by omega : sd = 0 ∨ sd = 1) with rfl | rfl; exact Or.inl rfl; exact Or.inr rfl, p, h, rfl⟩
